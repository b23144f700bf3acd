/-! ===== reading THE TAPE: a place, whether it went wrong, the steps so far ===== -/
abbrev PS : Type := Int × Int × List Int
def tp (f : Int → Int) : Int → Int := fun j => f (121 + j)
def hr (t : Int → Int) (e : Int) (s : PS) : Int := if s.1 < e then t s.1 else -1
def adv (s : PS) : PS := (s.1 + 1, s.2)
def emi (z : Int) (s : PS) : PS := if s.2.1 = 0 then (s.1, s.2.1, s.2.2 ++ [z]) else s
def bad (s : PS) : PS := (s.1, 1, s.2.2)
def mstP (t : Int → Int) (e c : Int) (s : PS) : PS := if s.2.1 = 0 ∧ hr t e s = c then adv s else bad s
def spl (t : Int → Int) (e : Int) (i : Nat) : Nat → PS → PS
  | 0, s => s
  | m + 1, s => mstP t e (chS i (m : Int)) (spl t e i m s)
def fig (t : Int → Int) (e : Int) (s : PS) : Int × PS :=
  if s.2.1 = 0 ∧ 48 ≤ hr t e s ∧ hr t e s ≤ 57 then (if 48 < hr t e s ∧ 48 ≤ hr t e (adv s) ∧ hr t e (adv s) ≤ 57 then (10 * (hr t e s - 48) + hr t e (adv s) - 48, adv (adv s)) else (hr t e s - 48, adv s)) else (0, bad s)
def fdx (i : Nat) (h : Int) : Nat → Nat → Int
  | _, 0 => -1
  | k, m + 1 => if h = chS i (k : Int) then (k : Int) else fdx i h (k + 1) m
def am (t : Int → Int) (e : Int) (i : Nat) (s : PS) : Int × PS := (fdx i (hr t e s) 0 (lenS i).toNat, if fdx i (hr t e s) 0 (lenS i).toNat = -1 then s else adv s)
def orB (r : Int × PS) : PS := if r.1 = -1 then bad r.2 else r.2
def tsB (t : Int → Int) (e : Int) (s : PS) : Int × PS := if s.2.1 = 0 then am t e 8 s else (0, s)
def tsp (t : Int → Int) (e : Int) (s : PS) : PS :=
  emi ((am t e 7 s).1 + 8 * (tsB t e (orB (am t e 7 s))).1 + 32 * (fig t e (orB (tsB t e (orB (am t e 7 s))))).1) (fig t e (orB (tsB t e (orB (am t e 7 s))))).2
def lpP (t : Int → Int) (e c z : Int) (F : PS → PS) : Nat → PS → PS
  | 0, s => s
  | n + 1, s => if s.2.1 = 0 ∧ hr t e s = c then lpP t e c z F n (emi z (F (adv s))) else s
def evP (t : Int → Int) (e : Int) (F : PS → PS) (s : PS) : PS := lpP t e 38 (-2) F 101 (F s)
def soP (t : Int → Int) (e : Int) (F : PS → PS) (s : PS) : PS := lpP t e 124 (-3) (evP t e F) 101 (evP t e F s)
def fac (t : Int → Int) (e : Int) : Nat → PS → PS
  | 0, s => if s.2.1 = 0 then (if hr t e s = 33 ∨ hr t e s = 40 then bad s else tsp t e s) else s
  | d + 1, s => if s.2.1 = 0 then (if hr t e s = 33 then emi (-1) (fac t e d (adv s)) else if hr t e s = 40 then mstP t e 41 (soP t e (fac t e d) (adv s)) else tsp t e s) else s
/-- how reading goes on -/
def PB (e : Int) (s : PS) : Prop := 0 ≤ s.1 ∧ s.1 ≤ e ∧ (s.2.1 = 0 ∨ s.2.1 = 1)
def PN (e : Int) (s s' : PS) : Prop := PB e s' ∧ s.1 ≤ s'.1 ∧ s.1 - (s.2.2.length : Int) ≤ s'.1 - (s'.2.2.length : Int)
def PF1 (e : Int) (F : PS → PS) : Prop := ∀ s, PB e s → PN e s (F s)
theorem PN_rf {e : Int} {s : PS} (h : PB e s) : PN e s s := ⟨h, Int.le_refl _, Int.le_refl _⟩
theorem PN_tr {e : Int} {a b c : PS} (h : PN e a b) (h2 : PN e b c) : PN e a c := ⟨h2.1, Int.le_trans h.2.1 h2.2.1, Int.le_trans h.2.2 h2.2.2⟩
theorem hr_lt {t : Int → Int} {e c : Int} {s : PS} (h : hr t e s = c) (hc : 0 ≤ c) : s.1 < e := by
  unfold hr at h
  split at h
  · assumption
  · omega
theorem hr_b {f : Int → Int} {e : Int} {s : PS} (hT : ∀ j : Int, 0 ≤ j → j < e → 0 ≤ f (121 + j) ∧ f (121 + j) ≤ 127) (h0 : 0 ≤ s.1) : -1 ≤ hr (tp f) e s ∧ hr (tp f) e s ≤ 127 := by
  unfold hr tp
  split
  · have := hT s.1 h0 (by assumption)
    omega
  · omega
/-- a step on: the place is in THE TAPE -/
theorem adv_k {e : Int} {s : PS} (h : PB e s) (h2 : s.1 < e) : PB e (adv s) ∧ (adv s).1 = s.1 + 1 ∧ (adv s).2.2 = s.2.2 := ⟨⟨by have := h.1; show 0 ≤ s.1 + 1; omega, h2, h.2.2⟩, rfl, rfl⟩
theorem bad_k {e : Int} {s : PS} (h : PB e s) : PN e s (bad s) := ⟨⟨h.1, h.2.1, Or.inr rfl⟩, Int.le_refl _, Int.le_refl _⟩
theorem adv_n {e : Int} {s : PS} (h : PB e s) (h2 : s.1 < e) : PN e s (adv s) := ⟨(adv_k h h2).1, by show s.1 ≤ s.1 + 1; omega, by show s.1 - _ ≤ s.1 + 1 - _; unfold adv; dsimp only; omega⟩
theorem mstP_k {t : Int → Int} {e c : Int} (hc : 0 ≤ c) : PF1 e (mstP t e c) := fun s h => by
  unfold mstP
  split
  · exact adv_n h (hr_lt (by rename_i z; exact z.2) hc)
  · exact bad_k h
theorem spl_k {t : Int → Int} {e : Int} {i : Nat} (hi : i < 13) : ∀ m : Nat, (m : Int) ≤ lenS i → PF1 e (spl t e i m)
  | 0, _, s, h => PN_rf h
  | m + 1, hm, s, h => by
    have h1 := spl_k (t := t) hi m (by omega) s h
    exact PN_tr h1 (mstP_k (ch_b hi ⟨by omega, by omega⟩).1 _ h1.1)
theorem fig_k {t : Int → Int} {e : Int} : PF1 e (fun s => (fig t e s).2) := fun s h => by
  show PN e s (fig t e s).2
  unfold fig
  split
  · rename_i z
    have h1 : s.1 < e := hr_lt (t := t) rfl (by omega)
    split
    · rename_i z2
      have h2 : (adv s).1 < e := hr_lt (t := t) rfl (by omega)
      exact PN_tr (adv_n h h1) (adv_n (adv_k h h1).1 h2)
    · exact adv_n h h1
  · exact bad_k h
/-- a number read: one more of slack where it's right -/
theorem fig_s {t : Int → Int} {e : Int} {s : PS} (_h : PB e s) (h0 : (fig t e s).2.2.1 = 0) : s.1 + 1 ≤ (fig t e s).2.1 ∧ (fig t e s).2.2.2 = s.2.2 ∧ 0 ≤ (fig t e s).1 ∧ (fig t e s).1 ≤ 99 ∧ s.2.1 = 0 := by
  unfold fig at h0 ⊢
  split
  · rename_i z
    split
    · exact ⟨by show s.1 + 1 ≤ s.1 + 1 + 1; omega, rfl, by dsimp only; omega, by dsimp only; omega, z.1⟩
    · exact ⟨Int.le_refl _, rfl, by dsimp only; omega, by dsimp only; omega, z.1⟩
  · rename_i z
    rw [if_neg z] at h0
    exact absurd h0 (by show ¬ (1 : Int) = 0; decide)
theorem fig_b {t : Int → Int} {e : Int} {s : PS} : 0 ≤ (fig t e s).1 ∧ (fig t e s).1 ≤ 99 := by
  unfold fig
  (repeat' split) <;> dsimp only <;> omega
theorem fdx_b {i : Nat} {h : Int} (hi : i < 13) : ∀ (m k : Nat), ((k + m : Nat) : Int) ≤ lenS i → -1 ≤ fdx i h k m ∧ (fdx i h k m ≠ -1 → 0 ≤ fdx i h k m ∧ fdx i h k m < lenS i ∧ 0 ≤ h)
  | 0, k, _ => by
    unfold fdx
    exact ⟨by decide, fun z => absurd rfl z⟩
  | m + 1, k, hk => by
    unfold fdx
    split
    · rename_i z
      have := ch_b hi (k := (k : Int)) ⟨by omega, by omega⟩
      exact ⟨by omega, fun _ => ⟨by omega, by omega, by omega⟩⟩
    · exact fdx_b hi m (k + 1) (by omega)
theorem am_b {t : Int → Int} {e : Int} {i : Nat} {s : PS} (hi : i < 13) : -1 ≤ (am t e i s).1 ∧ (am t e i s).1 < lenS i ∧ ((am t e i s).1 ≠ -1 → s.1 < e ∧ (am t e i s).2 = adv s) ∧ ((am t e i s).1 = -1 → (am t e i s).2 = s) := by
  have hl := len_b hi
  have h := fdx_b (h := hr t e s) hi (lenS i).toNat 0 (by omega)
  refine ⟨h.1, ?_, fun z => ⟨hr_lt rfl (h.2 z).2.2, if_neg z⟩, fun z => if_pos z⟩
  show fdx _ _ _ _ < _
  by_cases z : fdx i (hr t e s) 0 (lenS i).toNat = -1
  · omega
  · exact (h.2 z).2.1
theorem am_k {t : Int → Int} {e : Int} {i : Nat} (hi : i < 13) : PF1 e (fun s => (am t e i s).2) := fun s h => by
  have hb := am_b (t := t) (e := e) (s := s) hi
  show PN e s (am t e i s).2
  by_cases z : (am t e i s).1 = -1
  · rw [hb.2.2.2 z]; exact PN_rf h
  · rw [(hb.2.2.1 z).2]; exact adv_n h (hb.2.2.1 z).1
theorem orB_k {e : Int} {s : PS} {r : Int × PS} (h : PN e s r.2) : PN e s (orB r) := by
  unfold orB
  split
  · exact PN_tr h (bad_k h.1)
  · exact h
theorem tsB_k {t : Int → Int} {e : Int} : PF1 e (fun s => (tsB t e s).2) := fun s h => by
  show PN e s (tsB t e s).2
  unfold tsB
  split
  · exact am_k (by decide) s h
  · exact PN_rf h
theorem emi_k {e z : Int} {s s' : PS} (h : PN e s s') (hs : s'.2.1 = 0 → s.1 + 1 - (s.2.2.length : Int) ≤ s'.1 - (s'.2.2.length : Int)) : PN e s (emi z s') := by
  unfold emi
  split
  · rename_i w
    refine ⟨h.1, h.2.1, ?_⟩
    show _ ≤ s'.1 - ((s'.2.2 ++ [z]).length : Int)
    have := hs w
    rw [List.length_append]
    simp only [List.length_cons, List.length_nil]
    omega
  · exact h
theorem tsp_k {t : Int → Int} {e : Int} : PF1 e (tsp t e) := fun s h => by
  have h1 := orB_k (am_k (t := t) (i := 7) (by decide) s h)
  have h2 := orB_k (r := tsB t e (orB (am t e 7 s))) (tsB_k (t := t) _ h1.1)
  have h3 := fig_k (t := t) _ h2.1
  refine emi_k (PN_tr h1 (PN_tr h2 h3)) (fun w => ?_)
  have h4 := fig_s h2.1 w
  have h12 := PN_tr h1 h2
  have := h12.2.2
  rw [h4.2.1]
  omega
theorem lpP_k {t : Int → Int} {e c z : Int} {F : PS → PS} (hc : 0 ≤ c) (hF : PF1 e F) : ∀ n : Nat, PF1 e (lpP t e c z F n)
  | 0, s, h => PN_rf h
  | n + 1, s, h => by
    unfold lpP
    split
    · rename_i w
      have h1 := adv_k h (hr_lt w.2 hc)
      have h2 := hF _ h1.1
      have h3 : PN e s (emi z (F (adv s))) := emi_k (PN_tr (adv_n h (hr_lt w.2 hc)) h2) (fun _ => by have := h2.2.2; rw [h1.2.1, h1.2.2] at this; exact this)
      exact PN_tr h3 (lpP_k hc hF n _ h3.1)
    · exact PN_rf h
theorem evP_k {t : Int → Int} {e : Int} {F : PS → PS} (hF : PF1 e F) : PF1 e (evP t e F) := fun s h => PN_tr (hF s h) (lpP_k (by decide) hF _ _ (hF s h).1)
theorem soP_k {t : Int → Int} {e : Int} {F : PS → PS} (hF : PF1 e F) : PF1 e (soP t e F) := fun s h => PN_tr (evP_k hF s h) (lpP_k (by decide) (evP_k hF) _ _ (evP_k hF s h).1)
theorem fac_k {t : Int → Int} {e : Int} : ∀ d : Nat, PF1 e (fac t e d)
  | 0, s, h => by
    unfold fac
    split
    · split
      · exact bad_k h
      · exact tsp_k s h
    · exact PN_rf h
  | d + 1, s, h => by
    unfold fac
    split
    · split
      · rename_i w
        have h1 := adv_k h (hr_lt w (by decide))
        have h2 := fac_k (t := t) d _ h1.1
        exact emi_k (PN_tr (adv_n h (hr_lt w (by decide))) h2) (fun _ => by have := h2.2.2; rw [h1.2.1, h1.2.2] at this; exact this)
      · split
        · rename_i w
          have h1 := adv_n h (hr_lt w (by decide))
          have h2 := soP_k (t := t) (fac_k (t := t) d) _ h1.1
          exact PN_tr h1 (PN_tr h2 (mstP_k (by decide) _ h2.1))
        · exact tsp_k s h
    · exact PN_rf h
/-- enough rounds are as good as more -/
theorem lpP_en {t : Int → Int} {e c z : Int} {F : PS → PS} (hc : 0 ≤ c) (hF : PF1 e F) : ∀ (n m : Nat) (s : PS), PB e s → e - s.1 < n → e - s.1 < m → lpP t e c z F n s = lpP t e c z F m s
  | 0, _, s, h, h1, _ => by have := h.2.1; omega
  | _ + 1, 0, s, h, _, h2 => by have := h.2.1; omega
  | n + 1, m + 1, s, h, h1, h2 => by
    unfold lpP
    split
    · rename_i w
      have a1 := adv_k h (hr_lt w.2 hc)
      have a2 := hF _ a1.1
      have a3 : PN e s (emi z (F (adv s))) := emi_k (PN_tr (adv_n h (hr_lt w.2 hc)) a2) (fun _ => by have := a2.2.2; rw [a1.2.1, a1.2.2] at this; exact this)
      have a4 : s.1 + 1 ≤ (emi z (F (adv s))).1 := by
        have := a2.2.1
        rw [a1.2.1] at this
        unfold emi
        split <;> exact this
      exact lpP_en hc hF n m _ a3.1 (by omega) (by omega)
    · rfl
theorem lpP_go {t : Int → Int} {e c z : Int} {F : PS → PS} {s : PS} (hc : 0 ≤ c) (hF : PF1 e F) (he : e ≤ 100) (h : PB e s) (h0 : s.2.1 = 0) (h1 : hr t e s = c) : lpP t e c z F 101 s = lpP t e c z F 101 (emi z (F (adv s))) := by
  have a1 := adv_k h (hr_lt h1 hc)
  have a2 := hF _ a1.1
  have a3 : PN e s (emi z (F (adv s))) := emi_k (PN_tr (adv_n h (hr_lt h1 hc)) a2) (fun _ => by have := a2.2.2; rw [a1.2.1, a1.2.2] at this; exact this)
  have a4 : s.1 + 1 ≤ (emi z (F (adv s))).1 := by
    have := a2.2.1
    rw [a1.2.1] at this
    unfold emi
    split <;> exact this
  have := h.1
  rw [show lpP t e c z F 101 s = lpP t e c z F 100 (emi z (F (adv s))) from if_pos ⟨h0, h1⟩]
  exact lpP_en hc hF 100 101 _ a3.1 (by omega) (by omega)
theorem lpP_st {t : Int → Int} {e c z : Int} {F : PS → PS} {s : PS} (h : ¬ (s.2.1 = 0 ∧ hr t e s = c)) : lpP t e c z F 101 s = s := if_neg h
/-! ===== the reference's row while an inn is read ===== -/
def wrS (f : Int → Int) (a : Int) (l : List Int) : Int → Int := fun j => if j = 231 + a then (l.length : Int) else if 236 + 140 * a ≤ j ∧ j < 236 + 140 * a + (l.length : Int) then l.getD (j - (236 + 140 * a)).toNat 0 else f j
theorem wrS_lo {f : Int → Int} {a j : Int} {l : List Int} (ha : 0 ≤ a) (hj : j < 231) : wrS f a l j = f j := by
  unfold wrS
  rw [if_neg (by omega), if_neg (by omega)]
theorem wrS_len {f : Int → Int} {a : Int} {l : List Int} : wrS f a l (231 + a) = (l.length : Int) := if_pos rfl
theorem wrS_em {f : Int → Int} {a z : Int} {l : List Int} (ha : 0 ≤ a ∧ a ≤ 4) : aup (aup (wrS f a l) (236 + 140 * a + (l.length : Int)) z) (231 + a) ((l.length : Int) + 1) = wrS f a (l ++ [z]) := by
  funext j
  unfold aup wrS
  rw [List.length_append]
  simp only [List.length_cons, List.length_nil]
  by_cases h1 : j = 231 + a
  · rw [if_pos h1, if_pos h1]; omega
  · rw [if_neg h1, if_neg h1]
    by_cases h2 : j = 236 + 140 * a + (l.length : Int)
    · rw [if_pos h2, if_neg h1, if_pos (by omega), show (j - (236 + 140 * a)).toNat = l.length by omega, List.getD_eq_getElem?_getD, List.getElem?_append_right (Nat.le_refl _)]
      simp
    · rw [if_neg h2, if_neg h1]
      by_cases h3 : 236 + 140 * a ≤ j ∧ j < 236 + 140 * a + (l.length : Int)
      · rw [if_pos h3, if_pos (by omega), List.getD_eq_getElem?_getD, List.getD_eq_getElem?_getD, List.getElem?_append_left (by omega)]
      · rw [if_neg h3, if_neg (by omega)]
/-- the object's numbers while an inn is read -/
def pw (v v2 : Nat → Int) (s : PS) : Prop := v2 5 = s.1 ∧ v2 7 = s.2.1 ∧ ∀ k : Nat, k ≠ 5 → k ≠ 7 → v2 k = v k
