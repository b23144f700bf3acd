/-! ===== reading THE TAPE: a place, whether it went wrong, the steps so far ===== -/
abbrev PS : Type := Int × Int × List Int
def tp (f : Int → Int) : Int → Int := fun j => if 0 ≤ j ∧ j < 100 then f (121 + j) else 0
def hrp (t : Int → Int) (e p : Int) : Int := if p < e then t p else -1
def hr (t : Int → Int) (e : Int) (s : PS) : Int := hrp t e s.1
def adv (s : PS) : PS := (s.1 + 1, s.2)
def emi (z : Int) (s : PS) : PS := if s.2.1 = 0 then (s.1, s.2.1, s.2.2 ++ [z]) else s
def bad (s : PS) : PS := (s.1, 1, s.2.2)
def mstP (t : Int → Int) (e c : Int) (s : PS) : PS := if s.2.1 = 0 ∧ hr t e s = c then adv s else bad s
def spl (t : Int → Int) (e : Int) (i : Nat) : Nat → PS → PS
  | 0, s => s
  | m + 1, s => mstP t e (chS i (m : Int)) (spl t e i m s)
def fig (t : Int → Int) (e : Int) (s : PS) : Int × PS :=
  if s.2.1 = 0 ∧ 48 ≤ hr t e s ∧ hr t e s ≤ 57 then (if 48 < hr t e s ∧ 48 ≤ hr t e (adv s) ∧ hr t e (adv s) ≤ 57 then (10 * (hr t e s - 48) + hr t e (adv s) - 48, adv (adv s)) else (hr t e s - 48, adv s)) else (0, bad s)
def fdx (i : Nat) (h : Int) : Nat → Nat → Int
  | _, 0 => -1
  | k, m + 1 => if h = chS i (k : Int) then (k : Int) else fdx i h (k + 1) m
def am (t : Int → Int) (e : Int) (i : Nat) (s : PS) : Int × PS := (fdx i (hr t e s) 0 (lenS i).toNat, if fdx i (hr t e s) 0 (lenS i).toNat = -1 then s else adv s)
def orB (r : Int × PS) : PS := if r.1 = -1 then bad r.2 else r.2
def tsB (t : Int → Int) (e : Int) (s : PS) : Int × PS := if s.2.1 = 0 then am t e 8 s else (0, s)
def tsp (t : Int → Int) (e : Int) (s : PS) : PS :=
  emi ((am t e 7 s).1 + 8 * (tsB t e (orB (am t e 7 s))).1 + 32 * (fig t e (orB (tsB t e (orB (am t e 7 s))))).1) (fig t e (orB (tsB t e (orB (am t e 7 s))))).2
def lpP (t : Int → Int) (e c z : Int) (F : PS → PS) : Nat → PS → PS
  | 0, s => s
  | n + 1, s => if s.2.1 = 0 ∧ hr t e s = c then lpP t e c z F n (emi z (F (adv s))) else s
def evP (t : Int → Int) (e : Int) (F : PS → PS) (s : PS) : PS := lpP t e 38 (-2) F 101 (F s)
def soP (t : Int → Int) (e : Int) (F : PS → PS) (s : PS) : PS := lpP t e 124 (-3) (evP t e F) 101 (evP t e F s)
def fac (t : Int → Int) (e : Int) : Nat → PS → PS
  | 0, s => if s.2.1 = 0 then (if hr t e s = 33 ∨ hr t e s = 40 then bad s else tsp t e s) else s
  | d + 1, s => if s.2.1 = 0 then (if hr t e s = 33 then emi (-1) (fac t e d (adv s)) else if hr t e s = 40 then mstP t e 41 (soP t e (fac t e d) (adv s)) else tsp t e s) else s
/-- how reading goes on -/
def PB (e : Int) (s : PS) : Prop := 0 ≤ s.1 ∧ s.1 ≤ e ∧ (s.2.1 = 0 ∨ s.2.1 = 1)
def PN (e : Int) (s s' : PS) : Prop := PB e s' ∧ s.1 ≤ s'.1 ∧ s.1 - (s.2.2.length : Int) ≤ s'.1 - (s'.2.2.length : Int)
def PF1 (e : Int) (F : PS → PS) : Prop := ∀ s, PB e s → PN e s (F s)
theorem PN_rf {e : Int} {s : PS} (h : PB e s) : PN e s s := ⟨h, Int.le_refl _, Int.le_refl _⟩
theorem PN_tr {e : Int} {a b c : PS} (h : PN e a b) (h2 : PN e b c) : PN e a c := ⟨h2.1, Int.le_trans h.2.1 h2.2.1, Int.le_trans h.2.2 h2.2.2⟩
theorem hr_lt {t : Int → Int} {e c : Int} {s : PS} (h : hr t e s = c) (hc : 0 ≤ c) : s.1 < e := by
  unfold hr hrp at h
  split at h
  · assumption
  · omega
theorem hr_b {f : Int → Int} {e : Int} {s : PS} (hT : ∀ j : Int, 0 ≤ j → j < e → 0 ≤ f (121 + j) ∧ f (121 + j) ≤ 127) (h0 : 0 ≤ s.1) : -1 ≤ hr (tp f) e s ∧ hr (tp f) e s ≤ 127 := by
  unfold hr hrp tp
  split
  · have := hT s.1 h0 (by assumption)
    split <;> omega
  · omega
/-- a step on: the place is in THE TAPE -/
theorem adv_k {e : Int} {s : PS} (h : PB e s) (h2 : s.1 < e) : PB e (adv s) ∧ (adv s).1 = s.1 + 1 ∧ (adv s).2.2 = s.2.2 := ⟨⟨by have := h.1; show 0 ≤ s.1 + 1; omega, h2, h.2.2⟩, rfl, rfl⟩
theorem bad_k {e : Int} {s : PS} (h : PB e s) : PN e s (bad s) := ⟨⟨h.1, h.2.1, Or.inr rfl⟩, Int.le_refl _, Int.le_refl _⟩
theorem adv_n {e : Int} {s : PS} (h : PB e s) (h2 : s.1 < e) : PN e s (adv s) := ⟨(adv_k h h2).1, by show s.1 ≤ s.1 + 1; omega, by show s.1 - _ ≤ s.1 + 1 - _; unfold adv; dsimp only; omega⟩
theorem mstP_k {t : Int → Int} {e c : Int} (hc : 0 ≤ c) : PF1 e (mstP t e c) := fun s h => by
  unfold mstP
  split
  · exact adv_n h (hr_lt (by rename_i z; exact z.2) hc)
  · exact bad_k h
theorem spl_k {t : Int → Int} {e : Int} {i : Nat} (hi : i < 13) : ∀ m : Nat, (m : Int) ≤ lenS i → PF1 e (spl t e i m)
  | 0, _, s, h => PN_rf h
  | m + 1, hm, s, h => by
    have h1 := spl_k (t := t) hi m (by omega) s h
    exact PN_tr h1 (mstP_k (ch_b hi ⟨by omega, by omega⟩).1 _ h1.1)
theorem fig_k {t : Int → Int} {e : Int} : PF1 e (fun s => (fig t e s).2) := fun s h => by
  show PN e s (fig t e s).2
  unfold fig
  split
  · rename_i z
    have h1 : s.1 < e := hr_lt (t := t) rfl (by omega)
    split
    · rename_i z2
      have h2 : (adv s).1 < e := hr_lt (t := t) rfl (by omega)
      exact PN_tr (adv_n h h1) (adv_n (adv_k h h1).1 h2)
    · exact adv_n h h1
  · exact bad_k h
/-- a number read: one more of slack where it's right -/
theorem fig_s {t : Int → Int} {e : Int} {s : PS} (_h : PB e s) (h0 : (fig t e s).2.2.1 = 0) : s.1 + 1 ≤ (fig t e s).2.1 ∧ (fig t e s).2.2.2 = s.2.2 ∧ 0 ≤ (fig t e s).1 ∧ (fig t e s).1 ≤ 99 ∧ s.2.1 = 0 := by
  unfold fig at h0 ⊢
  split
  · rename_i z
    split
    · exact ⟨by show s.1 + 1 ≤ s.1 + 1 + 1; omega, rfl, by dsimp only; omega, by dsimp only; omega, z.1⟩
    · exact ⟨Int.le_refl _, rfl, by dsimp only; omega, by dsimp only; omega, z.1⟩
  · rename_i z
    rw [if_neg z] at h0
    exact absurd h0 (by show ¬ (1 : Int) = 0; decide)
theorem fig_b {t : Int → Int} {e : Int} {s : PS} : 0 ≤ (fig t e s).1 ∧ (fig t e s).1 ≤ 99 := by
  unfold fig
  (repeat' split) <;> dsimp only <;> omega
theorem fdx_b {i : Nat} {h : Int} (hi : i < 13) : ∀ (m k : Nat), ((k + m : Nat) : Int) ≤ lenS i → -1 ≤ fdx i h k m ∧ (fdx i h k m ≠ -1 → 0 ≤ fdx i h k m ∧ fdx i h k m < lenS i ∧ 0 ≤ h)
  | 0, k, _ => by
    unfold fdx
    exact ⟨by decide, fun z => absurd rfl z⟩
  | m + 1, k, hk => by
    unfold fdx
    split
    · rename_i z
      have := ch_b hi (k := (k : Int)) ⟨by omega, by omega⟩
      exact ⟨by omega, fun _ => ⟨by omega, by omega, by omega⟩⟩
    · exact fdx_b hi m (k + 1) (by omega)
theorem am_b {t : Int → Int} {e : Int} {i : Nat} {s : PS} (hi : i < 13) : -1 ≤ (am t e i s).1 ∧ (am t e i s).1 < lenS i ∧ ((am t e i s).1 ≠ -1 → s.1 < e ∧ (am t e i s).2 = adv s) ∧ ((am t e i s).1 = -1 → (am t e i s).2 = s) := by
  have hl := len_b hi
  have h := fdx_b (h := hr t e s) hi (lenS i).toNat 0 (by omega)
  refine ⟨h.1, ?_, fun z => ⟨hr_lt rfl (h.2 z).2.2, if_neg z⟩, fun z => if_pos z⟩
  show fdx _ _ _ _ < _
  by_cases z : fdx i (hr t e s) 0 (lenS i).toNat = -1
  · omega
  · exact (h.2 z).2.1
theorem am_k {t : Int → Int} {e : Int} {i : Nat} (hi : i < 13) : PF1 e (fun s => (am t e i s).2) := fun s h => by
  have hb := am_b (t := t) (e := e) (s := s) hi
  show PN e s (am t e i s).2
  by_cases z : (am t e i s).1 = -1
  · rw [hb.2.2.2 z]; exact PN_rf h
  · rw [(hb.2.2.1 z).2]; exact adv_n h (hb.2.2.1 z).1
theorem orB_k {e : Int} {s : PS} {r : Int × PS} (h : PN e s r.2) : PN e s (orB r) := by
  unfold orB
  split
  · exact PN_tr h (bad_k h.1)
  · exact h
theorem tsB_k {t : Int → Int} {e : Int} : PF1 e (fun s => (tsB t e s).2) := fun s h => by
  show PN e s (tsB t e s).2
  unfold tsB
  split
  · exact am_k (by decide) s h
  · exact PN_rf h
theorem emi_k {e z : Int} {s s' : PS} (h : PN e s s') (hs : s'.2.1 = 0 → s.1 + 1 - (s.2.2.length : Int) ≤ s'.1 - (s'.2.2.length : Int)) : PN e s (emi z s') := by
  unfold emi
  split
  · rename_i w
    refine ⟨h.1, h.2.1, ?_⟩
    show _ ≤ s'.1 - ((s'.2.2 ++ [z]).length : Int)
    have := hs w
    rw [List.length_append]
    simp only [List.length_cons, List.length_nil]
    omega
  · exact h
theorem tsp_k {t : Int → Int} {e : Int} : PF1 e (tsp t e) := fun s h => by
  have h1 := orB_k (am_k (t := t) (i := 7) (by decide) s h)
  have h2 := orB_k (r := tsB t e (orB (am t e 7 s))) (tsB_k (t := t) _ h1.1)
  have h3 := fig_k (t := t) _ h2.1
  refine emi_k (PN_tr h1 (PN_tr h2 h3)) (fun w => ?_)
  have h4 := fig_s h2.1 w
  have h12 := PN_tr h1 h2
  have := h12.2.2
  rw [h4.2.1]
  omega
theorem lpP_k {t : Int → Int} {e c z : Int} {F : PS → PS} (hc : 0 ≤ c) (hF : PF1 e F) : ∀ n : Nat, PF1 e (lpP t e c z F n)
  | 0, s, h => PN_rf h
  | n + 1, s, h => by
    unfold lpP
    split
    · rename_i w
      have h1 := adv_k h (hr_lt w.2 hc)
      have h2 := hF _ h1.1
      have h3 : PN e s (emi z (F (adv s))) := emi_k (PN_tr (adv_n h (hr_lt w.2 hc)) h2) (fun _ => by have := h2.2.2; rw [h1.2.1, h1.2.2] at this; exact this)
      exact PN_tr h3 (lpP_k hc hF n _ h3.1)
    · exact PN_rf h
theorem evP_k {t : Int → Int} {e : Int} {F : PS → PS} (hF : PF1 e F) : PF1 e (evP t e F) := fun s h => PN_tr (hF s h) (lpP_k (by decide) hF _ _ (hF s h).1)
theorem soP_k {t : Int → Int} {e : Int} {F : PS → PS} (hF : PF1 e F) : PF1 e (soP t e F) := fun s h => PN_tr (evP_k hF s h) (lpP_k (by decide) (evP_k hF) _ _ (evP_k hF s h).1)
theorem fac_k {t : Int → Int} {e : Int} : ∀ d : Nat, PF1 e (fac t e d)
  | 0, s, h => by
    unfold fac
    split
    · split
      · exact bad_k h
      · exact tsp_k s h
    · exact PN_rf h
  | d + 1, s, h => by
    unfold fac
    split
    · split
      · rename_i w
        have h1 := adv_k h (hr_lt w (by decide))
        have h2 := fac_k (t := t) d _ h1.1
        exact emi_k (PN_tr (adv_n h (hr_lt w (by decide))) h2) (fun _ => by have := h2.2.2; rw [h1.2.1, h1.2.2] at this; exact this)
      · split
        · rename_i w
          have h1 := adv_n h (hr_lt w (by decide))
          have h2 := soP_k (t := t) (fac_k (t := t) d) _ h1.1
          exact PN_tr h1 (PN_tr h2 (mstP_k (by decide) _ h2.1))
        · exact tsp_k s h
    · exact PN_rf h
/-- enough rounds are as good as more -/
theorem lpP_en {t : Int → Int} {e c z : Int} {F : PS → PS} (hc : 0 ≤ c) (hF : PF1 e F) : ∀ (n m : Nat) (s : PS), PB e s → e - s.1 < n → e - s.1 < m → lpP t e c z F n s = lpP t e c z F m s
  | 0, _, s, h, h1, _ => by have := h.2.1; omega
  | _ + 1, 0, s, h, _, h2 => by have := h.2.1; omega
  | n + 1, m + 1, s, h, h1, h2 => by
    unfold lpP
    split
    · rename_i w
      have a1 := adv_k h (hr_lt w.2 hc)
      have a2 := hF _ a1.1
      have a3 : PN e s (emi z (F (adv s))) := emi_k (PN_tr (adv_n h (hr_lt w.2 hc)) a2) (fun _ => by have := a2.2.2; rw [a1.2.1, a1.2.2] at this; exact this)
      have a4 : s.1 + 1 ≤ (emi z (F (adv s))).1 := by
        have := a2.2.1
        rw [a1.2.1] at this
        unfold emi
        split <;> exact this
      exact lpP_en hc hF n m _ a3.1 (by omega) (by omega)
    · rfl
theorem lpP_go {t : Int → Int} {e c z : Int} {F : PS → PS} {s : PS} (hc : 0 ≤ c) (hF : PF1 e F) (he : e ≤ 100) (h : PB e s) (h0 : s.2.1 = 0) (h1 : hr t e s = c) : lpP t e c z F 101 s = lpP t e c z F 101 (emi z (F (adv s))) := by
  have a1 := adv_k h (hr_lt h1 hc)
  have a2 := hF _ a1.1
  have a3 : PN e s (emi z (F (adv s))) := emi_k (PN_tr (adv_n h (hr_lt h1 hc)) a2) (fun _ => by have := a2.2.2; rw [a1.2.1, a1.2.2] at this; exact this)
  have a4 : s.1 + 1 ≤ (emi z (F (adv s))).1 := by
    have := a2.2.1
    rw [a1.2.1] at this
    unfold emi
    split <;> exact this
  have := h.1
  rw [show lpP t e c z F 101 s = lpP t e c z F 100 (emi z (F (adv s))) from if_pos ⟨h0, h1⟩]
  exact lpP_en hc hF 100 101 _ a3.1 (by omega) (by omega)
theorem lpP_st {t : Int → Int} {e c z : Int} {F : PS → PS} {s : PS} (h : ¬ (s.2.1 = 0 ∧ hr t e s = c)) : lpP t e c z F 101 s = s := if_neg h
/-! ===== the reference's row while an inn is read ===== -/
def wrS (f : Int → Int) (a : Int) (l : List Int) : Int → Int := fun j => if j = 231 + a then (l.length : Int) else if 236 + 140 * a ≤ j ∧ j < 236 + 140 * a + (l.length : Int) then l.getD (j - (236 + 140 * a)).toNat 0 else f j
theorem wrS_lo {f : Int → Int} {a j : Int} {l : List Int} (ha : 0 ≤ a) (hj : j < 231) : wrS f a l j = f j := by
  unfold wrS
  rw [if_neg (by omega), if_neg (by omega)]
theorem wrS_len {f : Int → Int} {a : Int} {l : List Int} : wrS f a l (231 + a) = (l.length : Int) := if_pos rfl
theorem wrS_em {f : Int → Int} {a z : Int} {l : List Int} (ha : 0 ≤ a ∧ a ≤ 4) : aup (aup (wrS f a l) (236 + 140 * a + (l.length : Int)) z) (231 + a) ((l.length : Int) + 1) = wrS f a (l ++ [z]) := by
  funext j
  unfold aup wrS
  rw [List.length_append]
  simp only [List.length_cons, List.length_nil]
  by_cases h1 : j = 231 + a
  · rw [if_pos h1, if_pos h1]; omega
  · rw [if_neg h1, if_neg h1]
    by_cases h2 : j = 236 + 140 * a + (l.length : Int)
    · rw [if_pos h2, if_neg h1, if_pos (by omega), show (j - (236 + 140 * a)).toNat = l.length by omega, List.getD_eq_getElem?_getD, List.getElem?_append_right (Nat.le_refl _)]
      simp
    · rw [if_neg h2, if_neg h1]
      by_cases h3 : 236 + 140 * a ≤ j ∧ j < 236 + 140 * a + (l.length : Int)
      · rw [if_pos h3, if_pos (by omega), List.getD_eq_getElem?_getD, List.getD_eq_getElem?_getD, List.getElem?_append_left (by omega)]
      · rw [if_neg h3, if_neg (by omega)]
theorem wrS_em2 {f : Int → Int} {a z : Int} {l : List Int} (ha : 0 ≤ a ∧ a ≤ 4) : aup (aup (wrS f a l) (236 + 140 * a + (l.length : Int)) z) (231 + a) (aup (wrS f a l) (236 + 140 * a + (l.length : Int)) z (231 + a) + 1) = wrS f a (l ++ [z]) := by
  rw [aup_n _ _ (by omega), wrS_len, wrS_em ha]
theorem hrp_b {f : Int → Int} {e p : Int} (hT : ∀ j : Int, 0 ≤ j → j < e → 0 ≤ f (121 + j) ∧ f (121 + j) ≤ 127) (h0 : 0 ≤ p) : -1 ≤ hrp (tp f) e p ∧ hrp (tp f) e p ≤ 127 ∧ (0 ≤ hrp (tp f) e p → p < e) := by
  have h := hr_b (s := (p, 0, [])) hT h0
  refine ⟨h.1, h.2, fun z => ?_⟩
  unfold hrp at z
  split at z
  · assumption
  · omega
/-- the object's numbers while an inn is read -/
def ps (v : Nat → Int) (l : List Int) : PS := (v 5, v 7, l)
def kp (v v2 : Nat → Int) : Prop := ∀ k : Nat, k ≠ 5 → k ≠ 7 → v2 k = v k
theorem kp_rf (v : Nat → Int) : kp v v := fun _ _ _ => rfl
theorem kp_tr {a b c : Nat → Int} (h : kp a b) (h2 : kp b c) : kp a c := fun k h5 h7 => (h2 k h5 h7).trans (h k h5 h7)
theorem kp_5 {v v2 : Nat → Int} {z : Int} (h : kp v v2) : kp v (nup v2 5 z) := fun k h5 h7 => (nup_n _ _ h5).trans (h k h5 h7)
theorem kp_7 {v v2 : Nat → Int} {z : Int} (h : kp v v2) : kp v (nup v2 7 z) := fun k h5 h7 => (nup_n _ _ h7).trans (h k h5 h7)
theorem kp_8 {v v1 : Nat → Int} {w q : Int} (h : kp (nup (nup (nup v 7 w) 8 (v 8 + 1)) 5 q) v1) : kp v (nup v1 8 (v1 8 - 1)) := fun k h5 h7 => by
  by_cases h8 : k = 8
  · subst h8
    rw [nup_s, h 8 (by decide) (by decide)]
    show v 8 + 1 - 1 = v 8
    omega
  · rw [nup_n _ _ h8, h k h5 h7, nup_n _ _ h5, nup_n _ _ h8, nup_n _ _ h7]
theorem mstP_t {t : Int → Int} {e c P W : Int} {v : Nat → Int} {l : List Int} (h0 : v 7 = 0) (h : hrp t e (v 5) = c) (hP : P = v 5 + 1) (hW : W = 0) : mstP t e c (ps v l) = ps (nup (nup v 7 W) 5 P) l := by
  refine (if_pos ⟨h0, h⟩).trans ?_
  show (v 5 + 1, v 7, l) = (P, W, l)
  rw [hP, hW, h0]
theorem mstP_f {t : Int → Int} {e c P W : Int} {v : Nat → Int} {l : List Int} (h : ¬ (v 7 = 0 ∧ hrp t e (v 5) = c)) (hP : P = v 5) (hW : W = 1) : mstP t e c (ps v l) = ps (nup (nup v 7 W) 5 P) l := by
  refine (if_neg h).trans ?_
  show (v 5, (1 : Int), l) = (P, W, l)
  rw [hP, hW]
theorem fig_0 {t : Int → Int} {e : Int} {v : Nat → Int} {l : List Int} (h : ¬ (v 7 = 0 ∧ 48 ≤ hrp t e (v 5) ∧ hrp t e (v 5) ≤ 57)) : fig t e (ps v l) = (0, ps (nup v 7 1) l) := if_neg h
theorem fig_1 {t : Int → Int} {e : Int} {v : Nat → Int} {l : List Int} (h : v 7 = 0 ∧ 48 ≤ hrp t e (v 5) ∧ hrp t e (v 5) ≤ 57) (h2 : ¬ (48 < hrp t e (v 5) ∧ 48 ≤ hrp t e (v 5 + 1) ∧ hrp t e (v 5 + 1) ≤ 57)) : fig t e (ps v l) = (hrp t e (v 5) - 48, ps (nup (nup v 7 0) 5 (v 5 + 1)) l) := by
  have e1 : fig t e (ps v l) = (hrp t e (v 5) - 48, (v 5 + 1, v 7, l)) := (if_pos h).trans (if_neg h2)
  rw [e1, h.1]
  rfl
theorem fig_2 {t : Int → Int} {e : Int} {v : Nat → Int} {l : List Int} (h : v 7 = 0 ∧ 48 ≤ hrp t e (v 5) ∧ hrp t e (v 5) ≤ 57) (h2 : 48 < hrp t e (v 5) ∧ 48 ≤ hrp t e (v 5 + 1) ∧ hrp t e (v 5 + 1) ≤ 57) : fig t e (ps v l) = (10 * (hrp t e (v 5) - 48) + hrp t e (v 5 + 1) - 48, ps (nup (nup (nup v 7 0) 5 (v 5 + 1)) 5 (v 5 + 1 + 1)) l) := by
  have e1 : fig t e (ps v l) = (10 * (hrp t e (v 5) - 48) + hrp t e (v 5 + 1) - 48, (v 5 + 1 + 1, v 7, l)) := (if_pos h).trans (if_pos h2)
  rw [e1, h.1]
  rfl
theorem fdx_0 (i : Nat) (h : Int) (k : Nat) : fdx i h k 0 = -1 := by unfold fdx; rfl
theorem fdx_t {i : Nat} {h : Int} {k m : Nat} (hh : h = chS i (k : Int)) : fdx i h k (m + 1) = (k : Int) := by unfold fdx; exact if_pos hh
theorem fdx_f {i : Nat} {h : Int} {k m : Nat} (hh : ¬ h = chS i (k : Int)) : fdx i h k (m + 1) = fdx i h (k + 1) m := by rw [fdx]; exact if_neg hh
theorem am_7 {t : Int → Int} {e : Int} {i : Nat} {s : PS} : (am t e i s).2.2 = s.2 := by
  unfold am
  dsimp only
  split <;> rfl
/-- what among gives: none, or one at the place k -/
theorem am_n {t : Int → Int} {e : Int} {i : Nat} {v : Nat → Int} {l : List Int} (h : fdx i (hrp t e (v 5)) 0 (lenS i).toNat = -1) : am t e i (ps v l) = (-1, ps v l) := by
  unfold am
  rw [show hr t e (ps v l) = hrp t e (v 5) from rfl, h]
  rfl
theorem am_y {t : Int → Int} {e k : Int} {i : Nat} {v : Nat → Int} {l : List Int} (h : fdx i (hrp t e (v 5)) 0 (lenS i).toNat = k) (hk : 0 ≤ k) : am t e i (ps v l) = (k, ps (nup v 5 (v 5 + 1)) l) := by
  unfold am
  rw [show hr t e (ps v l) = hrp t e (v 5) from rfl, h, if_neg (by omega)]
  rfl
theorem emi_y {z : Int} {v : Nat → Int} {l : List Int} (h : v 7 = 0) : emi z (ps v l) = ps v (l ++ [z]) := if_pos h
theorem emi_n {z : Int} {v : Nat → Int} {l : List Int} (h : ¬ v 7 = 0) : emi z (ps v l) = ps v l := if_neg h
theorem fac_w {t : Int → Int} {e : Int} {d : Nat} {v : Nat → Int} {l : List Int} (h : ¬ v 7 = 0) : fac t e d (ps v l) = ps v l := by
  cases d <;> (unfold fac; exact if_neg h)
theorem fac_bad {t : Int → Int} {e : Int} {v v2 : Nat → Int} {l : List Int} (h0 : v 7 = 0) (hc : hrp t e (v 5) = 33 ∨ hrp t e (v 5) = 40) (h5 : v2 5 = v 5) (h7 : v2 7 = 1) : fac t e 0 (ps v l) = ps v2 l := by
  have e1 : fac t e 0 (ps v l) = bad (ps v l) := by unfold fac; exact (if_pos h0).trans (if_pos hc)
  rw [e1]
  show (v 5, (1 : Int), l) = (v2 5, v2 7, l)
  rw [h5, h7]
theorem fac_not {t : Int → Int} {e : Int} {d : Nat} {v v1 v2 : Nat → Int} {l l1 l2 : List Int} (h0 : v 7 = 0) (hc : hrp t e (v 5) = 33) (g1 : fac t e d (v 5 + 1, 0, l) = ps v1 l1) (g2 : emi (-1) (ps v1 l1) = ps v1 l2) (h5 : v2 5 = v1 5) (h7 : v2 7 = v1 7) : fac t e (d + 1) (ps v l) = ps v2 l2 := by
  have e1 : fac t e (d + 1) (ps v l) = emi (-1) (fac t e d (v 5 + 1, v 7, l)) := by rw [fac]; exact (if_pos h0).trans (if_pos hc)
  rw [e1, h0, g1, g2]
  show (v1 5, v1 7, l2) = (v2 5, v2 7, l2)
  rw [h5, h7]
theorem fac_par {t : Int → Int} {e : Int} {d : Nat} {v v1 v2 v3 : Nat → Int} {l l1 : List Int} (h0 : v 7 = 0) (hc : hrp t e (v 5) = 40) (g1 : soP t e (fac t e d) (v 5 + 1, 0, l) = ps v1 l1) (g2 : mstP t e 41 (ps v1 l1) = ps v2 l1) (h5 : v3 5 = v2 5) (h7 : v3 7 = v2 7) : fac t e (d + 1) (ps v l) = ps v3 l1 := by
  have e1 : fac t e (d + 1) (ps v l) = mstP t e 41 (soP t e (fac t e d) (v 5 + 1, v 7, l)) := by
    rw [fac]
    refine (if_pos h0).trans ((if_neg ?_).trans (if_pos hc))
    intro z
    have := hc.symm.trans z
    exact absurd this (by decide)
  rw [e1, h0, g1, g2]
  show (v2 5, v2 7, l1) = (v3 5, v3 7, l1)
  rw [h5, h7]
theorem fac_tst {t : Int → Int} {e : Int} {d : Nat} {v : Nat → Int} {l : List Int} {s : PS} (h0 : v 7 = 0) (hc : ¬ hrp t e (v 5) = 33) (hc2 : ¬ hrp t e (v 5) = 40) (g : tsp t e (ps v l) = s) : fac t e d (ps v l) = s := by
  rw [← g]
  cases d with
  | zero => unfold fac; exact (if_pos h0).trans (if_neg (fun z => z.elim hc hc2))
  | succ d => rw [fac]; exact (if_pos h0).trans ((if_neg hc).trans (if_neg hc2))
theorem kp_80 {v : Nat → Int} {w q : Int} : kp v (nup (nup (nup (nup v 7 w) 8 (v 8 + 1)) 5 q) 8 (v 8 + 1 - 1)) := fun k h5 h7 => by
  by_cases h8 : k = 8
  · subst h8
    rw [nup_s]
    omega
  · rw [nup_n _ _ h8, nup_n _ _ h5, nup_n _ _ h8, nup_n _ _ h7]
theorem emi_w {z : Int} {v : Nat → Int} {l l2 : List Int} (h : ¬ v 7 = 0) (g : emi z (ps v l) = ps v l2) : l2 = l := by
  rw [emi_n h] at g
  exact (congrArg (fun s : PS => s.2.2) g).symm
theorem emi_len {z : Int} {v : Nat → Int} {l l2 : List Int} (g : emi z (ps v l) = ps v l2) : (l2.length : Int) ≤ (l.length : Int) + 1 := by
  by_cases h : v 7 = 0
  · rw [emi_y h] at g
    have q : l ++ [z] = l2 := congrArg (fun s : PS => s.2.2) g
    rw [← q, List.length_append]
    simp
  · rw [emi_w h g]
    omega
theorem mstP_w {t : Int → Int} {e c : Int} {v v2 : Nat → Int} {l : List Int} (h : ¬ v 7 = 0) (g : mstP t e c (ps v l) = ps v2 l) : v2 5 = v 5 ∧ v2 7 = 1 := by
  have e1 : mstP t e c (ps v l) = bad (ps v l) := if_neg (fun z => h z.1)
  rw [e1] at g
  exact ⟨(congrArg (fun s : PS => s.1) g).symm, (congrArg (fun s : PS => s.2.1) g).symm⟩
theorem ps_70 {v : Nat → Int} {l : List Int} (h : v 7 = 0) : ps v l = ps (nup v 7 0) l := by
  show (v 5, v 7, l) = (v 5, 0, l)
  rw [h]
theorem pr_of {α β : Type} {y : α × β} {q : β} (h : y.2 = q) : y = (y.1, q) := by rw [← h]
/-- the test of a factor, put together out of what its calls gave -/
theorem tsp_of {t : Int → Int} {e r1 r2 r3 : Int} {s s1 s2 s3 s4 : PS} {q1 q2 : PS} (a1 : am t e 7 s = (r1, q1)) (b1 : (if r1 = -1 then bad q1 else q1) = s1) (a2 : tsB t e s1 = (r2, q2)) (b2 : (if r2 = -1 then bad q2 else q2) = s2) (a3 : fig t e s2 = (r3, s3)) (a4 : emi (r1 + 8 * r2 + 32 * r3) s3 = s4) : tsp t e s = s4 := by
  unfold tsp
  have e1 : orB (am t e 7 s) = s1 := by rw [a1]; exact b1
  have e2 : orB (tsB t e s1) = s2 := by rw [a2]; exact b2
  rw [e1, e2, a1, a2, a3]
  exact a4
/-! ===== clauses ===== -/
abbrev CS : Type := PS × Int × Int
def muP (t : Int → Int) (e kind : Int) (i : Nat) (s : PS) : PS :=
  emi (kind - (fig t e (spl t e i (lenS i).toNat s)).1) (soP t e (fac t e 5) (mstP t e 32 (fig t e (spl t e i (lenS i).toNat s)).2))
def thS (t : Int → Int) (e : Int) (i : Nat) (s : PS) : Int × PS := fig t e (spl t e i (lenS i).toNat s)
def cls (t : Int → Int) (e : Int) (c : CS) : CS :=
  if hr t e c.1 = 119 then ((thS t e 9 c.1).2, if (thS t e 9 c.1).2.2.1 = 0 then (thS t e 9 c.1).1 else c.2.1, c.2.2)
  else if hr t e c.1 = 112 then ((thS t e 10 c.1).2, c.2.1, if (thS t e 10 c.1).2.2.1 = 0 then (thS t e 10 c.1).1 else c.2.2)
  else if hr t e c.1 = 115 then (muP t e (-10) 11 c.1, c.2)
  else if hr t e c.1 = 103 then (muP t e (-200) 12 c.1, c.2)
  else (bad c.1, c.2)
/-- further clauses, so many at most -/
def clN (t : Int → Int) (e : Int) : Nat → CS → CS
  | 0, c => c
  | m + 1, c => if c.1.2.1 = 0 ∧ hr t e c.1 = 59 then clN t e m (cls t e (adv c.1, c.2)) else c
theorem spl_a {t : Int → Int} {e : Int} {i : Nat} (hi : i < 13) : PF1 e (spl t e i (lenS i).toNat) := spl_k hi _ (by have := len_b hi; omega)
theorem muP_k {t : Int → Int} {e kind : Int} {i : Nat} (hi : i < 13) : PF1 e (muP t e kind i) := fun s h => by
  have h1 := spl_a (t := t) hi s h
  have h2 : PN e (spl t e i (lenS i).toNat s) (fig t e (spl t e i (lenS i).toNat s)).2 := fig_k (t := t) _ h1.1
  have h3 := mstP_k (t := t) (c := 32) (by decide) _ h2.1
  have h4 := soP_k (t := t) (fac_k (t := t) 5) _ h3.1
  refine emi_k (PN_tr h1 (PN_tr h2 (PN_tr h3 h4))) (fun w => ?_)
  by_cases q : (fig t e (spl t e i (lenS i).toNat s)).2.2.1 = 0
  · have h5 := fig_s h1.1 q
    have a1 := h1.2.2
    have a2 := h3.2.2
    have a3 := h4.2.2
    rw [h5.2.1] at a2
    omega
  · have hb : mstP t e 32 (fig t e (spl t e i (lenS i).toNat s)).2 = bad (fig t e (spl t e i (lenS i).toNat s)).2 := if_neg (fun z => q z.1)
    rw [hb] at w
    rw [hb] at h4
    have hs : soP t e (fac t e 5) (bad (fig t e (spl t e i (lenS i).toNat s)).2) = bad (fig t e (spl t e i (lenS i).toNat s)).2 := by
      have n1 : ∀ (_ : Nat) (r : PS), (bad r).2.1 ≠ 0 := fun _ r => by show ¬ (1 : Int) = 0; decide
      have f1 : ∀ r, fac t e 5 (bad r) = bad r := fun r => by rw [fac]; exact if_neg (n1 0 r)
      have l1 : ∀ c z F r, lpP t e c z F 101 (bad r) = bad r := fun c z F r => lpP_st (fun z => n1 0 r z.1)
      unfold soP evP
      rw [f1, l1, l1]
    rw [hs] at w
    exact absurd w (by show ¬ (1 : Int) = 0; decide)
theorem thS_k {t : Int → Int} {e : Int} {i : Nat} (hi : i < 13) : PF1 e (fun s => (thS t e i s).2) := fun s h => PN_tr (spl_a hi s h) (fig_k _ (spl_a hi s h).1)
theorem cls_k {t : Int → Int} {e : Int} (c : CS) (h : PB e c.1) : PN e c.1 (cls t e c).1 := by
  unfold cls
  (repeat' split) <;> first | exact thS_k (by decide) _ h | exact muP_k (by decide) _ h | exact bad_k h
theorem tp_aup {f : Int → Int} {j z : Int} (h : j ≤ 120 ∨ 221 ≤ j) : tp (aup f j z) = tp f := by
  funext i
  unfold tp
  split
  · exact aup_n _ _ (by omega)
  · rfl
theorem wrS_up {f : Int → Int} {a j z : Int} {l : List Int} (ha : 0 ≤ a) (hj : j < 231) : aup (wrS f a l) j z = wrS (aup f j z) a l := by
  funext i
  unfold aup wrS
  by_cases h : i = j
  · rw [if_pos h, if_neg (by omega), if_neg (by omega)]
    exact (if_pos h).symm
  · rw [if_neg h]
    split
    · rfl
    · split
      · rfl
      · exact (if_neg h).symm
def tpu (f : Int → Int) (j n w : Int) : Int → Int := if w = 0 then aup f j n else f
theorem wrS_nil {f : Int → Int} {a : Int} : aup f (231 + a) 0 = wrS f a [] := by
  funext i
  unfold aup wrS
  by_cases h : i = 231 + a
  · rw [if_pos h, if_pos h]; rfl
  · rw [if_neg h, if_neg h, if_neg (by simp)]
section LSW
variable {x : Cx} {cc : ByteArray} {own : String} {nL : Nat} {rm : Room} {ws : aW} {pc : Nat} {L : List (Nat × aV)} {st : List aV} {k n : Nat}
theorem v_lsw {a dflt : Int} {qs : Array (Int × Int)} {len : Nat} {off : Int} (tgt : Nat) (hd : decode cc pc = .ok (.lookupswitch dflt qs, len)) (hp : (qs.toList.zip (qs.toList.drop 1)).all (fun (a, next) => a.1 < next.1) = true) (ha : iB a) (ho : Op.lookupswitch.offset qs.toList dflt a = off) (ht : (pc : Int) + off = (tgt : Int)) (kk : V x cc own nL rm ws tgt L st k n) : V x cc own nL rm ws pc L (ai a :: st) k n := fun ok H locs ls hh =>
  lv_lookup ok.1 ok.2.1 hd hp (by rw [tI ha]; exact ho) ht (kk ok H locs ls hh)
end LSW
theorem tpu_tp {f : Int → Int} {j n w : Int} (h : 221 ≤ j) : tp (tpu f j n w) = tp f := by
  unfold tpu
  split
  · exact tp_aup (Or.inr h)
  · rfl
theorem tpu_n {f : Int → Int} {i j n w : Int} (h : j ≠ i) : tpu f i n w j = f j := by
  unfold tpu
  split
  · exact aup_n _ _ h
  · rfl
theorem tpu_s {f : Int → Int} {i n w : Int} : tpu f i n w i = if w = 0 then n else f i := by
  unfold tpu
  split
  · exact aup_s _ _ _
  · rfl
theorem cls_w {f : Int → Int} {e a : Int} {v v2 : Nat → Int} {l : List Int} (hc : hrp (tp f) e (v 5) = 119) (g : (thS (tp f) e 9 (ps v l)).2 = ps v2 l) : cls (tp f) e (ps v l, f (221 + a), f (226 + a)) = (ps v2 l, tpu f (221 + a) (thS (tp f) e 9 (ps v l)).1 (v2 7) (221 + a), tpu f (221 + a) (thS (tp f) e 9 (ps v l)).1 (v2 7) (226 + a)) := by
  rw [tpu_s, tpu_n (by omega)]
  unfold cls
  rw [if_pos (show hr (tp f) e (ps v l) = 119 from hc), g]
  rfl
theorem cls_p {f : Int → Int} {e a : Int} {v v2 : Nat → Int} {l : List Int} (hc : hrp (tp f) e (v 5) = 112) (g : (thS (tp f) e 10 (ps v l)).2 = ps v2 l) : cls (tp f) e (ps v l, f (221 + a), f (226 + a)) = (ps v2 l, tpu f (226 + a) (thS (tp f) e 10 (ps v l)).1 (v2 7) (221 + a), tpu f (226 + a) (thS (tp f) e 10 (ps v l)).1 (v2 7) (226 + a)) := by
  rw [tpu_s, tpu_n (by omega)]
  unfold cls
  rw [if_neg (show ¬ hr (tp f) e (ps v l) = 119 from fun z => absurd (hc.symm.trans z) (by decide)), if_pos (show hr (tp f) e (ps v l) = 112 from hc), g]
  rfl
theorem cls_s {t : Int → Int} {e x y : Int} {v : Nat → Int} {l : List Int} {s : PS} (hc : hrp t e (v 5) = 115) (g : muP t e (-10) 11 (ps v l) = s) : cls t e (ps v l, x, y) = (s, x, y) := by
  unfold cls
  rw [if_neg (show ¬ hr t e (ps v l) = 119 from fun z => absurd (hc.symm.trans z) (by decide)), if_neg (show ¬ hr t e (ps v l) = 112 from fun z => absurd (hc.symm.trans z) (by decide)), if_pos (show hr t e (ps v l) = 115 from hc), g]
theorem cls_g {t : Int → Int} {e x y : Int} {v : Nat → Int} {l : List Int} {s : PS} (hc : hrp t e (v 5) = 103) (g : muP t e (-200) 12 (ps v l) = s) : cls t e (ps v l, x, y) = (s, x, y) := by
  unfold cls
  rw [if_neg (show ¬ hr t e (ps v l) = 119 from fun z => absurd (hc.symm.trans z) (by decide)), if_neg (show ¬ hr t e (ps v l) = 112 from fun z => absurd (hc.symm.trans z) (by decide)), if_neg (show ¬ hr t e (ps v l) = 115 from fun z => absurd (hc.symm.trans z) (by decide)), if_pos (show hr t e (ps v l) = 103 from hc), g]
theorem cls_d {t : Int → Int} {e x y : Int} {v : Nat → Int} {l : List Int} (h1 : ¬ hrp t e (v 5) = 119) (h2 : ¬ hrp t e (v 5) = 112) (h3 : ¬ hrp t e (v 5) = 115) (h4 : ¬ hrp t e (v 5) = 103) : cls t e (ps v l, x, y) = (ps (nup v 7 1) l, x, y) := by
  unfold cls
  rw [if_neg (show ¬ hr t e (ps v l) = 119 from h1), if_neg (show ¬ hr t e (ps v l) = 112 from h2), if_neg (show ¬ hr t e (ps v l) = 115 from h3), if_neg (show ¬ hr t e (ps v l) = 103 from h4)]
  rfl
/-! ===== an inn is read ===== -/
def clF (f : Int → Int) : CS := clN (tp f) (f 4) 9 (cls (tp f) (f 4) ((0, 0, []), 6, 1))
def innF (f : Int → Int) : Int → Int := wrS (aup (aup (aup f 4 0) (221 + f 1) (clF f).2.1) (226 + f 1) (clF f).2.2) (f 1) (clF f).1.2.2
def qInn (f : Int → Int) : Int × (Int → Int) :=
  if f 1 = 5 then (-4, f)
  else if (clF f).1.2.1 = 0 ∧ (clF f).1.1 = f 4 then (f 1, aup (aup (innF f) 1 (f 1 + 1)) 5 (f 1))
  else (-10 - (clF f).1.1, innF f)
theorem inn_f {f f1 : Int → Int} {a : Int} (h : ∀ j : Int, j ≠ 221 + a → j ≠ 226 + a → f1 j = aup f 4 0 j) : aup (aup (aup f 4 0) (221 + a) (f1 (221 + a))) (226 + a) (f1 (226 + a)) = f1 := by
  funext j
  by_cases h2 : j = 226 + a
  · subst h2; exact aup_s _ _ _
  · rw [aup_n _ _ h2]
    by_cases h1 : j = 221 + a
    · subst h1; exact aup_s _ _ _
    · rw [aup_n _ _ h1]; exact (h j h1 h2).symm
theorem innF_of {f f1 : Int → Int} {a e : Int} {v1 : Nat → Int} {l1 : List Int} (ha : f 1 = a) (he : f 4 = e) (hcl : (ps v1 l1, f1 (221 + a), f1 (226 + a)) = clF f) (h : ∀ j : Int, j ≠ 221 + a → j ≠ 226 + a → f1 j = aup f 4 0 j) : innF f = wrS f1 a l1 := by
  unfold innF
  rw [← hcl, ha]
  show wrS (aup (aup (aup f 4 0) (221 + a) (f1 (221 + a))) (226 + a) (f1 (226 + a))) a l1 = _
  rw [inn_f h]
theorem qInn_0 {f : Int → Int} (h : f 1 = 5) : qInn f = (-4, f) := if_pos h
theorem qInn_1 {f f1 : Int → Int} {a e : Int} {v1 : Nat → Int} {l1 : List Int} (ha : f 1 = a) (he : f 4 = e) (hcl : (ps v1 l1, f1 (221 + a), f1 (226 + a)) = clF f) (h : ∀ j : Int, j ≠ 221 + a → j ≠ 226 + a → f1 j = aup f 4 0 j) (h5 : ¬ a = 5) (h7 : v1 7 = 0) (hv : v1 5 = e) : qInn f = (a, aup (aup (wrS f1 a l1) 1 (a + 1)) 5 a) := by
  unfold qInn
  rw [if_neg (by omega), innF_of ha he hcl h, ← hcl]
  refine (if_pos ⟨h7, by show v1 5 = f 4; omega⟩).trans ?_
  rw [ha]
theorem qInn_2 {f f1 : Int → Int} {a e : Int} {v1 : Nat → Int} {l1 : List Int} (ha : f 1 = a) (he : f 4 = e) (hcl : (ps v1 l1, f1 (221 + a), f1 (226 + a)) = clF f) (h : ∀ j : Int, j ≠ 221 + a → j ≠ 226 + a → f1 j = aup f 4 0 j) (h5 : ¬ a = 5) (h7 : ¬ (v1 7 = 0 ∧ v1 5 = e)) : qInn f = (-10 - v1 5, wrS f1 a l1) := by
  unfold qInn
  rw [if_neg (by omega), innF_of ha he hcl h, ← hcl]
  refine (if_neg (fun z => h7 ⟨z.1, ?_⟩)).trans rfl
  have q : v1 5 = f 4 := z.2
  omega
theorem clN_go {t : Int → Int} {e : Int} {m : Nat} {c : CS} (h : c.1.2.1 = 0 ∧ hr t e c.1 = 59) : clN t e (m + 1) c = clN t e m (cls t e (adv c.1, c.2)) := if_pos h
theorem clN_st {t : Int → Int} {e : Int} {m : Nat} {c : CS} (h : ¬ (c.1.2.1 = 0 ∧ hr t e c.1 = 59)) : clN t e m c = c := by
  cases m with
  | zero => rfl
  | succ m => exact if_neg h
