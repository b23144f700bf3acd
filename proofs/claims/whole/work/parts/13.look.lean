/-! ===== the programs of inns ===== -/
def kMany (f : Int → Int) : Int := if f 5 = -1 then 0 else f (231 + f 5)
def kWide (f : Int → Int) : Int := if f 5 = -1 then 6 else f (221 + f 5)
def kPay (f : Int → Int) : Int := if f 5 = -1 then 1 else f (226 + f 5)
theorem kMany_b {f : Int → Int} (h : GF f) : 0 ≤ kMany f ∧ kMany f ≤ 140 := by
  obtain ⟨hg0, hg1, hg2, hg3, hg4, hg5, hg6, hg7⟩ := h
  unfold kMany
  split
  · omega
  · exact (hg7 (f 5) (by omega) (by omega)).2.2
theorem kWide_b {f : Int → Int} (h : GF f) : 0 ≤ kWide f ∧ kWide f ≤ 99 := by
  obtain ⟨hg0, hg1, hg2, hg3, hg4, hg5, hg6, hg7⟩ := h
  unfold kWide
  split
  · omega
  · exact (hg7 (f 5) (by omega) (by omega)).1
theorem kPay_b {f : Int → Int} (h : GF f) : 0 ≤ kPay f ∧ kPay f ≤ 99 := by
  obtain ⟨hg0, hg1, hg2, hg3, hg4, hg5, hg6, hg7⟩ := h
  unfold kPay
  split
  · omega
  · exact (hg7 (f 5) (by omega) (by omega)).2.1
/-- what a test looks at -/
def fbv (p k n g s t : Int) : Int → Int := fun i => if i = 0 then p else if i = 1 then k else if i = 2 then n else if i = 3 then g else if i = 4 then s else t
def tst (b : Int → Int) (s : Int) : Bool := if s / 8 % 4 = 0 then decide (b (s % 8) < s / 32) else if s / 8 % 4 = 1 then decide (b (s % 8) = s / 32) else decide (s / 32 < b (s % 8))
abbrev LK : Type := List Bool × Int × Int
def hdB : List Bool → Bool
  | t :: _ => t
  | [] => false
def nt1 : List Bool → List Bool
  | t :: r => (!t) :: r
  | [] => []
def bn2 (s : Int) : List Bool → List Bool
  | t2 :: t1 :: r => (if s = -2 then t1 && t2 else t1 || t2) :: r
  | l => l
def stp (b : Int → Int) (e : LK) (s : Int) : LK :=
  if 0 ≤ s then (tst b s :: e.1, e.2)
  else if s = -1 then (nt1 e.1, e.2)
  else if -10 < s then (bn2 s e.1, e.2)
  else ([], e.2.1 + (if hdB e.1 = true ∧ -200 < s then -10 - s else 0), e.2.2 + (if hdB e.1 = true ∧ s ≤ -200 then -200 - s else 0))
def evL (b : Int → Int) (l : List Int) : LK := l.foldl (stp b) ([], 0, 0)
/-- a program is well made, from so many truths on -/
def wfS : Nat → List Int → Prop
  | _, [] => True
  | d, s :: r => if 0 ≤ s then s % 8 ≤ 5 ∧ s ≤ 3300 ∧ d < 60 ∧ wfS (d + 1) r else if s = -1 then 1 ≤ d ∧ wfS d r else if -10 < s then 2 ≤ d ∧ wfS (d - 1) r else d = 1 ∧ -300 ≤ s ∧ wfS 0 r
/-- the steps of the inn that holds -/
def SL (f : Int → Int) : List Int := (List.range (kMany f).toNat).map (fun i : Nat => f (236 + 140 * f 5 + (i : Int)))
theorem SL_len (f : Int → Int) : (SL f).length = (kMany f).toNat := by unfold SL; simp
theorem SL_at {f : Int → Int} {i : Nat} (h : i < (kMany f).toNat) : (SL f)[i]? = some (f (236 + 140 * f 5 + (i : Int))) := by
  unfold SL
  rw [List.getElem?_map, List.getElem?_range h]
  rfl
theorem evL_succ (b : Int → Int) {l : List Int} {i : Nat} {s : Int} (h : l[i]? = some s) : evL b (l.take (i + 1)) = stp b (evL b (l.take i)) s := by
  unfold evL
  rw [List.take_add_one, h, Option.toList_some, List.foldl_append]
  rfl
theorem drop_at {l : List Int} {i : Nat} {s : Int} (h : l[i]? = some s) : l.drop i = s :: l.drop (i + 1) := by
  obtain ⟨h1, h2⟩ := List.getElem?_eq_some_iff.mp h
  rw [List.drop_eq_getElem_cons h1, h2]
/-- the row of truths holds the pile -/
def RS (tr : Int → Int) : List Bool → Prop
  | [] => True
  | t :: r => tr (r.length : Int) = (if t = true then 1 else 0) ∧ RS tr r
theorem RS_up {tr : Int → Int} {z k : Int} : ∀ {l : List Bool}, (l.length : Int) ≤ k → RS tr l → RS (aup tr k z) l
  | [], _, _ => trivial
  | t :: r, h, hr => by
    rw [List.length_cons] at h
    refine ⟨?_, RS_up (by omega) hr.2⟩
    rw [aup_n _ _ (by omega)]
    exact hr.1
theorem RS_push {tr : Int → Int} {l : List Bool} {t : Bool} {z k : Int} (h : RS tr l) (hk : k = (l.length : Int)) (hz : z = if t = true then 1 else 0) : RS (aup tr k z) (t :: l) := by
  subst hk
  exact ⟨by rw [aup_s]; exact hz, RS_up (by omega) h⟩
/-- how a look goes on: the pile, the truths, what is left of the program -/
def LI (tr : Int → Int) (e : LK) (l : List Int) (i : Int) : Prop := RS tr e.1 ∧ wfS e.1.length l ∧ (0 ≤ e.2.1 ∧ e.2.1 ≤ 200 * i) ∧ (0 ≤ e.2.2 ∧ e.2.2 ≤ 200 * i) ∧ e.1.length ≤ 60
theorem LI_0 {tr : Int → Int} {l : List Int} (h : wfS 0 l) : LI tr ([], 0, 0) l 0 := ⟨trivial, h, ⟨by decide, by decide⟩, ⟨by decide, by decide⟩, by decide⟩
theorem LI_tst {b tr : Int → Int} {e : LK} {s z i : Int} {r : List Int} (h : LI tr e (s :: r) i) (h0 : 0 ≤ s) (hz : z = if tst b s = true then 1 else 0) : LI (aup tr (e.1.length : Int) z) (stp b e s) r (i + 1) := by
  obtain ⟨h1, h2, h3, h4, h5⟩ := h
  unfold wfS at h2
  rw [if_pos h0] at h2
  unfold stp
  rw [if_pos h0]
  exact ⟨RS_push h1 rfl hz, h2.2.2.2, by have := h3; dsimp only; omega, by have := h4; dsimp only; omega, by have := h2.2.2.1; rw [List.length_cons]; omega⟩
theorem LI_not {b tr : Int → Int} {e : LK} {s z i : Int} {r : List Int} (h : LI tr e (s :: r) i) (hs : s = -1) (hz : tr ((e.1.length : Int) - 1) = 1 ∧ z = 0 ∨ tr ((e.1.length : Int) - 1) = 0 ∧ z = 1) : LI (aup tr ((e.1.length : Int) - 1) z) (stp b e s) r (i + 1) := by
  obtain ⟨h1, h2, h3, h4, h5⟩ := h
  subst hs
  unfold wfS at h2
  rw [if_neg (by decide), if_pos rfl] at h2
  obtain ⟨l, g1, g2⟩ := e
  cases l with
  | nil => exact absurd h2.1 (by simp)
  | cons t q =>
    have e1 : (((t :: q : List Bool).length : Nat) : Int) - 1 = (q.length : Int) := by rw [List.length_cons]; omega
    dsimp only at *
    rw [e1] at hz ⊢
    refine ⟨RS_push h1.2 rfl ?_, h2.2, by show 0 ≤ g1 ∧ g1 ≤ _; omega, by show 0 ≤ g2 ∧ g2 ≤ _; omega, h5⟩
    have h9 := h1.1
    cases t <;> simp at h9 ⊢ <;> omega
theorem LI_bin {b tr : Int → Int} {e : LK} {s z i : Int} {r : List Int} (h : LI tr e (s :: r) i) (hs : s < -1) (hs2 : -10 < s) (hz : z = if s = -2 then (if tr ((e.1.length : Int) - 1 - 1) = 0 then 0 else tr ((e.1.length : Int) - 1)) else (if tr ((e.1.length : Int) - 1 - 1) = 0 then tr ((e.1.length : Int) - 1) else 1)) : LI (aup tr ((e.1.length : Int) - 1 - 1) z) (stp b e s) r (i + 1) := by
  obtain ⟨h1, h2, h3, h4, h5⟩ := h
  unfold wfS at h2
  rw [if_neg (by omega), if_neg (by omega), if_pos hs2] at h2
  obtain ⟨l, g1, g2⟩ := e
  match l, h1, h2, h5, hz with
  | [], _, h2, _, _ => exact absurd h2.1 (by simp)
  | [_], _, h2, _, _ => exact absurd h2.1 (by simp)
  | t2 :: t1 :: q, h1, h2, h5, hz =>
    have e1 : (((t2 :: t1 :: q : List Bool).length : Nat) : Int) - 1 = (q.length : Int) + 1 := by rw [List.length_cons, List.length_cons]; omega
    have e2 : (q.length : Int) + 1 - 1 = (q.length : Int) := by omega
    dsimp only at *
    rw [e1, e2] at hz
    rw [e1, e2]
    unfold stp
    rw [if_neg (by omega), if_neg (by omega), if_pos hs2]
    have h9 : tr ((q.length : Int) + 1) = if t2 = true then 1 else 0 := h1.1
    have h8 := h1.2.1
    rw [h9, h8] at hz
    refine ⟨RS_push h1.2.2 rfl ?_, h2.2, by show 0 ≤ g1 ∧ g1 ≤ _; omega, by show 0 ≤ g2 ∧ g2 ≤ _; omega, by show q.length + 1 ≤ 60; simp at h5; omega⟩
    rw [hz]
    by_cases hc : s = -2 <;> cases t1 <;> cases t2 <;> simp [hc]
theorem LI_slip {b tr : Int → Int} {e : LK} {s i : Int} {r : List Int} (h : LI tr e (s :: r) i) (hs : s ≤ -10) : LI tr (stp b e s) r (i + 1) ∧ (tr 0 = if hdB e.1 = true then 1 else 0) ∧ -300 ≤ s ∧ (stp b e s).1 = [] ∧ (stp b e s).2.1 = e.2.1 + (if hdB e.1 = true ∧ -200 < s then -10 - s else 0) ∧ (stp b e s).2.2 = e.2.2 + (if hdB e.1 = true ∧ s ≤ -200 then -200 - s else 0) := by
  obtain ⟨h1, h2, h3, h4, h5⟩ := h
  unfold wfS at h2
  rw [if_neg (by omega), if_neg (by omega), if_neg (by omega)] at h2
  obtain ⟨l, g1, g2⟩ := e
  match l, h1, h2 with
  | [], _, h2 => exact absurd h2.1 (by simp)
  | _ :: _ :: _, _, h2 => exact absurd h2.1 (by simp)
  | [t], h1, h2 =>
    have hh : stp b ([t], g1, g2) s = ([], g1 + (if hdB [t] = true ∧ -200 < s then -10 - s else 0), g2 + (if hdB [t] = true ∧ s ≤ -200 then -200 - s else 0)) := by
      unfold stp
      rw [if_neg (by omega), if_neg (by omega), if_neg (by omega)]
    dsimp only at h3 h4
    rw [hh]
    refine ⟨⟨trivial, h2.2.2, ?_, ?_, Nat.zero_le _⟩, h1.1, h2.2.1, rfl, rfl, rfl⟩
    · dsimp only
      split <;> omega
    · dsimp only
      split <;> omega
theorem LI_pos {tr : Int → Int} {e : LK} {s i : Int} {r : List Int} (h : LI tr e (s :: r) i) : (0 ≤ s → s % 8 ≤ 5 ∧ s ≤ 3300 ∧ e.1.length < 60) ∧ (s = -1 → 1 ≤ e.1.length) ∧ (s < -1 → -10 < s → 2 ≤ e.1.length) := by
  obtain ⟨h1, h2, h3, h4, h5⟩ := h
  unfold wfS at h2
  refine ⟨fun q => ?_, fun q => ?_, fun q1 q2 => ?_⟩
  · rw [if_pos q] at h2; exact ⟨h2.1, h2.2.1, h2.2.2.1⟩
  · rw [if_neg (by omega), if_pos q] at h2; exact h2.1
  · rw [if_neg (by omega), if_neg (by omega), if_pos q2] at h2; exact h2.1
theorem LI_len_tst {b : Int → Int} {e : LK} {s : Int} (h0 : 0 ≤ s) : ((stp b e s).1.length : Int) = (e.1.length : Int) + 1 := by
  unfold stp
  rw [if_pos h0]
  simp
theorem LI_len_not {b : Int → Int} {e : LK} {s : Int} (h0 : s = -1) : ((stp b e s).1.length : Int) = (e.1.length : Int) := by
  subst h0
  unfold stp
  rw [if_neg (by decide), if_pos rfl]
  cases e.1 <;> rfl
theorem LI_len_bin {b : Int → Int} {e : LK} {s : Int} (h1 : s < -1) (h2 : -10 < s) (h3 : 2 ≤ e.1.length) : ((stp b e s).1.length : Int) = (e.1.length : Int) - 1 := by
  unfold stp
  rw [if_neg (by omega), if_neg (by omega), if_pos h2]
  obtain ⟨l, g⟩ := e
  match l, h3 with
  | t2 :: t1 :: q, _ => simp [bn2]
theorem stp_2 {b : Int → Int} {e : LK} {s : Int} (h : -10 < s) : (stp b e s).2 = e.2 := by
  unfold stp
  split
  · rfl
  · split
    · rfl
    · first | rfl | (split <;> first | rfl | contradiction)
/-- numbers of the reference's object that no look changes -/
def vK (v w : Nat → Int) : Prop := w 3 = v 3 ∧ w 16 = v 16 ∧ w 17 = v 17 ∧ w 21 = v 21
theorem vK_rf (v : Nat → Int) : vK v v := ⟨rfl, rfl, rfl, rfl⟩
theorem vK_up {v w : Nat → Int} {k : Nat} {z : Int} (h : vK v w) (h1 : k ≠ 3) (h2 : k ≠ 16) (h3 : k ≠ 17) (h4 : k ≠ 21) : vK v (nup w k z) := ⟨(nup_n _ _ h1.symm).trans h.1, (nup_n _ _ h2.symm).trans h.2.1, (nup_n _ _ h3.symm).trans h.2.2.1, (nup_n _ _ h4.symm).trans h.2.2.2⟩
theorem vK_tr {u v w : Nat → Int} (h : vK u v) (g : vK v w) : vK u w := ⟨g.1.trans h.1, g.2.1.trans h.2.1, g.2.2.1.trans h.2.2.1, g.2.2.2.trans h.2.2.2⟩
/-- how many open -/
def kB (f : Int → Int) (p n : Int) : Int → Int := fbv p (f (7 + p)) (n / 10) (f (31 + p)) (f (19 + p)) (f 6 % 10)
def kSl (f : Int → Int) (p n : Int) : Int := (evL (kB f p n) (SL f)).2.1
def kGl (f : Int → Int) (p n : Int) : Int := (evL (kB f p n) (SL f)).2.2
def kOp (f : Int → Int) (p n more : Int) : Int := if n + kSl f p n - kGl f p n - more < 0 then 0 else n + kSl f p n - kGl f p n - more
def kE (f : Int → Int) (p n j : Int) : LK := evL (kB f p n) ((SL f).take (j - (236 + 140 * f 5)).toNat)
def kR (f : Int → Int) (j : Int) : List Int := (SL f).drop (j - (236 + 140 * f 5)).toNat
theorem kE_succ {f : Int → Int} {p n j : Int} (h0 : 236 + 140 * f 5 ≤ j) (h1 : j < 236 + 140 * f 5 + kMany f) : kE f p n (j + 1) = stp (kB f p n) (kE f p n j) (f j) ∧ kR f j = f j :: kR f (j + 1) := by
  have hi : (j - (236 + 140 * f 5)).toNat < (kMany f).toNat := by omega
  have ha := SL_at hi
  rw [show 236 + 140 * f 5 + (((j - (236 + 140 * f 5)).toNat : Nat) : Int) = j by omega] at ha
  have e : (j + 1 - (236 + 140 * f 5)).toNat = (j - (236 + 140 * f 5)).toNat + 1 := by omega
  unfold kE kR
  rw [e]
  exact ⟨evL_succ _ ha, drop_at ha⟩
theorem kE_0 (f : Int → Int) (p n : Int) : kE f p n (236 + 140 * f 5) = ([], 0, 0) := by
  unfold kE
  rw [show (236 + 140 * f 5 - (236 + 140 * f 5)).toNat = 0 by omega]
  rfl
theorem kR_0 (f : Int → Int) : kR f (236 + 140 * f 5) = SL f := by
  unfold kR
  rw [show (236 + 140 * f 5 - (236 + 140 * f 5)).toNat = 0 by omega]
  rfl
theorem kE_end {f : Int → Int} {p n j : Int} (h : 236 + 140 * f 5 + kMany f ≤ j) : (kE f p n j).2.1 = kSl f p n ∧ (kE f p n j).2.2 = kGl f p n := by
  unfold kE kSl kGl
  rw [List.take_of_length_le (by rw [SL_len]; omega)]
  exact ⟨rfl, rfl⟩
theorem tst_iff (b : Int → Int) (s : Int) : tst b s = true ↔ (s / 8 % 4 = 0 ∧ b (s % 8) < s / 32) ∨ (s / 8 % 4 = 1 ∧ b (s % 8) = s / 32) ∨ (s / 8 % 4 ≠ 0 ∧ s / 8 % 4 ≠ 1 ∧ s / 32 < b (s % 8)) := by
  unfold tst
  split
  · rw [decide_eq_true_eq]; omega
  · split
    · rw [decide_eq_true_eq]; omega
    · rw [decide_eq_true_eq]; omega
theorem kB_b {f : Int → Int} {p n k : Int} (hf : PF f p) (hn : 0 ≤ n ∧ n ≤ 99) (h6 : 0 ≤ f 6) : 0 ≤ kB f p n k ∧ kB f p n k ≤ 99 := by
  obtain ⟨hp, hf1, hf2, hf3, hf4, hf5, hf6, hf7, hf8⟩ := hf
  unfold kB fbv
  (repeat' split) <;> omega
theorem RS_01 {tr : Int → Int} {k : Int} : ∀ {l : List Bool}, RS tr l → 0 ≤ k → k < (l.length : Int) → tr k = 0 ∨ tr k = 1
  | [], _, _, h => by simp at h; omega
  | t :: r, h, h0, h1 => by
    rcases (show k = (r.length : Int) ∨ k < (r.length : Int) by rw [List.length_cons] at h1; omega) with e | e
    · rw [e, h.1]
      split <;> simp
    · exact RS_01 h.2 h0 e
