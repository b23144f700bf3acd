theorem mul_bnd {a b A B : Int} (ha : 0 ≤ a ∧ a ≤ A) (hb : 0 ≤ b ∧ b ≤ B) : 0 ≤ a * b ∧ a * b ≤ A * B := ⟨Int.mul_nonneg ha.1 hb.1, Int.mul_le_mul ha.2 hb.2 hb.1 (Int.le_trans ha.1 ha.2)⟩
def sAt (w p : Int) : Int := (if w = 0 then 19 else if w = 1 then 31 else 37) + p
def qSet (f : Int → Int) (p w n : Int) : Int × (Int → Int) := if ¬ ((0 ≤ p ∧ p ≤ f 0 - 1) ∧ (0 ≤ w ∧ w ≤ 2)) then (-1, f) else if ¬ (0 ≤ n ∧ n ≤ (if w = 0 then 20 else if w = 1 then 9 else 99)) then (-2, f) else (f (sAt w p), aup f (sAt w p) n)
def qRow (f : Int → Int) (p k n : Int) : Int × (Int → Int) := if ¬ ((0 ≤ p ∧ p ≤ f 0 - 1) ∧ (0 ≤ k ∧ k ≤ 3)) then (-1, f) else if ¬ (0 ≤ n ∧ n ≤ 9) then (-2, f) else if f (7 + p) = 6 then (f (49 + 4 * p + k), aup f (49 + 4 * p + k) n) else (-3, f)
def qFeed (f : Int → Int) (s : Int) : Int × (Int → Int) := if ¬ (0 ≤ s ∧ s ≤ 127) then (-2, f) else if f 4 = 100 then (-4, f) else (f 4 + 1, aup (aup f (121 + f 4) s) 4 (f 4 + 1))
def qGo (f : Int → Int) (p n fo d : Int) : Int × (Int → Int) := if ¬ (0 ≤ p ∧ p ≤ f 0 - 1) then (-1, f) else if ¬ (((1 ≤ n ∧ n ≤ 99) ∧ (0 ≤ fo ∧ fo ≤ 20)) ∧ (0 ≤ d ∧ d ≤ 9)) then (-2, f) else if f 6 = 9999 then (-3, f) else
  let c := fCat f p n fo d (kOp f p n 0)
  let f1 := aup f (43 + p) (if f (43 + p) - kPay f * (n - c) < 0 then 0 else f (43 + p) - kPay f * (n - c))
  let f2 := if c = n then kLrn f1 p n else f1
  (c, aup f2 6 (f2 6 + 1))
def qSee (f : Int → Int) (p n fo c : Int) : Int × (Int → Int) := if p = -1 then (0, aup f 2 0) else if ¬ (0 ≤ p ∧ p ≤ f 0 - 1) then (-1, f) else if ¬ (((1 ≤ n ∧ n ≤ 99) ∧ (0 ≤ fo ∧ fo ≤ 20)) ∧ (0 ≤ c ∧ c ≤ 99)) then (-2, f) else if f 2 = 8 then (-4, f) else (f 2 + 1, aup (aup (aup (aup (aup f (73 + f 2) p) (81 + f 2) n) (89 + f 2) fo) (97 + f 2) c) 2 (f 2 + 1))
def qBook (f : Int → Int) (p m : Int) : Int × (Int → Int) := if p = -1 then (0, aup f 3 0) else if ¬ (0 ≤ p ∧ p ≤ f 0 - 1) then (-1, f) else if ¬ (0 ≤ m ∧ m ≤ 99) then (-2, f) else if f 3 = 8 then (-4, f) else (f 3 + 1, aup (aup (aup f (105 + f 3) p) (113 + f 3) m) 3 (f 3 + 1))
def plF (f : Int → Int) (p : Int) : Nat → Int → Int
  | 0 => f
  | m + 1 => aup (plF f p m) (49 + 4 * p + (m : Int)) 4
def qPlayer (f : Int → Int) (k v s h u : Int) : Int × (Int → Int) := if ¬ (0 ≤ k ∧ k ≤ 6) then (-1, f) else if ¬ ((0 ≤ v ∧ v ≤ 9) ∧ (0 ≤ s ∧ s ≤ 20) ∧ (1 ≤ h ∧ h ≤ 9) ∧ (0 ≤ u ∧ u ≤ 9999)) then (-2, f) else if f 0 = 6 then (-4, f) else
  (f 0, aup (plF (aup (aup (aup (aup (aup (aup (aup f (7 + f 0) k) (13 + f 0) v) (19 + f 0) s) (25 + f 0) h) (31 + f 0) 0) (37 + f 0) 0) (43 + f 0) u) (f 0) 4) 0 (f 0 + 1))
theorem plF_n (f : Int → Int) (p : Int) {j : Int} (hj : j < 49) (hp : 0 ≤ p) : ∀ m : Nat, plF f p m j = f j
  | 0 => rfl
  | m + 1 => by
    unfold plF
    rw [aup_n _ _ (by omega)]
    exact plF_n f p hj hp m
theorem PF_up {f : Int → Int} {p i z : Int} (h : PF f p) (hi : i < 7 ∨ (43 ≤ i ∧ i < 49 ∧ 0 ≤ z ∧ z ≤ 9999)) : PF (aup f i z) p := by
  obtain ⟨hp, h1, h2, h3, h4, h5, h6, h7, h8⟩ := h
  refine ⟨hp, ?_, ?_, ?_, ?_, ?_, ?_, ?_, fun k k0 k1 => ?_⟩
  · rw [aup_n _ _ (by omega)]; exact h1
  · rw [aup_n _ _ (by omega)]; exact h2
  · rw [aup_n _ _ (by omega)]; exact h3
  · rw [aup_n _ _ (by omega)]; exact h4
  · rw [aup_n _ _ (by omega)]; exact h5
  · rw [aup_n _ _ (by omega)]; exact h6
  · unfold aup; split <;> omega
  · rw [aup_n _ _ (by omega)]; exact h8 k k0 k1
