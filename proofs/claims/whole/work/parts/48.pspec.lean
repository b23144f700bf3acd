/-! ===== players' bodies: what the trace gets ===== -/
def bg (tr : Int → Int) (b : Int) : Int → Int := if tr 0 + 1 < 21 then aup (aup tr 0 (tr 0 + 1)) (tr 0 + 1) b else aup tr 0 (tr 0 + 1)
theorem bg_0 {tr : Int → Int} {b : Int} (h : 0 ≤ tr 0) : bg tr b 0 = tr 0 + 1 := by
  unfold bg
  split
  · rw [aup_n _ _ (by omega), aup_s]
  · rw [aup_s]
def trB (tr : Int → Int) (m : Int) : Prop := 0 ≤ tr 0 ∧ tr 0 ≤ m
theorem trB_bg {tr : Int → Int} {b m m2 : Int} (h : trB tr m) (h2 : m + 1 ≤ m2) : trB (bg tr b) m2 := by
  unfold trB at h ⊢
  rw [bg_0 h.1]
  omega
theorem trB_le {tr : Int → Int} {m m2 : Int} (h : trB tr m) (h2 : m ≤ m2) : trB tr m2 := ⟨h.1, Int.le_trans h.2 h2⟩
theorem b_and3 {z : Int} (h : ipos z) : Int32.ofInt z &&& Int32.ofInt 3 = Int32.ofInt (z % 4) := by
  unfold ipos at h
  refine I_of_nat (by omega) ?_
  show ((Int32.ofInt z).toBitVec &&& 3#32).toNat = _
  rw [BitVec.toNat_and, bvn (by omega)]
  show z.toNat &&& (2 ^ 2 - 1) = _
  rw [Nat.and_two_pow_sub_one_eq_mod]
  omega
