/-! ===== what the class does in another way ===== -/
/-- Euclid's steps are few: the product halves -/
def lwI (d r st : Int) : Prop := (st = 0 ∧ d * r ≤ 2 ^ 100) ∨ (r < d ∧ d * r * 2 ^ st.toNat ≤ 2 ^ 101)
theorem lwI_0 {d r : Int} (hd : 0 ≤ d ∧ d ≤ 1000000000000) (hr : 0 ≤ r ∧ r ≤ 1000000000000) : lwI d r 0 := by
  refine Or.inl ⟨rfl, ?_⟩
  have h : d * r ≤ 1000000000000 * 1000000000000 := Int.mul_le_mul hd.2 hr.2 hr.1 (by decide)
  have e : (1000000000000 : Int) * 1000000000000 ≤ 2 ^ 100 := by decide +kernel
  exact Int.le_trans h e
theorem lwI_s {d r st : Int} (hd : 0 ≤ d) (hr : 0 < r) (hs : 0 ≤ st) (h : lwI d r st) : lwI r (d % r) (st + 1) := by
  have hm1 := Int.emod_lt_of_pos d hr
  have hm0 := Int.emod_nonneg d (b := r) (by omega)
  refine Or.inr ⟨hm1, ?_⟩
  rw [show (st + 1).toNat = st.toNat + 1 by omega, Int.pow_succ]
  rcases h with ⟨h1, h2⟩ | ⟨h1, h2⟩
  · subst h1
    rw [show ((0 : Int).toNat) = 0 from rfl, Int.pow_zero, Int.one_mul]
    have q : d % r ≤ d := by
      rcases Int.lt_or_le d r with z | z
      · rw [Int.emod_eq_of_lt hd z]; omega
      · omega
    have q2 : r * (d % r) ≤ r * d := Int.mul_le_mul_of_nonneg_left q (by omega)
    rw [Int.mul_comm r d] at q2
    have e : (2 : Int) ^ 101 = 2 ^ 100 * 2 := Int.pow_succ _ _
    omega
  · have q : r + d % r ≤ d := by
      have e := Int.emod_add_mul_ediv d r
      have hq : 1 ≤ d / r := (Int.le_ediv_iff_mul_le hr).mpr (by omega)
      have : r * 1 ≤ r * (d / r) := Int.mul_le_mul_of_nonneg_left hq (by omega)
      omega
    have q2 : r * (d % r) * 2 ≤ d * r := by
      have a1 : (r + d % r) * r ≤ d * r := Int.mul_le_mul_of_nonneg_right q (by omega)
      have a3 : r * (d % r) ≤ r * r := Int.mul_le_mul_of_nonneg_left (by omega) (by omega)
      rw [Int.add_mul, Int.mul_comm (d % r) r] at a1
      omega
    have q3 : r * (d % r) * 2 * 2 ^ st.toNat ≤ d * r * 2 ^ st.toNat := Int.mul_le_mul_of_nonneg_right q2 (Int.le_of_lt (Int.pow_pos (by decide)))
    rw [Int.mul_comm (2 ^ st.toNat) 2, ← Int.mul_assoc]
    exact Int.le_trans q3 h2
theorem lw_end {d r st : Int} (hs : 200 ≤ st ∧ st ≤ 200) (h : lwI d r st) (hd : 0 ≤ d) (hr : 0 ≤ r) : r = 0 := by
  rcases h with ⟨h1, -⟩ | ⟨h1, h2⟩
  · omega
  · rw [show st = 200 by omega] at h2
    by_cases z : r = 0
    · exact z
    · exfalso
      have a : 1 * 1 ≤ d * r := Int.mul_le_mul (by omega) (by omega) (by decide) hd
      have b : 1 * 2 ^ (200 : Int).toNat ≤ d * r * 2 ^ (200 : Int).toNat := Int.mul_le_mul_of_nonneg_right (by omega) (Int.le_of_lt (Int.pow_pos (by decide)))
      have c : ¬ (1 : Int) * 2 ^ (200 : Int).toNat ≤ 2 ^ 101 := by decide +kernel
      exact c (Int.le_trans b h2)
/-- the draws that catch all stand side by side -/
theorem cnt_iv {un wide off G L : Int} (hG : ∀ m : Int, 0 ≤ m → m ≤ 9 → ((off + m * un ≤ wide ∧ -wide ≤ off + m * un) ↔ (L ≤ m ∧ m ≤ G))) : ∀ m : Nat, m ≤ 10 → cnt un wide off m = (if (if G < (m : Int) - 1 then G else (m : Int) - 1) - (if L < 0 then 0 else L) + 1 < 0 then 0 else (if G < (m : Int) - 1 then G else (m : Int) - 1) - (if L < 0 then 0 else L) + 1)
  | 0, _ => by
    show (0 : Int) = _
    (repeat' split) <;> omega
  | m + 1, hm => by
    have h := cnt_iv hG m (by omega)
    have g := hG (m : Int) (by omega) (by omega)
    rw [cnt_succ, h]
    by_cases c : L ≤ (m : Int) ∧ (m : Int) ≤ G
    · rw [if_pos (g.mpr c)]
      (repeat' split) <;> omega
    · rw [if_neg (fun z => c (g.mp z))]
      (repeat' split) <;> omega
theorem odd_iv {un wide over : Int} (hu : 0 < un) (m : Int) : ((over - 4 * un + m * un ≤ wide ∧ -wide ≤ over - 4 * un + m * un) ↔ (4 - (wide + over) / un ≤ m ∧ m ≤ 4 + (wide - over) / un)) := by
  have a : (m - 4) * un = m * un - 4 * un := Int.sub_mul _ _ _
  have b : (4 - m) * un = 4 * un - m * un := Int.sub_mul _ _ _
  have h1 := Int.le_ediv_iff_mul_le hu (a := m - 4) (b := wide - over)
  have h2 := Int.le_ediv_iff_mul_le hu (a := 4 - m) (b := wide + over)
  rw [a] at h1
  rw [b] at h2
  constructor
  · intro z
    have := h1.mpr (by omega)
    have := h2.mpr (by omega)
    omega
  · intro z
    have := h1.mp (by omega)
    have := h2.mp (by omega)
    omega
theorem kAll_iv {tu un wide hand opens : Int} (hu : 0 < un) (ho : ¬ 10 * hand < opens) : kAll tu un wide hand opens = (if (if 4 + (wide - (tu - 50)) / un < 9 then 4 + (wide - (tu - 50)) / un else 9) - (if 4 - (wide + (tu - 50)) / un < 0 then 0 else 4 - (wide + (tu - 50)) / un) + 1 < 0 then 0 else (if 4 + (wide - (tu - 50)) / un < 9 then 4 + (wide - (tu - 50)) / un else 9) - (if 4 - (wide + (tu - 50)) / un < 0 then 0 else 4 - (wide + (tu - 50)) / un) + 1) := by
  unfold kAll
  rw [if_neg ho]
  exact cnt_iv (un := un) (wide := wide) (off := tu - 4 * un - 50) (fun m _ _ => by have := odd_iv (un := un) (wide := wide) (over := tu - 50) hu m; rw [show tu - 50 - 4 * un = tu - 4 * un - 50 by omega] at this; exact this) 10 (Nat.le_refl _)
theorem kAll_0 {tu wide hand opens : Int} (ho : ¬ 10 * hand < opens) : kAll tu 0 wide hand opens = if tu - 50 ≤ wide ∧ -wide ≤ tu - 50 then 10 else 0 := by
  unfold kAll
  rw [if_neg ho]
  have h : ∀ m : Nat, cnt 0 wide (tu - 4 * 0 - 50) m = if tu - 50 ≤ wide ∧ -wide ≤ tu - 50 then (m : Int) else 0 := by
    intro m
    induction m with
    | zero => show (0 : Int) = _; split <;> rfl
    | succ m ih =>
      rw [cnt_succ, ih]
      by_cases c : tu - 50 ≤ wide ∧ -wide ≤ tu - 50
      · rw [if_pos c, if_pos (by omega), if_pos c]; omega
      · rw [if_neg c, if_neg (by omega), if_neg c]; rfl
  exact h 10
/-- the best is what the best force gives -/
theorem bst_at {F : Int → Int} (hF : ∀ k, 0 ≤ F k) : ∀ m : Nat, F (bst F (m + 1)).2 = (bst F (m + 1)).1
  | 0 => by
    rw [bst_succ, if_pos (by have := hF ((0 : Nat) : Int); show (-1 : Int) < _; omega)]
  | m + 1 => by
    rw [bst_succ]
    split
    · rfl
    · exact bst_at hF m
theorem bst_z {F : Int → Int} (hF : ∀ k, F k = 0) : ∀ m : Nat, (bst F (m + 1)).1 = 0
  | 0 => by
    rw [bst_succ, if_pos (by rw [hF]; show (-1 : Int) < 0; decide)]
    exact hF _
  | m + 1 => by
    have h := bst_z hF m
    rw [bst_succ, if_neg (by rw [h, hF]; decide)]
    exact h
theorem ediv_b {a b : Int} (h : -10000 ≤ a ∧ a ≤ 10000 ∧ 0 ≤ b) : -10000 ≤ a / b ∧ a / b ≤ 10000 := by
  by_cases hb : b = 0
  · subst hb
    rw [Int.ediv_zero]
    decide
  · have h0 : 0 < b := by omega
    have h1 : (-10000 : Int) * b ≤ a := by
      have : (-10000 : Int) * b ≤ -10000 * 1 := by omega
      omega
    have h2 := (Int.le_ediv_iff_mul_le h0).mpr h1
    refine ⟨h2, ?_⟩
    rcases Int.lt_or_le a 0 with q | q
    · have := Int.ediv_neg_of_neg_of_pos q h0
      omega
    · have := Int.ediv_le_self b q
      omega
