/-! ===== what the methods compute, over Int ===== -/
def kUns (skill g : Int) : Int := if 3 + g - skill / 4 < 0 then 0 else 3 + g - skill / 4
def kUnsOf (kind skill g : Int) : Int := if kind = 1 then kUns skill g / 2 else if kind = 4 then kUns skill 0 / 2 else if kind = 5 then kUns skill (2 * g) else kUns skill g
def kLean (kind v row : Int) : Int := if kind = 2 ∨ kind = 5 then v else if kind = 3 then -v else if kind = 6 then -v + row - 4 else 0
def kTurn (kind v row n force : Int) : Int := 5 * force - n / 2 + kLean kind v row
/-- the reference's numbers of a player are in their bounds -/
def PF (f : Int → Int) (p : Int) : Prop := (0 ≤ p ∧ p < 6) ∧ (0 ≤ f (7 + p) ∧ f (7 + p) ≤ 6) ∧ (0 ≤ f (13 + p) ∧ f (13 + p) ≤ 9) ∧ (0 ≤ f (19 + p) ∧ f (19 + p) ≤ 20) ∧ (0 ≤ f (25 + p) ∧ f (25 + p) ≤ 9) ∧ (0 ≤ f (31 + p) ∧ f (31 + p) ≤ 9) ∧ (0 ≤ f (37 + p) ∧ f (37 + p) ≤ 99) ∧ (0 ≤ f (43 + p) ∧ f (43 + p) ≤ 9999) ∧ ∀ k : Int, 0 ≤ k → k < 4 → 0 ≤ f (49 + 4 * p + k) ∧ f (49 + 4 * p + k) ≤ 9
/-- .. and those of no player -/
def GF (f : Int → Int) : Prop := (0 ≤ f 0 ∧ f 0 ≤ 6) ∧ (0 ≤ f 1 ∧ f 1 ≤ 5) ∧ (0 ≤ f 2 ∧ f 2 ≤ 8) ∧ (0 ≤ f 3 ∧ f 3 ≤ 8) ∧ (0 ≤ f 4 ∧ f 4 ≤ 100) ∧ (-1 ≤ f 5 ∧ f 5 < 5 ∧ f 5 = f 1 - 1) ∧ (0 ≤ f 6 ∧ f 6 ≤ 9999) ∧ ∀ a : Int, 0 ≤ a → a < 5 → (0 ≤ f (221 + a) ∧ f (221 + a) ≤ 99) ∧ (0 ≤ f (226 + a) ∧ f (226 + a) ≤ 99) ∧ (0 ≤ f (231 + a) ∧ f (231 + a) ≤ 140)
theorem kUns_b {s g : Int} (hs : 0 ≤ s ∧ s ≤ 20) (hg : 0 ≤ g ∧ g ≤ 18) : 0 ≤ kUns s g ∧ kUns s g ≤ 21 := by unfold kUns; split <;> omega
theorem kUnsOf_b {k s g : Int} (hs : 0 ≤ s ∧ s ≤ 20) (hg : 0 ≤ g ∧ g ≤ 9) : 0 ≤ kUnsOf k s g ∧ kUnsOf k s g ≤ 21 := by
  have h1 := kUns_b hs (g := g) (by omega)
  have h2 := kUns_b hs (g := 0) (by omega)
  have h3 := kUns_b hs (g := 2 * g) (by omega)
  unfold kUnsOf
  (repeat' split) <;> omega
theorem kLean_b {k v r : Int} (hv : 0 ≤ v ∧ v ≤ 9) (hr : 0 ≤ r ∧ r ≤ 9) : -13 ≤ kLean k v r ∧ kLean k v r ≤ 9 := by
  unfold kLean
  (repeat' split) <;> omega
