def kAbs (z : Int) : Int := if z < 0 then -z else z
def kCat (tu un wide hand n draw opens : Int) : Int := if kAbs (tu + un * (draw - 4) - 50) ≤ wide ∧ opens ≤ 10 * hand then n else if kAbs (tu + un * (draw - 4) - 50) ≤ 2 * wide ∧ opens ≤ 20 * hand then n / 2 else 0
def cnt (un wide off : Int) : Nat → Int
  | 0 => 0
  | m + 1 => cnt un wide off m + (if off + (m : Int) * un ≤ wide ∧ -wide ≤ off + (m : Int) * un then 1 else 0)
def kAll (tu un wide hand opens : Int) : Int := if 10 * hand < opens then 0 else cnt un wide (tu - 4 * un - 50) 10
/-- the best of F 0, F 1 ..: the first of those that are most, and how much that is -/
def bst (F : Int → Int) : Nat → Int × Int
  | 0 => (-1, 0)
  | m + 1 => if (bst F m).1 < F (m : Int) then (F (m : Int), (m : Int)) else bst F m
def mst (G : Int → Int) : Nat → Int
  | 0 => 0
  | m + 1 => if 5 ≤ G ((m : Int) + 1) then (m : Int) + 1 else mst G m
def smR (F : Int → Int) : Nat → Int
  | 0 => 0
  | m + 1 => smR F m + F (m : Int)
def fRow (f : Int → Int) (p : Int) : Int := f (49 + 4 * p + f 6 % 4)
def fTu (f : Int → Int) (p n force : Int) : Int := kTurn (f (7 + p)) (f (13 + p)) (fRow f p) n force
def fUn (f : Int → Int) (p : Int) : Int := kUnsOf (f (7 + p)) (f (19 + p)) (f (31 + p))
def fCat (f : Int → Int) (p n force draw opens : Int) : Int := kCat (fTu f p n force) (fUn f p) (kWide f) (f (25 + p)) n draw opens
def fAll (f : Int → Int) (p n force opens : Int) : Int := kAll (fTu f p n force) (fUn f p) (kWide f) (f (25 + p)) opens
def fBst (f : Int → Int) (p n : Int) : Nat → Int × Int := bst (fun fo => fAll f p n fo (kOp f p n 0))
def fBest (f : Int → Int) (p n : Int) : Int := (fBst f p n 21).1
def fMost (f : Int → Int) (p : Int) : Int := mst (fBest f p) 99
def fSum (f : Int → Int) (p n force : Int) : Nat → Int := smR (fun d => fCat f p n force d (kOp f p n 0))
theorem mulb {u d : Int} (hu : 0 ≤ u ∧ u ≤ 21) (hd : -4 ≤ d ∧ d ≤ 5) : -84 ≤ u * d ∧ u * d ≤ 105 := by
  rcases (show d = -4 ∨ d = -3 ∨ d = -2 ∨ d = -1 ∨ d = 0 ∨ d = 1 ∨ d = 2 ∨ d = 3 ∨ d = 4 ∨ d = 5 by omega) with rfl | rfl | rfl | rfl | rfl | rfl | rfl | rfl | rfl | rfl <;> omega
theorem mulc {u d : Int} (hu : 0 ≤ u ∧ u ≤ 21) (hd : 0 ≤ d ∧ d ≤ 10) : 0 ≤ d * u ∧ d * u ≤ 210 := by
  rcases (show d = 10 ∨ d = 0 ∨ d = 1 ∨ d = 2 ∨ d = 3 ∨ d = 4 ∨ d = 5 ∨ d = 6 ∨ d = 7 ∨ d = 8 ∨ d = 9 by omega) with rfl | rfl | rfl | rfl | rfl | rfl | rfl | rfl | rfl | rfl | rfl <;> omega
theorem cnt_b (un wide off : Int) : ∀ m : Nat, 0 ≤ cnt un wide off m ∧ cnt un wide off m ≤ (m : Int)
  | 0 => by simp [cnt]
  | m + 1 => by
    have h := cnt_b un wide off m
    unfold cnt
    split <;> omega
theorem kAll_b (tu un wide hand opens : Int) : 0 ≤ kAll tu un wide hand opens ∧ kAll tu un wide hand opens ≤ 10 := by
  have h := cnt_b un wide (tu - 4 * un - 50) 10
  unfold kAll
  split <;> omega
theorem kCat_b {tu un wide hand n draw opens : Int} (hn : 0 ≤ n ∧ n ≤ 99) : 0 ≤ kCat tu un wide hand n draw opens ∧ kCat tu un wide hand n draw opens ≤ n := by
  unfold kCat
  (repeat' split) <;> omega
theorem bst_b {F : Int → Int} (hF : ∀ k, 0 ≤ F k ∧ F k ≤ 10) : ∀ m : Nat, -1 ≤ (bst F m).1 ∧ (bst F m).1 ≤ 10 ∧ 0 ≤ (bst F m).2 ∧ (bst F m).2 ≤ (m : Int) ∧ (0 < m → 0 ≤ (bst F m).1)
  | 0 => by simp [bst]
  | m + 1 => by
    have h := bst_b hF m
    have g := hF (m : Int)
    unfold bst
    split
    · dsimp only; omega
    · rename_i q
      refine ⟨h.1, h.2.1, h.2.2.1, by omega, fun _ => by omega⟩
theorem mst_b {G : Int → Int} : ∀ m : Nat, 0 ≤ mst G m ∧ mst G m ≤ (m : Int)
  | 0 => by simp [mst]
  | m + 1 => by
    have h := mst_b (G := G) m
    unfold mst
    split <;> omega
theorem fTu_b {f : Int → Int} {p n force : Int} (hf : PF f p) (hn : 0 ≤ n ∧ n ≤ 99) (hfo : 0 ≤ force ∧ force ≤ 20) : -62 ≤ fTu f p n force ∧ fTu f p n force ≤ 109 := by
  obtain ⟨hp, hf1, hf2, hf3, hf4, hf5, hf6, hf7, hf8⟩ := hf
  have h := kLean_b (k := f (7 + p)) hf2 (hf8 (f 6 % 4) (by omega) (by omega))
  unfold fTu kTurn fRow
  omega
theorem fUn_b {f : Int → Int} {p : Int} (hf : PF f p) : 0 ≤ fUn f p ∧ fUn f p ≤ 21 := by
  obtain ⟨hp, hf1, hf2, hf3, hf4, hf5, hf6, hf7, hf8⟩ := hf
  exact kUnsOf_b hf3 hf5
theorem wf_ev {b : Int → Int} : ∀ (l : List Int) (e : LK), wfS e.1.length l → 0 ≤ e.2.1 → 0 ≤ e.2.2 → (0 ≤ (l.foldl (stp b) e).2.1 ∧ (l.foldl (stp b) e).2.1 ≤ e.2.1 + 200 * (l.length : Int)) ∧ (0 ≤ (l.foldl (stp b) e).2.2 ∧ (l.foldl (stp b) e).2.2 ≤ e.2.2 + 200 * (l.length : Int))
  | [], e, _, h1, h2 => by simp; omega
  | s :: r, e, h, h1, h2 => by
    have key : wfS (stp b e s).1.length r ∧ (0 ≤ (stp b e s).2.1 ∧ (stp b e s).2.1 ≤ e.2.1 + 200) ∧ (0 ≤ (stp b e s).2.2 ∧ (stp b e s).2.2 ≤ e.2.2 + 200) := by
      unfold wfS at h
      unfold stp
      by_cases c1 : 0 ≤ s
      · rw [if_pos c1] at h ⊢
        exact ⟨h.2.2.2, by dsimp only; omega, by dsimp only; omega⟩
      · rw [if_neg c1] at h ⊢
        by_cases c2 : s = -1
        · rw [if_pos c2] at h ⊢
          refine ⟨?_, by dsimp only; omega, by dsimp only; omega⟩
          have e1 : (nt1 e.1).length = e.1.length := by cases e.1 <;> rfl
          dsimp only
          rw [e1]
          exact h.2
        · rw [if_neg c2] at h ⊢
          by_cases c3 : -10 < s
          · rw [if_pos c3] at h ⊢
            refine ⟨?_, by dsimp only; omega, by dsimp only; omega⟩
            have e1 : (bn2 s e.1).length = e.1.length - 1 := by
              match e.1, h.1 with
              | t2 :: t1 :: q, _ => simp [bn2]
            dsimp only
            rw [e1]
            exact h.2
          · rw [if_neg c3] at h ⊢
            refine ⟨h.2.2, ?_, ?_⟩
            · dsimp only
              split <;> omega
            · dsimp only
              split <;> omega
    have g := wf_ev (b := b) r (stp b e s) key.1 key.2.1.1 key.2.2.1
    have e3 : ((s :: r : List Int).length : Int) = (r.length : Int) + 1 := by rw [List.length_cons]; omega
    rw [List.foldl_cons, e3]
    omega
theorem kSl_b {f : Int → Int} {p n : Int} (h : wfS 0 (SL f)) (hg : GF f) : (0 ≤ kSl f p n ∧ kSl f p n ≤ 28000) ∧ (0 ≤ kGl f p n ∧ kGl f p n ≤ 28000) := by
  have h1 := wf_ev (b := kB f p n) (SL f) ([], 0, 0) h (by decide) (by decide)
  have h2 := kMany_b hg
  rw [SL_len] at h1
  unfold kSl kGl evL
  dsimp only at h1
  omega
theorem kOp_b {f : Int → Int} {p n more : Int} (h : wfS 0 (SL f)) (hg : GF f) (hn : 0 ≤ n ∧ n ≤ 99) (hm : 0 ≤ more ∧ more ≤ 99) : 0 ≤ kOp f p n more ∧ kOp f p n more ≤ 28100 := by
  have h1 := kSl_b (p := p) (n := n) h hg
  unfold kOp
  split <;> omega
/-- a player learns -/
def kLrn (f : Int → Int) (p n : Int) : Int → Int := aup (aup f (19 + p) (f (19 + p) + (if (-5 ≤ n - f (37 + p) ∧ n - f (37 + p) ≤ 5) ∧ f (19 + p) < 20 then 1 else 0))) (37 + p) (if f (37 + p) < n then n else f (37 + p))
def kGcd (a b : Int) : Int := ((Nat.gcd a.toNat b.toNat : Nat) : Int)
theorem kGcd_step {a b : Int} (ha : 0 ≤ a) (hb : 0 < b) : kGcd b (a % b) = kGcd a b := by
  unfold kGcd
  rw [Int.toNat_emod ha (by omega), Nat.gcd_comm b.toNat, ← Nat.gcd_rec, Nat.gcd_comm]
theorem kGcd_0 {a : Int} (ha : 0 ≤ a) : kGcd a 0 = a := by
  unfold kGcd
  rw [show (0 : Int).toNat = 0 from rfl, Nat.gcd_zero_right]
  omega
theorem pow_b {n : Int} (h : 0 ≤ n ∧ n ≤ 10) : ∀ k : Nat, 0 ≤ n ^ k ∧ n ^ k ≤ 10 ^ k
  | 0 => by simp
  | k + 1 => by
    have g := pow_b h k
    rw [Int.pow_succ, Int.pow_succ]
    exact ⟨Int.mul_nonneg g.1 h.1, Int.mul_le_mul g.2 h.2 h.1 (Int.le_trans g.1 g.2)⟩
theorem cnt_succ (un wide off : Int) (m : Nat) : cnt un wide off (m + 1) = cnt un wide off m + (if off + (m : Int) * un ≤ wide ∧ -wide ≤ off + (m : Int) * un then 1 else 0) := rfl
theorem bst_succ (F : Int → Int) (m : Nat) : bst F (m + 1) = if (bst F m).1 < F (m : Int) then (F (m : Int), (m : Int)) else bst F m := rfl
theorem mst_succ (G : Int → Int) (m : Nat) : mst G (m + 1) = if 5 ≤ G ((m : Int) + 1) then (m : Int) + 1 else mst G m := rfl
theorem smR_succ (F : Int → Int) (m : Nat) : smR F (m + 1) = smR F m + F (m : Int) := rfl
theorem smR_b {F : Int → Int} {B : Int} (h : ∀ k, 0 ≤ F k ∧ F k ≤ B) : ∀ m : Nat, 0 ≤ smR F m ∧ smR F m ≤ (m : Int) * B
  | 0 => by simp [smR]
  | m + 1 => by
    have g := smR_b h m
    have q := h (m : Int)
    rw [smR_succ]
    have e : ((m + 1 : Nat) : Int) * B = (m : Int) * B + B := by rw [Int.natCast_add, Int.add_mul]; omega
    omega
