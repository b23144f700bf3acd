/-! ===== the reference's state, and what its calls answer ===== -/
def SOK (f : Int → Int) : Prop := GF f ∧ (∀ p : Int, 0 ≤ p → p < 6 → PF f p) ∧ (∀ p : Int, 0 ≤ p → p < f 0 → 1 ≤ f (25 + p)) ∧ (∀ i : Int, 0 ≤ i → i < f 2 → (0 ≤ f (73 + i) ∧ f (73 + i) < f 0) ∧ (1 ≤ f (81 + i) ∧ f (81 + i) ≤ 99) ∧ (0 ≤ f (89 + i) ∧ f (89 + i) ≤ 20) ∧ (0 ≤ f (97 + i) ∧ f (97 + i) ≤ 99)) ∧ (∀ i : Int, 0 ≤ i → i < f 3 → (0 ≤ f (105 + i) ∧ f (105 + i) < f 0) ∧ (0 ≤ f (113 + i) ∧ f (113 + i) ≤ 99)) ∧ (∀ i : Int, 0 ≤ i → i < f 4 → 0 ≤ f (121 + i) ∧ f (121 + i) ≤ 127) ∧ wfS 0 (SL f)
def isP (f : Int → Int) (p : Int) : Prop := 0 ≤ p ∧ p ≤ f 0 - 1
def qOf (f : Int → Int) (p w : Int) : Int := if ¬ (0 ≤ p ∧ p ≤ f 0 - 1) then -1 else if w = 7 then fUn f p else if 0 ≤ w ∧ w ≤ 6 then f (7 + 6 * w + p) else -1
def qTold (f : Int → Int) (w : Int) : Int := if w = 0 then f 6 else if w = 1 then kWide f else if w = 2 then kPay f else -1
def qPile (f : Int → Int) (p n fo w : Int) : Int := if ¬ ((0 ≤ p ∧ p ≤ f 0 - 1) ∧ (0 ≤ w ∧ w ≤ 1)) then -1001 else if ¬ ((1 ≤ n ∧ n ≤ 99) ∧ (0 ≤ fo ∧ fo ≤ 20)) then -1002 else if w = 0 then fTu f p n fo else kOp f p n 0
def qWould (f : Int → Int) (p n fo d : Int) : Int := if ¬ (0 ≤ p ∧ p ≤ f 0 - 1) then -1 else if ¬ (((1 ≤ n ∧ n ≤ 99) ∧ (0 ≤ fo ∧ fo ≤ 20)) ∧ (0 ≤ d ∧ d ≤ 9)) then -2 else fCat f p n fo d (kOp f p n 0)
def qOdds (f : Int → Int) (p n fo : Int) : Int := if ¬ (0 ≤ p ∧ p ≤ f 0 - 1) then -1 else if ¬ ((1 ≤ n ∧ n ≤ 99) ∧ (0 ≤ fo ∧ fo ≤ 20)) then -2 else fAll f p n fo (kOp f p n 0)
def kNO : Int := -9223372036854775808
/-- a part of a fraction in lowest terms -/
def kFr (up low part : Int) : Int := if part = 0 then up / kGcd up low else low / kGcd up low
def qMean (f : Int → Int) (p n fo pt : Int) : Int := if ¬ ((0 ≤ p ∧ p ≤ f 0 - 1) ∧ ((1 ≤ n ∧ n ≤ 99) ∧ (0 ≤ fo ∧ fo ≤ 20)) ∧ (0 ≤ pt ∧ pt ≤ 1)) then kNO else kFr (fSum f p n fo 10) 10 pt
def qBest (f : Int → Int) (p n w : Int) : Int := if ¬ ((0 ≤ p ∧ p ≤ f 0 - 1) ∧ (0 ≤ w ∧ w ≤ 1)) then -1 else if ¬ (1 ≤ n ∧ n ≤ 99) then -2 else if w = 0 then (fBst f p n 21).2 else fBest f p n
def qMost (f : Int → Int) (p : Int) : Int := if ¬ (0 ≤ p ∧ p ≤ f 0 - 1) then -1 else fMost f p
/-- learns: the last of those that are most, from n0 on, m of them -/
def lrn (G : Int → Int) (n0 : Int) : Nat → Int × Int
  | 0 => (-1, 0)
  | m + 1 => let e := lrn G n0 m; let n := n0 + (m : Int); if 1 ≤ n ∧ n ≤ 99 then (if e.1 ≤ G n then (G n, n) else e) else e
def qLearns (f : Int → Int) (p : Int) : Int := if ¬ (0 ≤ p ∧ p ≤ f 0 - 1) then -1 else (lrn (fBest f p) (f (37 + p) - 5) 11).2
theorem lrn_succ (G : Int → Int) (n0 : Int) (m : Nat) : lrn G n0 (m + 1) = if 1 ≤ n0 + (m : Int) ∧ n0 + (m : Int) ≤ 99 then (if (lrn G n0 m).1 ≤ G (n0 + (m : Int)) then (G (n0 + (m : Int)), n0 + (m : Int)) else lrn G n0 m) else lrn G n0 m := rfl
theorem fBest_b {f : Int → Int} {p n : Int} : 0 ≤ fBest f p n ∧ fBest f p n ≤ 10 := by
  have h := bst_b (F := fun fo => fAll f p n fo (kOp f p n 0)) (fun k => kAll_b _ _ _ _ _) 21
  unfold fBest fBst
  have := h.2.2.2.2 (by decide)
  omega
theorem fBst2_b {f : Int → Int} {p n : Int} : 0 ≤ (fBst f p n 21).2 ∧ (fBst f p n 21).2 ≤ 20 := by
  have h := bst_b (F := fun fo => fAll f p n fo (kOp f p n 0)) (fun k => kAll_b _ _ _ _ _) 20
  unfold fBst
  rw [show (21 : Nat) = 20 + 1 from rfl, bst_succ]
  split
  · show (0 : Int) ≤ ((20 : Nat) : Int) ∧ ((20 : Nat) : Int) ≤ 20
    omega
  · exact ⟨h.2.2.1, h.2.2.2.1⟩
theorem fMost_b {f : Int → Int} {p : Int} : 0 ≤ fMost f p ∧ fMost f p ≤ 99 := mst_b 99
theorem fSum_b {f : Int → Int} {p n force : Int} (hn : 0 ≤ n ∧ n ≤ 99) (m : Nat) : 0 ≤ fSum f p n force m ∧ fSum f p n force m ≤ (m : Int) * n := smR_b (fun _ => kCat_b hn) m
def qAs (f : Int → Int) (p k : Int) : Int := if ¬ ((0 ≤ p ∧ p ≤ f 0 - 1) ∧ (0 ≤ k ∧ k ≤ 6)) then -1 else if k = 0 ∨ k = f (7 + p) ∨ (0 < k ∧ k < 4 ∧ f (7 + p) = k + 3) then f (13 + p) else -6
