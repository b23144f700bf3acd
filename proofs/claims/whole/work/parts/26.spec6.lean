/-! ===== plans ===== -/
theorem fBest_37 (f : Int → Int) (p n z : Int) (hp : 0 ≤ p ∧ p < 6) (h5 : -1 ≤ f 5) : fBest (aup f (37 + p) z) p n = fBest f p n := by
  have e : ∀ j : Int, j ≠ 37 + p → aup f (37 + p) z j = f j := fun j hj => aup_n _ _ hj
  have hB : kB (aup f (37 + p) z) p n = kB f p n := by
    unfold kB
    rw [e (7 + p) (by omega), e (31 + p) (by omega), e (19 + p) (by omega), e 6 (by omega)]
  have hO : kOp (aup f (37 + p) z) p n 0 = kOp f p n 0 := by
    unfold kOp kSl kGl
    rw [hB, SL_up h5 (by omega)]
  have hR : fRow (aup f (37 + p) z) p = fRow f p := by
    unfold fRow
    rw [e 6 (by omega), e _ (by omega)]
  unfold fBest fBst
  congr 2
  funext fo
  unfold fAll fTu fUn
  rw [hO, hR, kWide_up h5 (by omega), e (7 + p) (by omega), e (13 + p) (by omega), e (19 + p) (by omega), e (31 + p) (by omega), e (25 + p) (by omega)]
def kPB (f : Int → Int) (p : Int) (s k : Int) : Int := fBest (aup f (19 + p) s) p (5 * k + 5)
theorem aup_comm (f : Int → Int) {i j : Int} (a b : Int) (h : i ≠ j) : aup (aup f i a) j b = aup (aup f j b) i a := by
  funext k
  unfold aup
  split
  · split
    · omega
    · rfl
  · rfl
theorem kPB_lrn {f : Int → Int} {p n : Int} (hp : 0 ≤ p ∧ p < 6) (h5 : -1 ≤ f 5) : kPB (kLrn f p n) p = kPB f p := by
  funext s k
  unfold kPB kLrn
  rw [aup_comm _ _ _ (show (37 + p : Int) ≠ 19 + p by omega), aup_aup, fBest_37 _ _ _ _ hp (by rw [aup_n _ _ (by omega)]; exact h5)]
theorem kPB_own {f : Int → Int} {p k : Int} : kPB f p (f (19 + p)) k = fBest f p (5 * k + 5) := by
  unfold kPB
  rw [aup_id]
theorem kPB_b {f : Int → Int} {p s k : Int} : 0 ≤ kPB f p s k ∧ kPB f p s k ≤ 10 := fBest_b
def lsk (sc sk n : Int) : Int := sk + (if (-5 ≤ n - sc ∧ n - sc ≤ 5) ∧ sk < 20 then 1 else 0)
theorem kLrn_37 (f : Int → Int) (p n : Int) : kLrn f p n (37 + p) = if f (37 + p) < n then n else f (37 + p) := aup_s _ _ _
theorem kLrn_19 (f : Int → Int) (p n : Int) : kLrn f p n (19 + p) = lsk (f (37 + p)) (f (19 + p)) n := by
  unfold kLrn lsk
  rw [aup_n _ _ (by omega), aup_s]
theorem kLrn_back (f : Int → Int) (p n : Int) : aup (aup (kLrn f p n) (37 + p) (f (37 + p))) (19 + p) (f (19 + p)) = f := by
  unfold kLrn
  rw [aup_aup, aup_comm _ _ _ (show (37 + p : Int) ≠ 19 + p by omega), aup_aup, aup_id, aup_id]
theorem SOK_lrn {f : Int → Int} {p n : Int} (h : SOK f) (hp : 0 ≤ p ∧ p < 6) (hn : 0 ≤ n ∧ n ≤ 99) : SOK (kLrn f p n) := by
  obtain ⟨g0, g1, g2, g3, g4, g5, g6, g7, g8⟩ := h.2.1 p hp.1 hp.2
  have h1 : SOK (aup f (19 + p) (f (19 + p) + (if (-5 ≤ n - f (37 + p) ∧ n - f (37 + p) ≤ 5) ∧ f (19 + p) < 20 then 1 else 0))) := SOK_up h (Or.inl (by split <;> omega))
  exact SOK_up h1 (Or.inr (Or.inr (Or.inl (by split <;> omega))))
def plV (B P : Int → Int → Int) (sc sk k : Int) : Int := B sk k * P (if sc < 5 * k + 5 then 5 * k + 5 else sc) (lsk sc sk (5 * k + 5)) + (10 - B sk k) * P sc sk
def plN (B : Int → Int → Int) : Nat → Int → Int → Int
  | 0, sc, _ => sc
  | t + 1, sc, sk => (bst (plV B (plN B t) sc sk) 12).1
theorem plN_1 (B : Int → Int → Int) (t : Nat) (sc sk : Int) : plN B (t + 1) sc sk = (bst (plV B (plN B t) sc sk) 12).1 := rfl
theorem bst_bd {F : Int → Int} {M : Int} (n : Nat) (hn : 0 < n) (hF : ∀ k : Int, 0 ≤ k → k < (n : Int) → 0 ≤ F k ∧ F k ≤ M) : ∀ m : Nat, m ≤ n → -1 ≤ (bst F m).1 ∧ ((bst F m).1 ≤ M) ∧ (0 < m → 0 ≤ (bst F m).1 ∧ 0 ≤ (bst F m).2 ∧ (bst F m).2 < (m : Int))
  | 0, _ => by
    have g := hF 0 (by omega) (by omega)
    simp [bst]
    omega
  | m + 1, h => by
    have g := hF (m : Int) (by omega) (by omega)
    have q := bst_bd n hn hF m (by omega)
    rw [bst_succ]
    split
    · dsimp only
      omega
    · rename_i c
      refine ⟨q.1, q.2.1, fun _ => ?_⟩
      rcases Nat.eq_zero_or_pos m with e | e
      · subst e
        exact absurd (show (bst F 0).1 < F ((0 : Nat) : Int) by show (-1 : Int) < _; have := g.1; omega) c
      · have := q.2.2 e
        omega
theorem plV_b {B P : Int → Int → Int} {sc sk k M : Int} (hB : ∀ s k, 0 ≤ B s k ∧ B s k ≤ 10) (hP : ∀ sc sk, 0 ≤ sc → sc ≤ 99 → 0 ≤ P sc sk ∧ P sc sk ≤ M) (hs : 0 ≤ sc ∧ sc ≤ 99) (hk : 0 ≤ k ∧ k < 12) : 0 ≤ plV B P sc sk k ∧ plV B P sc sk k ≤ 10 * M := by
  unfold plV
  have b := hB sk k
  have h1 := hP (if sc < 5 * k + 5 then 5 * k + 5 else sc) (lsk sc sk (5 * k + 5)) (by split <;> omega) (by split <;> omega)
  have h2 := hP sc sk hs.1 hs.2
  generalize B sk k = o at b ⊢
  generalize P (if sc < 5 * k + 5 then 5 * k + 5 else sc) (lsk sc sk (5 * k + 5)) = w at h1 ⊢
  generalize P sc sk = l at h2 ⊢
  rcases (show o = 0 ∨ o = 1 ∨ o = 2 ∨ o = 3 ∨ o = 4 ∨ o = 5 ∨ o = 6 ∨ o = 7 ∨ o = 8 ∨ o = 9 ∨ o = 10 by omega) with rfl | rfl | rfl | rfl | rfl | rfl | rfl | rfl | rfl | rfl | rfl <;> omega
theorem plN_b {B : Int → Int → Int} (hB : ∀ s k, 0 ≤ B s k ∧ B s k ≤ 10) : ∀ (t : Nat) (sc sk : Int), 0 ≤ sc → sc ≤ 99 → 0 ≤ plN B t sc sk ∧ plN B t sc sk ≤ 99 * 10 ^ t
  | 0, sc, sk, h1, h2 => by simp [plN]; omega
  | t + 1, sc, sk, h1, h2 => by
    have hv : ∀ k : Int, 0 ≤ k → k < ((12 : Nat) : Int) → 0 ≤ plV B (plN B t) sc sk k ∧ plV B (plN B t) sc sk k ≤ 10 * (99 * 10 ^ t) := fun k k0 k1 => plV_b hB (fun a b c d => plN_b hB t a b c d) ⟨h1, h2⟩ ⟨k0, k1⟩
    have q := bst_bd 12 (by decide) hv 12 (by decide)
    have q2 := q.2.2 (by decide)
    have e : (10 : Int) ^ (t + 1) = 10 ^ t * 10 := Int.pow_succ _ _
    rw [plN_1, e]
    omega
def qPlan (f : Int → Int) (p t pt : Int) : Int := if ¬ ((0 ≤ p ∧ p ≤ f 0 - 1) ∧ (1 ≤ t ∧ t ≤ 3) ∧ (0 ≤ pt ∧ pt ≤ 1)) then kNO else kFr (plN (kPB f p) t.toNat (f (37 + p)) (f (19 + p))) (10 ^ t.toNat) pt
def plA (f : Int → Int) (p : Int) (t : Nat) : Int := 5 * (bst (plV (kPB f p) (plN (kPB f p) t) (f (37 + p)) (f (19 + p))) 12).2 + 5
def qFirst (f : Int → Int) (p t : Int) : Int := if ¬ (0 ≤ p ∧ p ≤ f 0 - 1) then -1 else if ¬ (1 ≤ t ∧ t ≤ 3) then -2 else plA f p (t - 1).toNat
/-- what the reference has kept of odds is so -/
def KI (f : Int → Int) (p : Int) (kp : Int → Int) : Prop := ∀ s k : Int, 0 ≤ s → s ≤ 20 → 0 ≤ k → k < 12 → kp (12 * s + k) = -1 ∨ kp (12 * s + k) = kPB f p s k
theorem KI_up {f kp : Int → Int} {p s k : Int} (h : KI f p kp) (hs : 0 ≤ s ∧ s ≤ 20) (hk : 0 ≤ k ∧ k < 12) : KI f p (aup kp (12 * s + k) (kPB f p s k)) := by
  intro s2 k2 a b c d
  by_cases e : 12 * s2 + k2 = 12 * s + k
  · have e1 : s2 = s := by omega
    have e2 : k2 = k := by omega
    subst e1; subst e2
    rw [aup_s]
    exact Or.inr rfl
  · rw [aup_n _ _ e]
    exact h s2 k2 a b c d
theorem KI_lrn {f kp : Int → Int} {p n : Int} (h : KI f p kp) (hp : 0 ≤ p ∧ p < 6) (h5 : -1 ≤ f 5) : KI (kLrn f p n) p kp := by
  unfold KI
  rw [kPB_lrn hp h5]
  exact h
theorem KI_back {f kp : Int → Int} {p n : Int} (h : KI (kLrn f p n) p kp) (hp : 0 ≤ p ∧ p < 6) (h5 : -1 ≤ f 5) : KI f p kp := by
  unfold KI at h
  rw [kPB_lrn hp h5] at h
  exact h
