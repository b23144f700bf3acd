/-! ===== fractions of two players, the state after writes ===== -/
theorem aup_aup (f : Int → Int) (i a b : Int) : aup (aup f i a) i b = aup f i b := by
  funext j
  unfold aup
  split <;> rfl
theorem aup_id (f : Int → Int) (i : Int) : aup f i (f i) = f := by
  funext j
  unfold aup
  split
  · rename_i h; rw [h]
  · rfl
theorem kMany_up {f : Int → Int} {i z : Int} (h5 : -1 ≤ f 5) (hi : i < 221 ∧ i ≠ 5) : kMany (aup f i z) = kMany f := by
  unfold kMany
  rw [aup_n _ _ (show (5 : Int) ≠ i by omega)]
  split
  · rfl
  · rw [aup_n _ _ (by omega)]
theorem kWide_up {f : Int → Int} {i z : Int} (h5 : -1 ≤ f 5) (hi : i < 221 ∧ i ≠ 5) : kWide (aup f i z) = kWide f := by
  unfold kWide
  rw [aup_n _ _ (show (5 : Int) ≠ i by omega)]
  split
  · rfl
  · rw [aup_n _ _ (by omega)]
theorem kPay_up {f : Int → Int} {i z : Int} (h5 : -1 ≤ f 5) (hi : i < 221 ∧ i ≠ 5) : kPay (aup f i z) = kPay f := by
  unfold kPay
  rw [aup_n _ _ (show (5 : Int) ≠ i by omega)]
  split
  · rfl
  · rw [aup_n _ _ (by omega)]
theorem SL_up {f : Int → Int} {i z : Int} (h5 : -1 ≤ f 5) (hi : i < 221 ∧ i ≠ 5) : SL (aup f i z) = SL f := by
  unfold SL
  rw [kMany_up h5 hi, aup_n _ _ (show (5 : Int) ≠ i by omega)]
  by_cases h : f 5 = -1
  · have e : kMany f = 0 := by unfold kMany; rw [if_pos h]
    rw [e]
    rfl
  · refine List.map_congr_left fun k _ => ?_
    rw [aup_n _ _ (by omega)]
theorem GF_up {f : Int → Int} {i z : Int} (h : GF f) (hi : i < 221 ∧ 7 ≤ i) : GF (aup f i z) := by
  obtain ⟨h0, h1, h2, h3, h4, h5, h6, h7⟩ := h
  have e : ∀ j : Int, j < 7 → aup f i z j = f j := fun j hj => aup_n _ _ (by omega)
  unfold GF
  rw [e 0 (by omega), e 1 (by omega), e 2 (by omega), e 3 (by omega), e 4 (by omega), e 5 (by omega), e 6 (by omega)]
  refine ⟨h0, h1, h2, h3, h4, h5, h6, fun a a0 a1 => ?_⟩
  rw [aup_n _ _ (by omega), aup_n _ _ (by omega), aup_n _ _ (by omega)]
  exact h7 a a0 a1
/-- a player's number that is written stays in its bounds -/
def okUp (i z : Int) : Prop := (19 ≤ i ∧ i < 25 ∧ 0 ≤ z ∧ z ≤ 20) ∨ (31 ≤ i ∧ i < 37 ∧ 0 ≤ z ∧ z ≤ 9) ∨ (37 ≤ i ∧ i < 43 ∧ 0 ≤ z ∧ z ≤ 99) ∨ (43 ≤ i ∧ i < 49 ∧ 0 ≤ z ∧ z ≤ 9999) ∨ (49 ≤ i ∧ i < 73 ∧ 0 ≤ z ∧ z ≤ 9)
theorem PF_ok {f : Int → Int} {p i z : Int} (h : PF f p) (hi : okUp i z) : PF (aup f i z) p := by
  obtain ⟨hp, h1, h2, h3, h4, h5, h6, h7, h8⟩ := h
  unfold okUp at hi
  refine ⟨hp, ?_, ?_, ?_, ?_, ?_, ?_, ?_, fun k k0 k1 => ?_⟩
  · rw [aup_n _ _ (by omega)]; exact h1
  · rw [aup_n _ _ (by omega)]; exact h2
  · unfold aup; split <;> omega
  · rw [aup_n _ _ (by omega)]; exact h4
  · unfold aup; split <;> omega
  · unfold aup; split <;> omega
  · unfold aup; split <;> omega
  · have := h8 k k0 k1
    unfold aup; split <;> omega
theorem SOK_up {f : Int → Int} {i z : Int} (h : SOK f) (hi : okUp i z) : SOK (aup f i z) := by
  obtain ⟨hg, hp, hh, hs, hb, ht, hw⟩ := h
  have hi2 : 19 ≤ i ∧ i < 73 ∧ (i < 25 ∨ 31 ≤ i) := by unfold okUp at hi; omega
  have e : ∀ j : Int, j < 19 ∨ 73 ≤ j ∨ (25 ≤ j ∧ j < 31) → aup f i z j = f j := fun j hj => aup_n _ _ (by omega)
  have e5 := hg.2.2.2.2.2.1
  have e0 := hg.1
  have e2 := hg.2.2.1
  refine ⟨GF_up hg (by omega), fun p p0 p1 => PF_ok (hp p p0 p1) hi, fun p p0 p1 => ?_, fun j j0 j1 => ?_, fun j j0 j1 => ?_, fun j j0 j1 => ?_, ?_⟩
  · rw [e 0 (by omega)] at p1
    rw [e (25 + p) (by omega)]
    exact hh p p0 p1
  · rw [e 2 (by omega)] at j1
    rw [e (73 + j) (by omega), e (81 + j) (by omega), e (89 + j) (by omega), e (97 + j) (by omega), e 0 (by omega)]
    exact hs j j0 j1
  · rw [e 3 (by omega)] at j1
    rw [e (105 + j) (by omega), e (113 + j) (by omega), e 0 (by omega)]
    exact hb j j0 j1
  · rw [e 4 (by omega)] at j1
    rw [e (121 + j) (by omega)]
    exact ht j j0 j1
  · rw [SL_up (by omega) (by omega)]
    exact hw
/-- raises: won and drawn, by ten to the power of the tries -/
def rs (G : Nat → Int) : Nat → Int × Int
  | 0 => (0, 1)
  | m + 1 => (10 * (rs G m).1 + (if m % 2 = 1 then (rs G m).2 * (10 - G m) else 0), (rs G m).2 * G m)
def rsG (f : Int → Int) (a b n : Int) (m : Nat) : Int := fBest f (if m % 2 = 0 then a else b) (if n + (m : Int) < 99 then n + (m : Int) else 99)
theorem rs_b {G : Nat → Int} (h : ∀ k, 0 ≤ G k ∧ G k ≤ 10) : ∀ m : Nat, 0 ≤ (rs G m).1 ∧ 0 ≤ (rs G m).2 ∧ (rs G m).1 + (rs G m).2 ≤ 10 ^ m
  | 0 => by simp [rs]
  | m + 1 => by
    have g := rs_b h m
    have q := h m
    have p1 := Int.mul_nonneg g.2.1 q.1
    have p2 : 0 ≤ (rs G m).2 * (10 - G m) := Int.mul_nonneg g.2.1 (by omega)
    have p3 : (rs G m).2 * (10 - G m) = (rs G m).2 * 10 - (rs G m).2 * G m := Int.mul_sub _ _ _
    have p4 : (10 : Int) ^ (m + 1) = 10 ^ m * 10 := Int.pow_succ _ _
    unfold rs
    dsimp only
    rw [p4]
    split <;> omega
def oneM (f : Int → Int) (q : Int) : Int := if f (37 + q) < 99 then f (37 + q) + 1 else 99
def qMore (f : Int → Int) (a b t pt : Int) : Int := if ¬ ((0 ≤ a ∧ a ≤ f 0 - 1) ∧ (0 ≤ b ∧ b ≤ f 0 - 1) ∧ a ≠ b ∧ (1 ≤ t ∧ t ≤ 6) ∧ (0 ≤ pt ∧ pt ≤ 1)) then kNO else kFr (10 ^ t.toNat - (10 - fBest f a (oneM f b)) ^ t.toNat) (10 ^ t.toNat) pt
def qRaise (f : Int → Int) (a b n t w pt : Int) : Int := if ¬ ((0 ≤ a ∧ a ≤ f 0 - 1) ∧ (0 ≤ b ∧ b ≤ f 0 - 1) ∧ a ≠ b ∧ (1 ≤ n ∧ n ≤ 99) ∧ (1 ≤ t ∧ t ≤ 8) ∧ (0 ≤ w ∧ w ≤ 1) ∧ (0 ≤ pt ∧ pt ≤ 1)) then kNO else kFr (if w = 0 then (rs (rsG f a b n) t.toNat).1 else (rs (rsG f a b n) t.toNat).2) (10 ^ t.toNat) pt
def qWager (f : Int → Int) (a b s : Int) : Int := if ¬ ((0 ≤ a ∧ a ≤ f 0 - 1) ∧ (0 ≤ b ∧ b ≤ f 0 - 1)) then -1 else if a = b ∨ ¬ (0 ≤ s ∧ s ≤ 999) then -2 else if s ≤ f (43 + a) ∧ 0 < s ∧ 5 < fBest f a (oneM f b) then 1 else 0
/-- the fewest tries, from one on, so many more are tried -/
def rcd (o : Int) : Nat → Nat → Int
  | 0, _ => -5
  | m + 1, t => if 2 * (10 - o) ^ t ≤ 10 ^ t then (t : Int) else rcd o m (t + 1)
def qRecord (f : Int → Int) (p n : Int) : Int := if ¬ (0 ≤ p ∧ p ≤ f 0 - 1) then -1 else if ¬ (1 ≤ n ∧ n ≤ 99) then -2 else rcd (fBest f p n) 9 1
def qStuck (f : Int → Int) (p n : Int) : Int := if ¬ (0 ≤ p ∧ p ≤ f 0 - 1) then -1 else if ¬ (1 ≤ n ∧ n ≤ 99) then -2 else if kOp f p n 0 ≤ 10 * f (25 + p) then 0 else if kOp f p n 0 - 10 * f (25 + p) ≤ 99 then kOp f p n 0 - 10 * f (25 + p) else -5
def qFloor (f : Int → Int) (p n fo pt : Int) : Int := if ¬ ((0 ≤ p ∧ p ≤ f 0 - 1) ∧ ((1 ≤ n ∧ n ≤ 99) ∧ (0 ≤ fo ∧ fo ≤ 20)) ∧ (0 ≤ pt ∧ pt ≤ 1)) then kNO else kFr (kPay f * (10 * n - fSum f p n fo 10)) 10 pt
theorem pow_10 (k : Nat) (h : k ≤ 8) : (1 : Int) ≤ 10 ^ k ∧ (10 : Int) ^ k ≤ 100000000 := by
  rcases (show k = 0 ∨ k = 1 ∨ k = 2 ∨ k = 3 ∨ k = 4 ∨ k = 5 ∨ k = 6 ∨ k = 7 ∨ k = 8 by omega) with rfl | rfl | rfl | rfl | rfl | rfl | rfl | rfl | rfl <;> decide
theorem rcd_7 {o : Int} (h1 : 1 ≤ o) (h2 : o ≤ 10) : 2 * (10 - o) ^ 7 ≤ 10 ^ 7 := by
  rcases (show o = 1 ∨ o = 2 ∨ o = 3 ∨ o = 4 ∨ o = 5 ∨ o = 6 ∨ o = 7 ∨ o = 8 ∨ o = 9 ∨ o = 10 by omega) with rfl | rfl | rfl | rfl | rfl | rfl | rfl | rfl | rfl | rfl <;> decide
theorem rcd_0 : ∀ m t : Nat, rcd 0 m t = -5
  | 0, _ => rfl
  | m + 1, t => by
    unfold rcd
    have h : (1 : Int) ≤ 10 ^ t := by
      have := Int.pow_pos (n := 10) (m := t) (by decide)
      omega
    rw [show (10 : Int) - 0 = 10 from rfl, if_neg (by omega)]
    exact rcd_0 m (t + 1)
theorem rcd_hit {o : Int} {m t : Nat} (h : 2 * (10 - o) ^ t ≤ 10 ^ t) : rcd o (m + 1) t = (t : Int) := by unfold rcd; rw [if_pos h]
theorem rcd_miss {o : Int} {m t : Nat} (h : ¬ 2 * (10 - o) ^ t ≤ 10 ^ t) : rcd o (m + 1) t = rcd o m (t + 1) := by
  conv => lhs; unfold rcd
  rw [if_neg h]
theorem rsG_at {f : Int → Int} {a b n j : Int} (h : 0 ≤ j) : rsG f a b n j.toNat = fBest f (if j % 2 = 0 then a else b) (if n + j < 99 then n + j else 99) := by
  unfold rsG
  rw [show ((j.toNat : Nat) : Int) = j by omega]
  congr 1
  split
  · rw [if_pos (by omega)]
  · rw [if_neg (by omega)]
theorem rs_at {G : Nat → Int} {j : Int} (h : 0 ≤ j) : rs G (j + 1).toNat = (10 * (rs G j.toNat).1 + (if j % 2 = 1 then (rs G j.toNat).2 * (10 - G j.toNat) else 0), (rs G j.toNat).2 * G j.toNat) := by
  rw [show (j + 1).toNat = j.toNat + 1 by omega]
  show (_, _) = _
  congr 2
  split
  · rw [if_pos (by omega)]
  · rw [if_neg (by omega)]
theorem kOp_c (f : Int → Int) (p n m : Int) : (n + kSl f p n - kGl f p n - m < 0 ∧ kOp f p n m = 0) ∨ (0 ≤ n + kSl f p n - kGl f p n - m ∧ kOp f p n m = n + kSl f p n - kGl f p n - m) := by
  unfold kOp
  split <;> omega
theorem oneM_b {f : Int → Int} {p : Int} (h : PF f p) : 1 ≤ oneM f p ∧ oneM f p ≤ 99 := by
  obtain ⟨hp, hf1, hf2, hf3, hf4, hf5, hf6, hf7, hf8⟩ := h
  unfold oneM
  split <;> omega
