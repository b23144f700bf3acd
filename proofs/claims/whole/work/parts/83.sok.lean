/-! ===== every call keeps the reference's state well made ===== -/
theorem PF_eq {f F : Int → Int} {p : Int} (h : PF f p) (he : ∀ j : Int, 7 ≤ j → j < 73 → F j = f j) : PF F p := by
  obtain ⟨hp, h1, h2, h3, h4, h5, h6, h7, h8⟩ := h
  unfold PF
  rw [he (7 + p) (by omega) (by omega), he (13 + p) (by omega) (by omega), he (19 + p) (by omega) (by omega), he (25 + p) (by omega) (by omega), he (31 + p) (by omega) (by omega), he (37 + p) (by omega) (by omega), he (43 + p) (by omega) (by omega)]
  exact ⟨hp, h1, h2, h3, h4, h5, h6, h7, fun k k0 k1 => by rw [he _ (by omega) (by omega)]; exact h8 k k0 k1⟩
theorem SL_eq {f F : Int → Int} (h5 : -1 ≤ f 5) (e5 : F 5 = f 5) (he : ∀ j : Int, 221 ≤ j → F j = f j) : SL F = SL f := by
  have hm : kMany F = kMany f := by
    unfold kMany
    rw [e5]
    split
    · rfl
    · exact he _ (by omega)
  unfold SL
  rw [hm, e5]
  by_cases h : f 5 = -1
  · have e : kMany f = 0 := by unfold kMany; rw [if_pos h]
    rw [e]
    rfl
  · refine List.map_congr_left fun k _ => ?_
    exact he _ (by omega)
theorem GF_hi {f F : Int → Int} (h : GF f) (he : ∀ j : Int, 221 ≤ j → F j = f j) : ∀ a : Int, 0 ≤ a → a < 5 → (0 ≤ F (221 + a) ∧ F (221 + a) ≤ 99) ∧ (0 ≤ F (226 + a) ∧ F (226 + a) ≤ 99) ∧ (0 ≤ F (231 + a) ∧ F (231 + a) ≤ 140) := fun a a0 a1 => by
  rw [he (221 + a) (by omega), he (226 + a) (by omega), he (231 + a) (by omega)]
  exact h.2.2.2.2.2.2.2 a a0 a1
theorem SOK_set {f : Int → Int} {p w n : Int} (h : SOK f) : SOK (qSet f p w n).2 := by
  have h0 := h.1.1
  unfold qSet
  by_cases c1 : (0 ≤ p ∧ p ≤ f 0 - 1) ∧ (0 ≤ w ∧ w ≤ 2)
  · rw [if_neg (fun z => z c1)]
    by_cases c2 : 0 ≤ n ∧ n ≤ (if w = 0 then 20 else if w = 1 then 9 else 99)
    · rw [if_neg (fun z => z c2)]
      refine SOK_up h ?_
      unfold sAt okUp
      by_cases e0 : w = 0
      · rw [if_pos e0] at c2 ⊢; omega
      · by_cases e1 : w = 1
        · rw [if_neg e0, if_pos e1] at c2 ⊢; omega
        · rw [if_neg e0, if_neg e1] at c2 ⊢; omega
    · rw [if_pos c2]
      exact h
  · rw [if_pos c1]
    exact h
theorem SOK_row {f : Int → Int} {p k n : Int} (h : SOK f) : SOK (qRow f p k n).2 := by
  have h0 := h.1.1
  unfold qRow
  (repeat' split) <;> first | exact h | exact SOK_up h (Or.inr (Or.inr (Or.inr (Or.inr (by omega)))))
theorem SOK_6 {f : Int → Int} {z : Int} (h : SOK f) (hz : 0 ≤ z ∧ z ≤ 9999) : SOK (aup f 6 z) := by
  obtain ⟨hg, hp, hh, hs, hb, ht, hw⟩ := h
  have e : ∀ j : Int, j ≠ 6 → aup f 6 z j = f j := fun j hj => aup_n _ _ hj
  refine ⟨?_, fun p p0 p1 => PF_eq (hp p p0 p1) (fun j j0 j1 => e j (by omega)), fun p p0 p1 => ?_, fun j j0 j1 => ?_, fun j j0 j1 => ?_, fun j j0 j1 => ?_, ?_⟩
  · unfold GF
    rw [e 0 (by decide), e 1 (by decide), e 2 (by decide), e 3 (by decide), e 4 (by decide), e 5 (by decide), aup_s]
    exact ⟨hg.1, hg.2.1, hg.2.2.1, hg.2.2.2.1, hg.2.2.2.2.1, hg.2.2.2.2.2.1, hz, GF_hi hg (fun j hj => e j (by omega))⟩
  · rw [e 0 (by decide)] at p1
    rw [e _ (by omega)]
    exact hh p p0 p1
  · rw [e 2 (by decide)] at j1
    have := hg.2.2.1
    rw [e (73 + j) (by omega), e (81 + j) (by omega), e (89 + j) (by omega), e (97 + j) (by omega), e 0 (by decide)]
    exact hs j j0 j1
  · rw [e 3 (by decide)] at j1
    rw [e (105 + j) (by omega), e (113 + j) (by omega), e 0 (by decide)]
    exact hb j j0 j1
  · rw [e 4 (by decide)] at j1
    rw [e _ (by omega)]
    exact ht j j0 j1
  · have h5 := hg.2.2.2.2.2.1
    rw [SL_eq (f := f) (by omega) (e 5 (by decide)) (fun j hj => e j (by omega))]
    exact hw
theorem SOK_go {f : Int → Int} {p n fo d : Int} (h : SOK f) : SOK (qGo f p n fo d).2 := by
  have h0 := h.1.1
  have h6 := h.1.2.2.2.2.2.2.1
  unfold qGo
  split
  · exact h
  · split
    · exact h
    · split
      · exact h
      · rename_i c1 c2 c3
        dsimp only
        have hp : 0 ≤ p ∧ p < 6 := by omega
        have hpf := (h.2.1 p hp.1 hp.2).2.2.2.2.2.2.2.1
        have hpy := kPay_b h.1
        have hcb : 0 ≤ fCat f p n fo d (kOp f p n 0) ∧ fCat f p n fo d (kOp f p n 0) ≤ n := kCat_b (by omega)
        have hml : 0 ≤ kPay f * (n - fCat f p n fo d (kOp f p n 0)) := Int.mul_nonneg hpy.1 (by omega)
        have h1 : SOK (aup f (43 + p) (if f (43 + p) - kPay f * (n - fCat f p n fo d (kOp f p n 0)) < 0 then 0 else f (43 + p) - kPay f * (n - fCat f p n fo d (kOp f p n 0)))) := SOK_up h (Or.inr (Or.inr (Or.inr (Or.inl (by split <;> omega)))))
        have h16 : aup f (43 + p) (if f (43 + p) - kPay f * (n - fCat f p n fo d (kOp f p n 0)) < 0 then 0 else f (43 + p) - kPay f * (n - fCat f p n fo d (kOp f p n 0))) 6 = f 6 := aup_n _ _ (by omega)
        generalize aup f (43 + p) (if f (43 + p) - kPay f * (n - fCat f p n fo d (kOp f p n 0)) < 0 then 0 else f (43 + p) - kPay f * (n - fCat f p n fo d (kOp f p n 0))) = f1 at h1 h16 ⊢
        have h2 : SOK (if fCat f p n fo d (kOp f p n 0) = n then kLrn f1 p n else f1) ∧ (if fCat f p n fo d (kOp f p n 0) = n then kLrn f1 p n else f1) 6 = f1 6 := by
          split
          · exact ⟨SOK_lrn h1 hp (by omega), kLrn_o (by omega) (by omega)⟩
          · exact ⟨h1, rfl⟩
        exact SOK_6 h2.1 (by rw [h2.2, h16]; omega)
theorem SOK_feed {f : Int → Int} {s : Int} (h : SOK f) : SOK (qFeed f s).2 := by
  unfold qFeed
  split
  · exact h
  · split
    · exact h
    · rename_i c1 c2
      obtain ⟨hg, hp, hh, hs, hb, ht, hw⟩ := h
      have h4 := hg.2.2.2.2.1
      have hg0 := hg.1
      have hg2 := hg.2.2.1
      have hg3 := hg.2.2.2.1
      have e : ∀ j : Int, j ≠ 4 → j ≠ 121 + f 4 → aup (aup f (121 + f 4) s) 4 (f 4 + 1) j = f j := fun j h1 h2 => by rw [aup_n _ _ h1, aup_n _ _ h2]
      have h5 := hg.2.2.2.2.2.1
      refine ⟨?_, fun p p0 p1 => PF_eq (hp p p0 p1) (fun j j0 j1 => e j (by omega) (by omega)), fun p p0 p1 => ?_, fun j j0 j1 => ?_, fun j j0 j1 => ?_, fun j j0 j1 => ?_, ?_⟩
      · unfold GF
        dsimp only
        rw [e 0 (by decide) (by omega), e 1 (by decide) (by omega), e 2 (by decide) (by omega), e 3 (by decide) (by omega), e 5 (by decide) (by omega), e 6 (by decide) (by omega), aup_s]
        exact ⟨hg.1, hg.2.1, hg.2.2.1, hg.2.2.2.1, by omega, hg.2.2.2.2.2.1, hg.2.2.2.2.2.2.1, GF_hi hg (fun j hj => e j (by omega) (by omega))⟩
      · dsimp only at p1 ⊢
        rw [e 0 (by decide) (by omega)] at p1
        rw [e _ (by omega) (by omega)]
        exact hh p p0 p1
      · dsimp only at j1 ⊢
        rw [e 2 (by decide) (by omega)] at j1
        rw [e (73 + j) (by omega) (by omega), e (81 + j) (by omega) (by omega), e (89 + j) (by omega) (by omega), e (97 + j) (by omega) (by omega), e 0 (by decide) (by omega)]
        exact hs j j0 j1
      · dsimp only at j1 ⊢
        rw [e 3 (by decide) (by omega)] at j1
        rw [e (105 + j) (by omega) (by omega), e (113 + j) (by omega) (by omega), e 0 (by decide) (by omega)]
        exact hb j j0 j1
      · dsimp only at j1 ⊢
        rw [aup_s] at j1
        by_cases z : j = f 4
        · subst z
          rw [aup_n _ _ (by omega), aup_s]
          omega
        · rw [e _ (by omega) (by omega)]
          exact ht j j0 (by omega)
      · rw [SL_eq (f := f) (by omega) (e 5 (by decide) (by omega)) (fun j hj => e j (by omega) (by omega))]
        exact hw
/-- writes among what was seen and the book -/
theorem SOK_mid {f F : Int → Int} (h : SOK f) (he : ∀ j : Int, j ≠ 2 → j ≠ 3 → (j < 73 ∨ 121 ≤ j) → F j = f j) (h2 : 0 ≤ F 2 ∧ F 2 ≤ 8) (h3 : 0 ≤ F 3 ∧ F 3 ≤ 8)
    (hs : ∀ i : Int, 0 ≤ i → i < F 2 → (0 ≤ F (73 + i) ∧ F (73 + i) < f 0) ∧ (1 ≤ F (81 + i) ∧ F (81 + i) ≤ 99) ∧ (0 ≤ F (89 + i) ∧ F (89 + i) ≤ 20) ∧ (0 ≤ F (97 + i) ∧ F (97 + i) ≤ 99)) (hb : ∀ i : Int, 0 ≤ i → i < F 3 → (0 ≤ F (105 + i) ∧ F (105 + i) < f 0) ∧ (0 ≤ F (113 + i) ∧ F (113 + i) ≤ 99)) : SOK F := by
  obtain ⟨hg, hp, hh, -, -, ht, hw⟩ := h
  have h5 := hg.2.2.2.2.2.1
  have hg0 := hg.1
  have e0 : F 0 = f 0 := he 0 (by decide) (by decide) (by decide)
  refine ⟨?_, fun p p0 p1 => PF_eq (hp p p0 p1) (fun j j0 j1 => he j (by omega) (by omega) (by omega)), fun p p0 p1 => ?_, fun j j0 j1 => ?_, fun j j0 j1 => ?_, fun j j0 j1 => ?_, ?_⟩
  · unfold GF
    rw [e0, he 1 (by decide) (by decide) (by decide), he 4 (by decide) (by decide) (by decide), he 5 (by decide) (by decide) (by decide), he 6 (by decide) (by decide) (by decide)]
    exact ⟨hg.1, hg.2.1, h2, h3, hg.2.2.2.2.1, hg.2.2.2.2.2.1, hg.2.2.2.2.2.2.1, GF_hi hg (fun j hj => he j (by omega) (by omega) (by omega))⟩
  · rw [e0] at p1
    rw [he _ (by omega) (by omega) (by omega)]
    exact hh p p0 p1
  · rw [e0]
    exact hs j j0 j1
  · rw [e0]
    exact hb j j0 j1
  · rw [he 4 (by decide) (by decide) (by decide)] at j1
    rw [he _ (by omega) (by omega) (by omega)]
    exact ht j j0 j1
  · rw [SL_eq (f := f) (by omega) (he 5 (by decide) (by decide) (by decide)) (fun j hj => he j (by omega) (by omega) (by omega))]
    exact hw
theorem SOK_see {f : Int → Int} {p n fo c : Int} (h : SOK f) : SOK (qSee f p n fo c).2 := by
  have hg2 := h.1.2.2.1
  have hg3 := h.1.2.2.2.1
  have hg0 := h.1.1
  have hs := h.2.2.2.1
  have hb := h.2.2.2.2.1
  unfold qSee
  split
  · dsimp only
    have e : ∀ j : Int, j ≠ 2 → aup f 2 0 j = f j := fun j hj => aup_n _ _ hj
    refine SOK_mid h (fun j h1 h2 h3 => e j h1) (by rw [aup_s]; omega) (by rw [e 3 (by decide)]; exact hg3) (fun i i0 i1 => ?_) (fun i i0 i1 => ?_)
    · rw [aup_s] at i1
      omega
    · rw [e 3 (by decide)] at i1
      rw [e (105 + i) (by omega), e (113 + i) (by omega)]
      exact hb i i0 i1
  · split
    · exact h
    · split
      · exact h
      · split
        · exact h
        · rename_i c1 c2 c3 c4
          dsimp only
          have e : ∀ j : Int, j ≠ 2 → j ≠ 73 + f 2 → j ≠ 81 + f 2 → j ≠ 89 + f 2 → j ≠ 97 + f 2 → aup (aup (aup (aup (aup f (73 + f 2) p) (81 + f 2) n) (89 + f 2) fo) (97 + f 2) c) 2 (f 2 + 1) j = f j := fun j h1 h2 h3 h4 h5 => by rw [aup_n _ _ h1, aup_n _ _ h5, aup_n _ _ h4, aup_n _ _ h3, aup_n _ _ h2]
          refine SOK_mid h (fun j h1 h2 h3 => e j h1 (by omega) (by omega) (by omega) (by omega)) (by rw [aup_s]; omega) (by rw [e 3 (by decide) (by omega) (by omega) (by omega) (by omega)]; exact hg3) (fun i i0 i1 => ?_) (fun i i0 i1 => ?_)
          · rw [aup_s] at i1
            by_cases z : i = f 2
            · subst z
              have e1 : aup (aup (aup (aup (aup f (73 + f 2) p) (81 + f 2) n) (89 + f 2) fo) (97 + f 2) c) 2 (f 2 + 1) (73 + f 2) = p := by rw [aup_n _ _ (by omega), aup_n _ _ (by omega), aup_n _ _ (by omega), aup_n _ _ (by omega), aup_s]
              have e2 : aup (aup (aup (aup (aup f (73 + f 2) p) (81 + f 2) n) (89 + f 2) fo) (97 + f 2) c) 2 (f 2 + 1) (81 + f 2) = n := by rw [aup_n _ _ (by omega), aup_n _ _ (by omega), aup_n _ _ (by omega), aup_s]
              have e3 : aup (aup (aup (aup (aup f (73 + f 2) p) (81 + f 2) n) (89 + f 2) fo) (97 + f 2) c) 2 (f 2 + 1) (89 + f 2) = fo := by rw [aup_n _ _ (by omega), aup_n _ _ (by omega), aup_s]
              have e4 : aup (aup (aup (aup (aup f (73 + f 2) p) (81 + f 2) n) (89 + f 2) fo) (97 + f 2) c) 2 (f 2 + 1) (97 + f 2) = c := by rw [aup_n _ _ (by omega), aup_s]
              rw [e1, e2, e3, e4]
              omega
            · rw [e (73 + i) (by omega) (by omega) (by omega) (by omega) (by omega), e (81 + i) (by omega) (by omega) (by omega) (by omega) (by omega), e (89 + i) (by omega) (by omega) (by omega) (by omega) (by omega), e (97 + i) (by omega) (by omega) (by omega) (by omega) (by omega)]
              exact hs i i0 (by omega)
          · rw [e 3 (by decide) (by omega) (by omega) (by omega) (by omega)] at i1
            rw [e (105 + i) (by omega) (by omega) (by omega) (by omega) (by omega), e (113 + i) (by omega) (by omega) (by omega) (by omega) (by omega)]
            exact hb i i0 i1
theorem SOK_book {f : Int → Int} {p m : Int} (h : SOK f) : SOK (qBook f p m).2 := by
  have hg2 := h.1.2.2.1
  have hg3 := h.1.2.2.2.1
  have hg0 := h.1.1
  have hs := h.2.2.2.1
  have hb := h.2.2.2.2.1
  unfold qBook
  split
  · dsimp only
    have e : ∀ j : Int, j ≠ 3 → aup f 3 0 j = f j := fun j hj => aup_n _ _ hj
    refine SOK_mid h (fun j h1 h2 h3 => e j h2) (by rw [e 2 (by decide)]; exact hg2) (by rw [aup_s]; omega) (fun i i0 i1 => ?_) (fun i i0 i1 => ?_)
    · rw [e 2 (by decide)] at i1
      rw [e (73 + i) (by omega), e (81 + i) (by omega), e (89 + i) (by omega), e (97 + i) (by omega)]
      exact hs i i0 i1
    · rw [aup_s] at i1
      omega
  · split
    · exact h
    · split
      · exact h
      · split
        · exact h
        · rename_i c1 c2 c3 c4
          dsimp only
          have e : ∀ j : Int, j ≠ 3 → j ≠ 105 + f 3 → j ≠ 113 + f 3 → aup (aup (aup f (105 + f 3) p) (113 + f 3) m) 3 (f 3 + 1) j = f j := fun j h1 h2 h3 => by rw [aup_n _ _ h1, aup_n _ _ h3, aup_n _ _ h2]
          refine SOK_mid h (fun j h1 h2 h3 => e j h2 (by omega) (by omega)) (by rw [e 2 (by decide) (by omega) (by omega)]; exact hg2) (by rw [aup_s]; omega) (fun i i0 i1 => ?_) (fun i i0 i1 => ?_)
          · rw [e 2 (by decide) (by omega) (by omega)] at i1
            rw [e (73 + i) (by omega) (by omega) (by omega), e (81 + i) (by omega) (by omega) (by omega), e (89 + i) (by omega) (by omega) (by omega), e (97 + i) (by omega) (by omega) (by omega)]
            exact hs i i0 i1
          · rw [aup_s] at i1
            by_cases z : i = f 3
            · subst z
              have e1 : aup (aup (aup f (105 + f 3) p) (113 + f 3) m) 3 (f 3 + 1) (105 + f 3) = p := by rw [aup_n _ _ (by omega), aup_n _ _ (by omega), aup_s]
              have e2 : aup (aup (aup f (105 + f 3) p) (113 + f 3) m) 3 (f 3 + 1) (113 + f 3) = m := by rw [aup_n _ _ (by omega), aup_s]
              rw [e1, e2]
              omega
            · rw [e (105 + i) (by omega) (by omega) (by omega), e (113 + i) (by omega) (by omega) (by omega)]
              exact hb i i0 (by omega)
theorem SOK_player {f : Int → Int} {k v s hh u : Int} (h : SOK f) : SOK (qPlayer f k v s hh u).2 := by
  by_cases c : (0 ≤ k ∧ k ≤ 6) ∧ ((0 ≤ v ∧ v ≤ 9) ∧ (0 ≤ s ∧ s ≤ 20) ∧ (1 ≤ hh ∧ hh ≤ 9) ∧ (0 ≤ u ∧ u ≤ 9999)) ∧ f 0 ≠ 6
  · obtain ⟨c1, c2, c3⟩ := c
    obtain ⟨hg, hp, hhn, hs, hb, ht, hw⟩ := h
    have hg0 := hg.1
    have hg2 := hg.2.2.1
    have hg3 := hg.2.2.2.1
    have hg4 := hg.2.2.2.2.1
    have h5 := hg.2.2.2.2.2.1
    obtain ⟨w1, w0, wk, wv, wsk, wh, wg, wsc, wp, wt, wo⟩ := qPlayer_v (f := f) (k := k) (v := v) (s := s) (h := hh) (u := u) c1 c2 (by omega)
    generalize (qPlayer f k v s hh u).2 = F at w0 wk wv wsk wh wg wsc wp wt wo
    have e : ∀ j : Int, j ≠ 0 → (j < 7 ∨ 73 ≤ j) → F j = f j := fun j j0 j1 => wo j j0 (by omega) (by omega) (by omega) (by omega) (by omega) (by omega) (by omega) (by omega)
    have ep : ∀ p : Int, 0 ≤ p → p < 6 → p ≠ f 0 → PF F p := by
      intro p p0 p1 pn
      obtain ⟨hpp, h1, h2, h3, h4, h5, h6, h7, h8⟩ := hp p p0 p1
      have ee : ∀ o : Int, o = 7 ∨ o = 13 ∨ o = 19 ∨ o = 25 ∨ o = 31 ∨ o = 37 ∨ o = 43 → F (o + p) = f (o + p) := fun o ho => wo _ (by omega) (by omega) (by omega) (by omega) (by omega) (by omega) (by omega) (by omega) (by omega)
      unfold PF
      rw [ee 7 (by omega), ee 13 (by omega), ee 19 (by omega), ee 25 (by omega), ee 31 (by omega), ee 37 (by omega), ee 43 (by omega)]
      exact ⟨hpp, h1, h2, h3, h4, h5, h6, h7, fun t t0 t1 => by rw [wo _ (by omega) (by omega) (by omega) (by omega) (by omega) (by omega) (by omega) (by omega) (by omega)]; exact h8 t t0 t1⟩
    have e0 : PF F (f 0) := by
      unfold PF
      rw [wk, wv, wsk, wh, wg, wsc, wp]
      exact ⟨by omega, c1, c2.1, c2.2.1, by omega, by omega, by omega, c2.2.2.2, fun t t0 t1 => by rw [wt t t0 t1]; omega⟩
    refine ⟨?_, fun p p0 p1 => ?_, fun p p0 p1 => ?_, fun j j0 j1 => ?_, fun j j0 j1 => ?_, fun j j0 j1 => ?_, ?_⟩
    · unfold GF
      rw [w0, e 1 (by decide) (by decide), e 2 (by decide) (by decide), e 3 (by decide) (by decide), e 4 (by decide) (by decide), e 5 (by decide) (by decide), e 6 (by decide) (by decide)]
      exact ⟨by omega, hg.2.1, hg.2.2.1, hg.2.2.2.1, hg.2.2.2.2.1, hg.2.2.2.2.2.1, hg.2.2.2.2.2.2.1, GF_hi hg (fun j hj => e j (by omega) (by omega))⟩
    · by_cases z : p = f 0
      · subst z; exact e0
      · exact ep p p0 p1 z
    · rw [w0] at p1
      by_cases z : p = f 0
      · subst z
        rw [wh]
        omega
      · rw [wo _ (by omega) (by omega) (by omega) (by omega) (by omega) (by omega) (by omega) (by omega) (by omega)]
        exact hhn p p0 (by omega)
    · rw [e 2 (by decide) (by decide)] at j1
      rw [e (73 + j) (by omega) (by omega), e (81 + j) (by omega) (by omega), e (89 + j) (by omega) (by omega), e (97 + j) (by omega) (by omega), w0]
      have := hs j j0 j1
      omega
    · rw [e 3 (by decide) (by decide)] at j1
      rw [e (105 + j) (by omega) (by omega), e (113 + j) (by omega) (by omega), w0]
      have := hb j j0 j1
      omega
    · rw [e 4 (by decide) (by decide)] at j1
      rw [e _ (by omega) (by omega)]
      exact ht j j0 j1
    · rw [SL_eq (f := f) (by omega) (e 5 (by decide) (by decide)) (fun j hj => e j (by omega) (by omega))]
      exact hw
  · rw [(qPlayer_n c).1]
    exact h
