/-! ===== SOK is kept where an inn is read ===== -/
theorem clN_pn {t : Int → Int} {e : Int} : ∀ (m : Nat) (c : CS), PB e c.1 → PN e c.1 (clN t e m c).1
  | 0, _, h => PN_rf h
  | m + 1, c, h => by
    unfold clN
    split
    · rename_i q
      have hl := hr_lt q.2 (by decide)
      have a1 := adv_k h hl
      have a2 := cls_k (t := t) (e := e) (adv c.1, c.2) a1.1
      exact PN_tr (adv_n h hl) (PN_tr a2 (clN_pn m _ a2.1))
    · exact PN_rf h
theorem cls_99 {t : Int → Int} {e : Int} {c : CS} (h : (0 ≤ c.2.1 ∧ c.2.1 ≤ 99) ∧ (0 ≤ c.2.2 ∧ c.2.2 ≤ 99)) : (0 ≤ (cls t e c).2.1 ∧ (cls t e c).2.1 ≤ 99) ∧ (0 ≤ (cls t e c).2.2 ∧ (cls t e c).2.2 ≤ 99) := by
  have h9 : 0 ≤ (thS t e 9 c.1).1 ∧ (thS t e 9 c.1).1 ≤ 99 := fig_b
  have h10 : 0 ≤ (thS t e 10 c.1).1 ∧ (thS t e 10 c.1).1 ≤ 99 := fig_b
  unfold cls
  split
  · refine ⟨?_, h.2⟩
    show 0 ≤ (if (thS t e 9 c.1).2.2.1 = 0 then (thS t e 9 c.1).1 else c.2.1) ∧ (if (thS t e 9 c.1).2.2.1 = 0 then (thS t e 9 c.1).1 else c.2.1) ≤ 99
    split
    · exact h9
    · exact h.1
  · split
    · refine ⟨h.1, ?_⟩
      show 0 ≤ (if (thS t e 10 c.1).2.2.1 = 0 then (thS t e 10 c.1).1 else c.2.2) ∧ (if (thS t e 10 c.1).2.2.1 = 0 then (thS t e 10 c.1).1 else c.2.2) ≤ 99
      split
      · exact h10
      · exact h.2
    · split
      · exact h
      · split <;> exact h
theorem clN_99 {t : Int → Int} {e : Int} : ∀ (m : Nat) (c : CS), (0 ≤ c.2.1 ∧ c.2.1 ≤ 99) ∧ (0 ≤ c.2.2 ∧ c.2.2 ≤ 99) → (0 ≤ (clN t e m c).2.1 ∧ (clN t e m c).2.1 ≤ 99) ∧ (0 ≤ (clN t e m c).2.2 ∧ (clN t e m c).2.2 ≤ 99)
  | 0, _, h => h
  | m + 1, c, h => by
    unfold clN
    split
    · exact clN_99 m _ (cls_99 (c := (adv c.1, c.2)) h)
    · exact h
theorem clF_99 {f : Int → Int} : (0 ≤ (clF f).2.1 ∧ (clF f).2.1 ≤ 99) ∧ (0 ≤ (clF f).2.2 ∧ (clF f).2.2 ≤ 99) := clN_99 9 _ (cls_99 (c := ((0, 0, []), 6, 1)) (by decide))
theorem clF_len {f : Int → Int} (h : 0 ≤ f 4) : ((clF f).1.2.2.length : Int) ≤ f 4 := by
  have hb : PB (f 4) ((0, 0, []) : PS) := ⟨Int.le_refl _, h, Or.inl rfl⟩
  have a2 := cls_k (t := tp f) (e := f 4) ((0, 0, []), 6, 1) hb
  have a3 := PN_tr a2 (clN_pn (t := tp f) (e := f 4) 9 _ a2.1)
  have q := a3.2.2
  have q2 := a3.1.2.1
  have e : clN (tp f) (f 4) 9 (cls (tp f) (f 4) ((0, 0, []), 6, 1)) = clF f := rfl
  rw [e] at q q2
  have q3 : (0 : Int) - 0 ≤ (clF f).1.1 - ((clF f).1.2.2.length : Int) := q
  omega
theorem innF_hi {f : Int → Int} (ha : 0 ≤ f 1 ∧ f 1 ≤ 4) {b : Int} (b0 : 0 ≤ b) (b1 : b < 5) : innF f (221 + b) = (if b = f 1 then (clF f).2.1 else f (221 + b)) ∧ innF f (226 + b) = (if b = f 1 then (clF f).2.2 else f (226 + b)) ∧ innF f (231 + b) = (if b = f 1 then ((clF f).1.2.2.length : Int) else f (231 + b)) := by
  unfold innF
  rw [wrS_lo ha.1 (by omega), wrS_lo ha.1 (by omega)]
  by_cases z : b = f 1
  · rw [z, if_pos rfl, if_pos rfl, if_pos rfl, wrS_len]
    exact ⟨by rw [aup_n _ _ (by omega), aup_s], aup_s _ _ _, rfl⟩
  · rw [if_neg z, if_neg z, if_neg z]
    refine ⟨by rw [aup_n _ _ (by omega), aup_n _ _ (by omega), aup_n _ _ (by omega)], by rw [aup_n _ _ (by omega), aup_n _ _ (by omega), aup_n _ _ (by omega)], ?_⟩
    unfold wrS
    rw [if_neg (by omega), if_neg (by omega), aup_n _ _ (by omega), aup_n _ _ (by omega), aup_n _ _ (by omega)]
theorem innF_st {f : Int → Int} (ha : 0 ≤ f 1 ∧ f 1 ≤ 4) {j : Int} (h0 : 236 ≤ j) (h1 : j < 236 + 140 * f 1 ∨ 236 + 140 * f 1 + ((clF f).1.2.2.length : Int) ≤ j) : innF f j = f j := by
  unfold innF wrS
  rw [if_neg (by omega), if_neg (by omega), aup_n _ _ (by omega), aup_n _ _ (by omega), aup_n _ _ (by omega)]
theorem innF_in {f : Int → Int} (ha : 0 ≤ f 1 ∧ f 1 ≤ 4) {i : Nat} (h : i < (clF f).1.2.2.length) : innF f (236 + 140 * f 1 + (i : Int)) = (clF f).1.2.2.getD i 0 := by
  unfold innF wrS
  rw [if_neg (by omega), if_pos (by omega), show (236 + 140 * f 1 + (i : Int) - (236 + 140 * f 1)).toNat = i by omega]
/-- the steps of the inn a -/
def SLi (f : Int → Int) (a : Int) : List Int := (List.range (f (231 + a)).toNat).map (fun i : Nat => f (236 + 140 * a + (i : Int)))
theorem SLi_eq {f F : Int → Int} {a : Int} (h0 : F (231 + a) = f (231 + a)) (he : ∀ i : Nat, (i : Int) < f (231 + a) → F (236 + 140 * a + (i : Int)) = f (236 + 140 * a + (i : Int))) : SLi F a = SLi f a := by
  unfold SLi
  rw [h0]
  exact List.map_congr_left fun i hi => he i (by have := List.mem_range.mp hi; omega)
theorem SLi_SL {f : Int → Int} (h : f 5 ≠ -1) : SL f = SLi f (f 5) := by
  unfold SL SLi kMany
  rw [if_neg h]
theorem SL_0 {f : Int → Int} (h : f 5 = -1) : SL f = [] := by
  unfold SL kMany
  rw [if_pos h]
  rfl
theorem map_getD {l : List Int} : (List.range l.length).map (fun i : Nat => l.getD i 0) = l := by
  refine List.ext_getElem? fun i => ?_
  by_cases h : i < l.length
  · rw [List.getElem?_map, List.getElem?_range h, List.getElem?_eq_getElem h]
    show some (l.getD i 0) = _
    rw [List.getD_eq_getElem?_getD, List.getElem?_eq_getElem h]
    rfl
  · rw [List.getElem?_eq_none (by simp; omega), List.getElem?_eq_none (by omega)]
theorem innF_SL {f : Int → Int} (ha : 0 ≤ f 1 ∧ f 1 ≤ 4) : SLi (innF f) (f 1) = (clF f).1.2.2 := by
  have e := (innF_hi ha ha.1 (by omega)).2.2
  rw [if_pos rfl] at e
  unfold SLi
  rw [e]
  rw [show ((clF f).1.2.2.length : Int).toNat = (clF f).1.2.2.length from Int.toNat_natCast _]
  rw [show (List.range (clF f).1.2.2.length).map (fun i : Nat => innF f (236 + 140 * f 1 + (i : Int))) = (List.range (clF f).1.2.2.length).map (fun i : Nat => (clF f).1.2.2.getD i 0) from List.map_congr_left fun i hi => innF_in ha (List.mem_range.mp hi)]
  exact map_getD
theorem SOK_in0 {f F : Int → Int} (h : SOK f) (he : ∀ j : Int, j < 221 → j ≠ 1 → j ≠ 4 → j ≠ 5 → F j = f j) (h4 : F 4 = 0) (h15 : (0 ≤ F 1 ∧ F 1 ≤ 5) ∧ (-1 ≤ F 5 ∧ F 5 < 5 ∧ F 5 = F 1 - 1)) (hr : ∀ a : Int, 0 ≤ a → a < 5 → (0 ≤ F (221 + a) ∧ F (221 + a) ≤ 99) ∧ (0 ≤ F (226 + a) ∧ F (226 + a) ≤ 99) ∧ (0 ≤ F (231 + a) ∧ F (231 + a) ≤ 140)) (hw : wfS 0 (SL F)) : SOK F := by
  obtain ⟨hg, hp, hh, hs, hb, -, -⟩ := h
  have hg0 := hg.1
  have hg2 := hg.2.2.1
  have hg3 := hg.2.2.2.1
  have e0 : F 0 = f 0 := he 0 (by decide) (by decide) (by decide) (by decide)
  have e2 : F 2 = f 2 := he 2 (by decide) (by decide) (by decide) (by decide)
  have e3 : F 3 = f 3 := he 3 (by decide) (by decide) (by decide) (by decide)
  refine ⟨?_, fun p p0 p1 => PF_eq (hp p p0 p1) (fun j j0 j1 => he j (by omega) (by omega) (by omega) (by omega)), fun p p0 p1 => ?_, fun j j0 j1 => ?_, fun j j0 j1 => ?_, fun j j0 j1 => ?_, hw⟩
  · unfold GF
    rw [e0, e2, e3, h4, he 6 (by decide) (by decide) (by decide) (by decide)]
    exact ⟨hg.1, h15.1, hg.2.2.1, hg.2.2.2.1, by decide, h15.2, hg.2.2.2.2.2.2.1, hr⟩
  · rw [e0] at p1
    rw [he _ (by omega) (by omega) (by omega) (by omega)]
    exact hh p p0 p1
  · rw [e2] at j1
    rw [he (73 + j) (by omega) (by omega) (by omega) (by omega), he (81 + j) (by omega) (by omega) (by omega) (by omega), he (89 + j) (by omega) (by omega) (by omega) (by omega), he (97 + j) (by omega) (by omega) (by omega) (by omega), e0]
    exact hs j j0 j1
  · rw [e3] at j1
    rw [he (105 + j) (by omega) (by omega) (by omega) (by omega), he (113 + j) (by omega) (by omega) (by omega) (by omega), e0]
    exact hb j j0 j1
  · rw [h4] at j1
    omega
theorem SOK_inn {f : Int → Int} (h : SOK f) : SOK (qInn f).2 := by
  have hg := h.1
  have hg1 := hg.2.1
  have hg4 := hg.2.2.2.2.1
  have hg5 := hg.2.2.2.2.2.1
  have hrw := hg.2.2.2.2.2.2.2
  by_cases c1 : f 1 = 5
  · rw [qInn_0 c1]
    exact h
  · have ha : 0 ≤ f 1 ∧ f 1 ≤ 4 := by omega
    have h99 := clF_99 (f := f)
    have hln := clF_len (f := f) hg4.1
    have hrows : ∀ a : Int, 0 ≤ a → a < 5 → (0 ≤ innF f (221 + a) ∧ innF f (221 + a) ≤ 99) ∧ (0 ≤ innF f (226 + a) ∧ innF f (226 + a) ≤ 99) ∧ (0 ≤ innF f (231 + a) ∧ innF f (231 + a) ≤ 140) := by
      intro a a0 a1
      obtain ⟨e1, e2, e3⟩ := innF_hi ha a0 a1
      have := hrw a a0 a1
      rw [e1, e2, e3]
      by_cases z : a = f 1
      · rw [if_pos z, if_pos z, if_pos z]; omega
      · rw [if_neg z, if_neg z, if_neg z]; exact this
    by_cases c2 : inP f
    · rw [qInn_p c1 c2]
      dsimp only
      have e : ∀ j : Int, j ≠ 1 → j ≠ 5 → aup (aup (innF f) 1 (f 1 + 1)) 5 (f 1) j = innF f j := fun j h1 h5 => by rw [aup_n _ _ h5, aup_n _ _ h1]
      have e5 : aup (aup (innF f) 1 (f 1 + 1)) 5 (f 1) 5 = f 1 := aup_s _ _ _
      have e1 : aup (aup (innF f) 1 (f 1 + 1)) 5 (f 1) 1 = f 1 + 1 := by rw [aup_n _ _ (by decide), aup_s]
      refine SOK_in0 h (fun j j0 j1 j4 j5 => by rw [e j j1 j5]; exact innF_lo hg1.1 j0 j4) (by rw [e 4 (by decide) (by decide)]; exact innF_4 hg1.1) (by rw [e5, e1]; omega) (fun a a0 a1 => ?_) ?_
      · rw [e _ (by omega) (by omega), e _ (by omega) (by omega), e _ (by omega) (by omega)]
        exact hrows a a0 a1
      · rw [SLi_SL (by rw [e5]; omega), e5, SLi_eq (f := innF f) (e _ (by omega) (by omega)) (fun i hi => e _ (by omega) (by omega)), innF_SL ha]
        exact wfD_S _ _ (clF_w hg4.1 c2.1)
    · rw [qInn_m c1 c2]
      dsimp only
      have e1 : innF f 1 = f 1 := innF_lo hg1.1 (by decide) (by decide)
      have e5 : innF f 5 = f 5 := innF_lo hg1.1 (by decide) (by decide)
      refine SOK_in0 h (fun j j0 j1 j4 j5 => innF_lo hg1.1 j0 j4) (innF_4 hg1.1) (by rw [e5, e1]; omega) hrows ?_
      by_cases c3 : f 5 = -1
      · rw [SL_0 (by rw [e5]; exact c3)]
        trivial
      · have hr5 := hrw (f 5) (by omega) (by omega)
        have e3 := (innF_hi ha (b := f 5) (by omega) (by omega)).2.2
        rw [if_neg (by omega)] at e3
        rw [SLi_SL (by rw [e5]; exact c3), e5, SLi_eq (f := f) e3 (fun i hi => innF_st ha (by omega) (Or.inl (by omega))), ← SLi_SL c3]
        exact h.2.2.2.2.2.2
