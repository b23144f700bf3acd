/-! ===== what the parser makes is well made ===== -/
def PW (D : Nat) (s s' : PS) : Prop := s'.2.1 = 0 → ∃ l' : List Int, s'.2.2 = s.2.2 ++ l' ∧ ∀ (k : Nat) (r : List Int), k + D ≤ 24 → wfD (k + 1) r → wfD k (l' ++ r)
/-- from one truth more to one truth more -/
def PL1 (D : Nat) (s s' : PS) : Prop := s'.2.1 = 0 → ∃ l' : List Int, s'.2.2 = s.2.2 ++ l' ∧ ∀ (k : Nat) (r : List Int), k + D ≤ 24 → wfD (k + 1) r → wfD (k + 1) (l' ++ r)
def PWF (t : Int → Int) (e : Int) (D : Nat) (F : PS → PS) : Prop := (∀ s, PB e s → PW D s (F s)) ∧ (∀ s, s.2.1 ≠ 0 → F s = s)
theorem emi_0 {z : Int} {s : PS} (h : (emi z s).2.1 = 0) : s.2.1 = 0 ∧ (emi z s).2.2 = s.2.2 ++ [z] := by
  unfold emi at h ⊢
  split
  · rename_i q
    exact ⟨q, rfl⟩
  · rename_i q
    rw [if_neg q] at h
    exact absurd h q
theorem mst_0 {t : Int → Int} {e c : Int} {s : PS} (h : (mstP t e c s).2.1 = 0) : s.2.1 = 0 ∧ (mstP t e c s).2.2 = s.2.2 := by
  unfold mstP at h ⊢
  split
  · rename_i q
    exact ⟨q.1, rfl⟩
  · rename_i q
    rw [if_neg q] at h
    exact absurd h (by show ¬ (1 : Int) = 0; decide)
theorem tsp_w {t : Int → Int} {e : Int} {s : PS} (hb : PB e s) : PW 1 s (tsp t e s) := by
  intro h
  unfold tsp at h ⊢
  obtain ⟨h1, h2⟩ := emi_0 h
  have k1 := orB_k (am_k (t := t) (i := 7) (by decide) s hb)
  have k2 := orB_k (r := tsB t e (orB (am t e 7 s))) (tsB_k (t := t) _ k1.1)
  have h3 := fig_s k2.1 h1
  have hw2 := h3.2.2.2.2
  have ho : ∀ q : Int × PS, (orB q).2.1 = 0 → q.1 ≠ -1 ∧ orB q = q.2 := fun q z => by
    unfold orB at z ⊢
    by_cases y : q.1 = -1
    · rw [if_pos y] at z
      exact absurd z (by show ¬ (1 : Int) = 0; decide)
    · rw [if_neg y]
      exact ⟨y, rfl⟩
  obtain ⟨a1, a2⟩ := ho _ hw2
  have hw1 : (orB (am t e 7 s)).2.1 = 0 := by
    rw [a2] at hw2
    unfold tsB at hw2
    split at hw2
    · assumption
    · exact hw2
  obtain ⟨b1, b2⟩ := ho _ hw1
  have am8 : tsB t e (orB (am t e 7 s)) = am t e 8 (orB (am t e 7 s)) := if_pos hw1
  have hb7 := am_b (t := t) (e := e) (i := 7) (s := s) (by decide)
  have hb8 := am_b (t := t) (e := e) (i := 8) (s := orB (am t e 7 s)) (by decide)
  have l7 : lenS 7 = 6 := by decide
  have l8 : lenS 8 = 3 := by decide
  rw [am8] at a1
  refine ⟨[(am t e 7 s).1 + 8 * (tsB t e (orB (am t e 7 s))).1 + 32 * (fig t e (orB (tsB t e (orB (am t e 7 s))))).1], ?_, fun k r hk hr => ?_⟩
  · rw [h2, h3.2.1]
    have e2 : (orB (tsB t e (orB (am t e 7 s)))).2.2 = s.2.2 := by
      rw [a2, am8, (hb8.2.2.1 a1).2, b2, (hb7.2.2.1 b1).2]
      rfl
    rw [e2]
  · show wfD k (_ :: r)
    rw [am8]
    rw [am8] at h3
    generalize (am t e 8 (orB (am t e 7 s))).1 = B at *
    generalize (am t e 7 s).1 = A at *
    generalize (fig t e (orB (am t e 8 (orB (am t e 7 s))))).1 = C at *
    have q1 := h3.2.2.1
    have q2 := h3.2.2.2.1
    have hA : 0 ≤ A ∧ A ≤ 5 := by omega
    have hB : 0 ≤ B ∧ B ≤ 2 := by omega
    unfold wfD
    rw [if_pos (by omega)]
    exact ⟨⟨by omega, by omega, by omega⟩, by omega, hr⟩
theorem lpP_w0 {t : Int → Int} {e c z : Int} {F : PS → PS} : ∀ (n : Nat) (s : PS), s.2.1 ≠ 0 → lpP t e c z F n s = s
  | 0, _, _ => rfl
  | n + 1, s, h => if_neg (fun q => h q.1)
theorem lpP_w {t : Int → Int} {e c z : Int} {F : PS → PS} {D : Nat} (hz : z = -2 ∨ z = -3) (hc : 0 ≤ c) (hF : PWF t e D F) (hk : PF1 e F) : ∀ (n : Nat) (s : PS), PB e s → PL1 (D + 1) s (lpP t e c z F n s)
  | 0, s, _ => fun _ => ⟨[], (List.append_nil _).symm, fun _ _ _ h => h⟩
  | n + 1, s, hb => by
    intro h
    unfold lpP at h ⊢
    by_cases q : s.2.1 = 0 ∧ hr t e s = c
    · rw [if_pos q] at h ⊢
      have a1 := adv_k hb (hr_lt q.2 hc)
      have a2 := hk _ a1.1
      have a3 : PN e s (emi z (F (adv s))) := emi_k (PN_tr (adv_n hb (hr_lt q.2 hc)) a2) (fun _ => by have := a2.2.2; rw [a1.2.1, a1.2.2] at this; exact this)
      by_cases w : (emi z (F (adv s))).2.1 = 0
      · obtain ⟨l2, e2, f2⟩ := lpP_w hz hc hF hk n _ a3.1 h
        obtain ⟨w1, w2⟩ := emi_0 w
        obtain ⟨l1, e1, f1⟩ := hF.1 _ a1.1 w1
        refine ⟨l1 ++ (z :: l2), ?_, fun k r hkD hr => ?_⟩
        · rw [e2, w2, e1, a1.2.2]
          simp
        · rw [List.append_assoc]
          refine f1 (k + 1) _ (by omega) ?_
          show wfD (k + 1 + 1) (z :: (l2 ++ r))
          have h2 := f2 k r hkD hr
          unfold wfD
          rw [if_neg (by omega), if_neg (by omega), if_pos (by omega)]
          exact ⟨hz, by omega, h2⟩
      · rw [lpP_w0 n _ w] at h
        exact absurd h w
    · rw [if_neg q]
      exact ⟨[], (List.append_nil _).symm, fun _ _ _ h => h⟩
theorem PW_PL {D E : Nat} {a b c : PS} (hDE : D ≤ E) (h1 : PW D a b) (h2 : PL1 E b c) (h0 : c.2.1 = 0 → b.2.1 = 0) : PW E a c := by
  intro h
  obtain ⟨l1, e1, f1⟩ := h1 (h0 h)
  obtain ⟨l2, e2, f2⟩ := h2 h
  refine ⟨l1 ++ l2, by rw [e2, e1, List.append_assoc], fun k r hk hr => ?_⟩
  rw [List.append_assoc]
  exact f1 k _ (by omega) (f2 k r hk hr)
theorem evP_w {t : Int → Int} {e : Int} {F : PS → PS} {D : Nat} (hF : PWF t e D F) (hk : PF1 e F) : PWF t e (D + 1) (evP t e F) := by
  refine ⟨fun s hb => PW_PL (Nat.le_succ D) (hF.1 s hb) (lpP_w (Or.inl rfl) (by decide) hF hk 101 _ (hk s hb).1) (fun h => ?_), fun s h => ?_⟩
  · by_cases w : (F s).2.1 = 0
    · exact w
    · unfold evP at h
      rw [lpP_w0 _ _ w] at h
      exact h
  · unfold evP
    rw [hF.2 s h, lpP_w0 _ _ h]
theorem soP_w {t : Int → Int} {e : Int} {F : PS → PS} {D : Nat} (hF : PWF t e D F) (hk : PF1 e F) : PWF t e (D + 2) (soP t e F) := by
  have hE := evP_w hF hk
  refine ⟨fun s hb => PW_PL (Nat.le_succ (D + 1)) (hE.1 s hb) (lpP_w (Or.inr rfl) (by decide) hE (evP_k hk) 101 _ (evP_k hk s hb).1) (fun h => ?_), fun s h => ?_⟩
  · by_cases w : (evP t e F s).2.1 = 0
    · exact w
    · unfold soP at h
      rw [lpP_w0 _ _ w] at h
      exact h
  · unfold soP
    rw [hE.2 s h, lpP_w0 _ _ h]
theorem fac_wf {t : Int → Int} {e : Int} : ∀ d : Nat, PWF t e (2 * d + 1) (fac t e d)
  | 0 => by
    refine ⟨fun s hb => ?_, fun s h => ?_⟩
    · unfold fac
      split
      · split
        · intro h
          exact absurd h (by show ¬ (1 : Int) = 0; decide)
        · exact tsp_w hb
      · rename_i q
        intro h
        exact absurd h q
    · unfold fac
      exact if_neg h
  | d + 1 => by
    have ih := fac_wf (t := t) (e := e) d
    have hk := fac_k (t := t) (e := e) d
    refine ⟨fun s hb => ?_, fun s h => ?_⟩
    · unfold fac
      split
      · split
        · rename_i q
          have a1 := adv_k hb (hr_lt q (by decide))
          intro h
          obtain ⟨w1, w2⟩ := emi_0 h
          obtain ⟨l1, e1, f1⟩ := ih.1 _ a1.1 w1
          refine ⟨l1 ++ [-1], by rw [w2, e1, a1.2.2, List.append_assoc], fun k r hkD hr => ?_⟩
          rw [List.append_assoc]
          refine f1 k _ (by omega) ?_
          show wfD (k + 1) (-1 :: r)
          unfold wfD
          rw [if_neg (by decide), if_pos rfl]
          exact ⟨by omega, hr⟩
        · split
          · rename_i q
            have a1 := adv_k hb (hr_lt q (by decide))
            intro h
            obtain ⟨w1, w2⟩ := mst_0 h
            obtain ⟨l1, e1, f1⟩ := (soP_w ih hk).1 _ a1.1 w1
            exact ⟨l1, by rw [w2, e1, a1.2.2], fun k r hkD hr => f1 k r (by omega) hr⟩
          · intro h
            obtain ⟨l1, e1, f1⟩ := tsp_w hb h
            exact ⟨l1, e1, fun k r hkD hr => f1 k r (by omega) hr⟩
      · rename_i q
        intro h
        exact absurd h q
    · unfold fac
      exact if_neg h
theorem mst_l {t : Int → Int} {e c : Int} {s : PS} : (mstP t e c s).2.2 = s.2.2 := by
  unfold mstP
  split <;> rfl
theorem spl_l {t : Int → Int} {e : Int} {i : Nat} : ∀ (m : Nat) (s : PS), (spl t e i m s).2.2 = s.2.2
  | 0, _ => rfl
  | m + 1, s => by rw [spl, mst_l, spl_l m s]
theorem fig_l {t : Int → Int} {e : Int} {s : PS} : (fig t e s).2.2.2 = s.2.2 := by
  unfold fig
  (repeat' split) <;> rfl
def PC0 (s s' : PS) : Prop := s'.2.1 = 0 → ∃ l' : List Int, s'.2.2 = s.2.2 ++ l' ∧ ∀ r : List Int, wfD 0 r → wfD 0 (l' ++ r)
theorem PC0_l {s s' : PS} (h : s'.2.2 = s.2.2) : PC0 s s' := fun _ => ⟨[], by rw [h, List.append_nil], fun _ q => q⟩
theorem muP_w {t : Int → Int} {e kind : Int} {i : Nat} {s : PS} (hi : i < 13) (hkd : kind = -10 ∨ kind = -200) (hb : PB e s) : PC0 s (muP t e kind i s) := by
  intro h
  unfold muP at h ⊢
  obtain ⟨w1, w2⟩ := emi_0 h
  have h1 := spl_a (t := t) hi s hb
  have h2 : PN e (spl t e i (lenS i).toNat s) (fig t e (spl t e i (lenS i).toNat s)).2 := fig_k (t := t) _ h1.1
  have h3 := mstP_k (t := t) (c := 32) (by decide) _ h2.1
  obtain ⟨l1, e1, f1⟩ := (soP_w (fac_wf (t := t) (e := e) 5) (fac_k (t := t) (e := e) 5)).1 _ h3.1 w1
  have hn := fig_b (t := t) (e := e) (s := spl t e i (lenS i).toNat s)
  refine ⟨l1 ++ [kind - (fig t e (spl t e i (lenS i).toNat s)).1], ?_, fun r hr => ?_⟩
  · rw [w2, e1, mst_l, fig_l, spl_l, List.append_assoc]
  · rw [List.append_assoc]
    refine f1 0 _ (by decide) ?_
    show wfD 1 ((kind - (fig t e (spl t e i (lenS i).toNat s)).1) :: r)
    generalize (fig t e (spl t e i (lenS i).toNat s)).1 = N at *
    unfold wfD
    rw [if_neg (by omega), if_neg (by omega), if_neg (by omega)]
    exact ⟨rfl, by omega, hr⟩
theorem cls_wf {t : Int → Int} {e : Int} {c : CS} (hb : PB e c.1) : PC0 c.1 (cls t e c).1 := by
  have ht : ∀ i, (thS t e i c.1).2.2.2 = c.1.2.2 := fun i => by
    unfold thS
    rw [fig_l, spl_l]
  unfold cls
  (repeat' split) <;> first | exact PC0_l (ht _) | exact muP_w (by decide) (by first | exact Or.inl rfl | exact Or.inr rfl) hb | exact PC0_l rfl
theorem clN_w {t : Int → Int} {e : Int} : ∀ (m : Nat) (c : CS), PB e c.1 → c.1.2.1 = 0 → wfD 0 c.1.2.2 → (clN t e m c).1.2.1 = 0 → (∀ l', (∀ r, wfD 0 r → wfD 0 (c.1.2.2 ++ r)) → l' = c.1.2.2 → True) → (∀ r, wfD 0 r → wfD 0 (c.1.2.2 ++ r)) → ∀ r, wfD 0 r → wfD 0 ((clN t e m c).1.2.2 ++ r)
  | 0, _, _, _, _, _, _, h => h
  | m + 1, c, hb, h0, hw, hz, hx, h => by
    unfold clN at hz ⊢
    by_cases q : c.1.2.1 = 0 ∧ hr t e c.1 = 59
    · rw [if_pos q] at hz ⊢
      have a1 := adv_k hb (hr_lt q.2 (by decide))
      have a2 := cls_k (t := t) (e := e) (adv c.1, c.2) a1.1
      by_cases w : (cls t e (adv c.1, c.2)).1.2.1 = 0
      · obtain ⟨l1, e1, f1⟩ := cls_wf (t := t) (e := e) (c := (adv c.1, c.2)) a1.1 w
        have e2 : (cls t e (adv c.1, c.2)).1.2.2 = c.1.2.2 ++ l1 := e1
        have h2 : ∀ r, wfD 0 r → wfD 0 ((cls t e (adv c.1, c.2)).1.2.2 ++ r) := fun r hr => by
          rw [e2, List.append_assoc]
          exact h _ (f1 r hr)
        exact clN_w m _ a2.1 w (by have := h2 [] trivial; rwa [List.append_nil] at this) hz (fun _ _ _ => trivial) h2
      · have e3 : clN t e m (cls t e (adv c.1, c.2)) = cls t e (adv c.1, c.2) := clN_st (fun z => w z.1)
        rw [e3] at hz
        exact absurd hz w
    · rw [if_neg q]
      exact h
/-- an inn that is read is well made -/
theorem clF_w {f : Int → Int} (he : 0 ≤ f 4) (h : (clF f).1.2.1 = 0) : wfD 0 (clF f).1.2.2 := by
  have hb : PB (f 4) ((0, 0, []) : PS) := ⟨Int.le_refl _, he, Or.inl rfl⟩
  have a2 := cls_k (t := tp f) (e := f 4) ((0, 0, []), 6, 1) hb
  unfold clF at h ⊢
  by_cases w : (cls (tp f) (f 4) ((0, 0, []), 6, 1)).1.2.1 = 0
  · obtain ⟨l1, e1, f1⟩ := cls_wf (t := tp f) (e := f 4) (c := ((0, 0, []), 6, 1)) hb w
    have e2 : (cls (tp f) (f 4) ((0, 0, []), 6, 1)).1.2.2 = l1 := e1
    have h2 : ∀ r, wfD 0 r → wfD 0 ((cls (tp f) (f 4) ((0, 0, []), 6, 1)).1.2.2 ++ r) := fun r hr => by rw [e2]; exact f1 r hr
    have q := clN_w 9 _ a2.1 w (by have := h2 [] trivial; rwa [List.append_nil] at this) h (fun _ _ _ => trivial) h2 [] trivial
    rwa [List.append_nil] at q
  · rw [clN_st (fun z => w z.1)] at h
    exact absurd h w
