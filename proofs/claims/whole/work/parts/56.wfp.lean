/-! ===== what the parser makes is well made ===== -/
def PW (D : Nat) (s s' : PS) : Prop := s'.2.1 = 0 → ∃ l' : List Int, s'.2.2 = s.2.2 ++ l' ∧ ∀ (k : Nat) (r : List Int), k + D ≤ 24 → wfD (k + 1) r → wfD k (l' ++ r)
/-- from one truth more to one truth more -/
def PL1 (D : Nat) (s s' : PS) : Prop := s'.2.1 = 0 → ∃ l' : List Int, s'.2.2 = s.2.2 ++ l' ∧ ∀ (k : Nat) (r : List Int), k + D ≤ 24 → wfD (k + 1) r → wfD (k + 1) (l' ++ r)
def PWF (t : Int → Int) (e : Int) (D : Nat) (F : PS → PS) : Prop := (∀ s, PB e s → PW D s (F s)) ∧ (∀ s, s.2.1 ≠ 0 → F s = s)
theorem emi_0 {z : Int} {s : PS} (h : (emi z s).2.1 = 0) : s.2.1 = 0 ∧ (emi z s).2.2 = s.2.2 ++ [z] := by
  unfold emi at h ⊢
  split
  · rename_i q
    exact ⟨q, rfl⟩
  · rename_i q
    rw [if_neg q] at h
    exact absurd h q
theorem mst_0 {t : Int → Int} {e c : Int} {s : PS} (h : (mstP t e c s).2.1 = 0) : s.2.1 = 0 ∧ (mstP t e c s).2.2 = s.2.2 := by
  unfold mstP at h ⊢
  split
  · rename_i q
    exact ⟨q.1, rfl⟩
  · rename_i q
    rw [if_neg q] at h
    exact absurd h (by show ¬ (1 : Int) = 0; decide)
theorem tsp_w {t : Int → Int} {e : Int} {s : PS} (hb : PB e s) : PW 1 s (tsp t e s) := by
  intro h
  unfold tsp at h ⊢
  obtain ⟨h1, h2⟩ := emi_0 h
  have k1 := orB_k (am_k (t := t) (i := 7) (by decide) s hb)
  have k2 := orB_k (r := tsB t e (orB (am t e 7 s))) (tsB_k (t := t) _ k1.1)
  have h3 := fig_s k2.1 h1
  have hw2 := h3.2.2.2.2
  have ho : ∀ q : Int × PS, (orB q).2.1 = 0 → q.1 ≠ -1 ∧ orB q = q.2 := fun q z => by
    unfold orB at z ⊢
    by_cases y : q.1 = -1
    · rw [if_pos y] at z
      exact absurd z (by show ¬ (1 : Int) = 0; decide)
    · rw [if_neg y]
      exact ⟨y, rfl⟩
  obtain ⟨a1, a2⟩ := ho _ hw2
  have hw1 : (orB (am t e 7 s)).2.1 = 0 := by
    rw [a2] at hw2
    unfold tsB at hw2
    split at hw2
    · assumption
    · exact hw2
  obtain ⟨b1, b2⟩ := ho _ hw1
  have am8 : tsB t e (orB (am t e 7 s)) = am t e 8 (orB (am t e 7 s)) := if_pos hw1
  have hb7 := am_b (t := t) (e := e) (i := 7) (s := s) (by decide)
  have hb8 := am_b (t := t) (e := e) (i := 8) (s := orB (am t e 7 s)) (by decide)
  have l7 : lenS 7 = 6 := by decide
  have l8 : lenS 8 = 3 := by decide
  rw [am8] at a1
  refine ⟨[(am t e 7 s).1 + 8 * (tsB t e (orB (am t e 7 s))).1 + 32 * (fig t e (orB (tsB t e (orB (am t e 7 s))))).1], ?_, fun k r hk hr => ?_⟩
  · rw [h2, h3.2.1]
    have e2 : (orB (tsB t e (orB (am t e 7 s)))).2.2 = s.2.2 := by
      rw [a2, am8, (hb8.2.2.1 a1).2, b2, (hb7.2.2.1 b1).2]
      rfl
    rw [e2]
  · show wfD k (_ :: r)
    rw [am8]
    rw [am8] at h3
    generalize (am t e 8 (orB (am t e 7 s))).1 = B at *
    generalize (am t e 7 s).1 = A at *
    generalize (fig t e (orB (am t e 8 (orB (am t e 7 s))))).1 = C at *
    have q1 := h3.2.2.1
    have q2 := h3.2.2.2.1
    have hA : 0 ≤ A ∧ A ≤ 5 := by omega
    have hB : 0 ≤ B ∧ B ≤ 2 := by omega
    unfold wfD
    rw [if_pos (by omega)]
    exact ⟨⟨by omega, by omega, by omega⟩, by omega, hr⟩
