/-! ===== what the law keeps: players, rows, inns ===== -/
def InA (il : aW) (b : Nat) (wi pa : Int) (l : List Int) : Prop := ∃ (ns us : Int) (sla ena cda : Nat) (sl en cd : Int → Int), (∀ q, q ∈ innC b wi pa ns us sla ena cda sl en cd → q ∈ il) ∧ EIn l ns us sl en cd ∧ wfD 0 l ∧ us ≤ 100 ∧ ns ≤ 10
theorem InA_mono {il il2 : aW} {b : Nat} {wi pa : Int} {l : List Int} (hs : ∀ q, q ∈ il → q ∈ il2) (h : InA il b wi pa l) : InA il2 b wi pa l := by
  obtain ⟨ns, us, sla, ena, cda, sl, en, cd, h1, h2⟩ := h
  exact ⟨ns, us, sla, ena, cda, sl, en, cd, fun q hq => hs q (h1 q hq), h2⟩
def WI (il : aW) (bar : Nat) (f : Int → Int) (iv : Int → Option Nat) : Prop := (∀ j : Int, 0 ≤ j → j < f 1 → ∃ b, iv j = some b ∧ InA il b (f (221 + j)) (f (226 + j)) (SLi f j)) ∧ (∀ j : Int, f 1 ≤ j → j < 5 → iv j = none) ∧ InA il bar 6 1 []
def PI (f : Int → Int) (pv : Int → Option Nat) (pl : Int → Nat) : Prop := ∀ j : Int, 0 ≤ j → j < 6 → pv j = if j < f 0 then some (pl j) else none
theorem PI_v {f : Int → Int} {pv : Int → Option Nat} {pl : Int → Nat} (hS : SOK f) (h : PI f pv pl) : ∀ i : Int, 0 ≤ i → i ≤ f 0 - 1 → pv i = some (pl i) := fun i h0 h1 => by
  have hg := hS.1.1
  rw [h i h0 (by omega), if_pos (by omega)]
theorem PI_eq {f F : Int → Int} {pv : Int → Option Nat} {pl : Int → Nat} (e : F 0 = f 0) (h : PI f pv pl) : PI F pv pl := fun j h0 h1 => by
  rw [e]
  exact h j h0 h1
def RW (N o : Int) (f t : Int → Int) : Prop := ∀ j : Int, 0 ≤ j → j < N → t j = f (o + j)
theorem RW_eq {N o : Int} {f F t : Int → Int} (e : ∀ j : Int, o ≤ j → j < o + N → F j = f j) (h : RW N o f t) : RW N o F t := fun j h0 h1 => by
  rw [e _ (by omega) (by omega)]
  exact h j h0 h1
theorem WI_eq {il : aW} {bar : Nat} {f F : Int → Int} {iv : Int → Option Nat} (e1 : F 1 = f 1) (he : ∀ j : Int, 221 ≤ j → F j = f j) (h : WI il bar f iv) (h5 : f 1 ≤ 5) : WI il bar F iv := by
  obtain ⟨h1, h2, h3⟩ := h
  refine ⟨fun j j0 j1 => ?_, fun j j0 j1 => h2 j (by rw [← e1]; exact j0) j1, h3⟩
  rw [e1] at j1
  obtain ⟨b, hb, hi⟩ := h1 j j0 j1
  rw [he _ (by omega), he _ (by omega), SLi_eq (f := f) (he _ (by omega)) (fun i hi => he _ (by omega))]
  exact ⟨b, hb, hi⟩
theorem WI_mono {il il2 : aW} {bar : Nat} {f : Int → Int} {iv : Int → Option Nat} (hs : ∀ q, q ∈ il → q ∈ il2) (h : WI il bar f iv) : WI il2 bar f iv :=
  ⟨fun j j0 j1 => (h.1 j j0 j1).elim fun b hb => ⟨b, hb.1, InA_mono hs hb.2⟩, h.2.1, InA_mono hs h.2.2⟩
theorem WI_il {il : aW} {bar : Nat} {f : Int → Int} {iv : Int → Option Nat} (h : WI il bar f iv) : ∀ (j : Int) (b : Nat), 0 ≤ j → j < 5 → iv j = some b → ∃ fs, (b, co 3 fs) ∈ il := fun j b j0 j1 hb => by
  by_cases z : j < f 1
  · obtain ⟨b2, e, ns, us, sla, ena, cda, sl, en, cd, hm, -⟩ := h.1 j j0 z
    rw [hb] at e
    cases e
    exact ⟨_, hm _ List.mem_cons_self⟩
  · rw [h.2.1 j (by omega) j1] at hb
    cases hb
/-- the inn that holds -/
theorem WI_h {il : aW} {bar : Nat} {f : Int → Int} {iv : Int → Option Nat} (hS : SOK f) (h : WI il bar f iv) : ∃ (hq : Nat) (ns us : Int) (sla ena cda : Nat) (sl en cd : Int → Int), inC f iv bar hq ns us sl en cd ∧ ∀ q, q ∈ ([(hq, co 3 [ai (kWide f), ai (kPay f), ai ns, ai us, ar sla, ar ena, ar cda]), (cda, cn 0 100 cd), (sla, cn 0 10 sl), (ena, cn 0 10 en)] : aW) → q ∈ il := by
  have h1 := hS.1.2.1
  have h5 := hS.1.2.2.2.2.2.1
  by_cases z : f 1 = 0
  · obtain ⟨ns, us, sla, ena, cda, sl, en, cd, hm, hE, hw, hb⟩ := h.2.2
    have e5 : f 5 = -1 := by omega
    refine ⟨bar, ns, us, sla, ena, cda, sl, en, cd, ⟨Or.inl ⟨z, rfl⟩, by rw [SL_0 e5]; exact hE, by rw [SL_0 e5]; exact hw, hb⟩, ?_⟩
    have ew : kWide f = 6 := by unfold kWide; rw [if_pos e5]
    have ep : kPay f = 1 := by unfold kPay; rw [if_pos e5]
    rw [ew, ep]
    exact ro_cons (hm _ (mem_at 0 rfl)) (ro_cons (hm _ (mem_at 3 rfl)) (ro_cons (hm _ (mem_at 1 rfl)) (ro_cons (hm _ (mem_at 2 rfl)) ro_nil)))
  · obtain ⟨b, hb, ns, us, sla, ena, cda, sl, en, cd, hm, hE, hw, hbd⟩ := h.1 (f 1 - 1) (by omega) (by omega)
    have e5 : f 5 ≠ -1 := by omega
    have e6 : f 1 - 1 = f 5 := by omega
    rw [e6] at hm hE hw
    refine ⟨b, ns, us, sla, ena, cda, sl, en, cd, ⟨Or.inr ⟨by omega, hb⟩, by rw [SLi_SL e5]; exact hE, by rw [SLi_SL e5]; exact hw, hbd⟩, ?_⟩
    have ew : kWide f = f (221 + f 5) := by unfold kWide; rw [if_neg e5]
    have ep : kPay f = f (226 + f 5) := by unfold kPay; rw [if_neg e5]
    rw [ew, ep]
    exact ro_cons (hm _ (mem_at 0 rfl)) (ro_cons (hm _ (mem_at 3 rfl)) (ro_cons (hm _ (mem_at 1 rfl)) (ro_cons (hm _ (mem_at 2 rfl)) ro_nil)))
/-- the inns behind the reading of one more -/
theorem WI_inn {il nl : aW} {bar : Nat} {f : Int → Int} {iv iv2 : Int → Option Nat} (hS : SOK f) (h : WI il bar f iv) (hG : inG f iv iv2 nl) : WI (il ++ nl) bar (qInn f).2 iv2 := by
  have hg := hS.1
  have hg1 := hg.2.1
  have hg4 := hg.2.2.2.2.1
  have hL : ∀ q, q ∈ il → q ∈ il ++ nl := fun q hq => List.mem_append_left _ hq
  have old : ∀ j : Int, 0 ≤ j → j < f 1 → f 1 ≤ 4 → innF f (221 + j) = f (221 + j) ∧ innF f (226 + j) = f (226 + j) ∧ SLi (innF f) j = SLi f j := fun j j0 j1 j4 => by
    obtain ⟨e1, e2, e3⟩ := innF_hi (f := f) ⟨hg1.1, j4⟩ j0 (by omega)
    rw [if_neg (by omega)] at e1 e2 e3
    have hr := hg.2.2.2.2.2.2.2 j j0 (by omega)
    exact ⟨e1, e2, SLi_eq e3 (fun i hi => innF_st ⟨hg1.1, j4⟩ (by omega) (Or.inl (by omega)))⟩
  rcases hG with ⟨rfl, rfl, hn⟩ | ⟨h5, hP, b, ns, us, sla, ena, cda, sl, en, cd, rfl, rfl, hE, hus, hns⟩
  · by_cases c1 : f 1 = 5
    · rw [qInn_0 c1]
      exact WI_mono hL h
    · have c2 : ¬ inP f := fun z => hn ⟨c1, z⟩
      rw [qInn_m c1 c2]
      dsimp only
      have e1 : innF f 1 = f 1 := innF_lo hg1.1 (by decide) (by decide)
      refine ⟨fun j j0 j1 => ?_, fun j j0 j1 => h.2.1 j (by rw [← e1]; exact j0) j1, InA_mono hL h.2.2⟩
      rw [e1] at j1
      obtain ⟨o1, o2, o3⟩ := old j j0 j1 (by omega)
      rw [o1, o2, o3]
      exact (h.1 j j0 j1).elim fun b hb => ⟨b, hb.1, InA_mono hL hb.2⟩
  · rw [qInn_p h5 hP]
    dsimp only
    have e : ∀ j : Int, j ≠ 1 → j ≠ 5 → aup (aup (innF f) 1 (f 1 + 1)) 5 (f 1) j = innF f j := fun j h1 h5 => by rw [aup_n _ _ h5, aup_n _ _ h1]
    have e1 : aup (aup (innF f) 1 (f 1 + 1)) 5 (f 1) 1 = f 1 + 1 := by rw [aup_n _ _ (by decide), aup_s]
    have ha : 0 ≤ f 1 ∧ f 1 ≤ 4 := by omega
    have es : ∀ j : Int, 0 ≤ j → SLi (aup (aup (innF f) 1 (f 1 + 1)) 5 (f 1)) j = SLi (innF f) j := fun j j0 => SLi_eq (e _ (by omega) (by omega)) (fun i hi => e _ (by omega) (by omega))
    refine ⟨fun j j0 j1 => ?_, fun j j0 j1 => ?_, InA_mono hL h.2.2⟩
    · rw [e1] at j1
      rw [e _ (by omega) (by omega), e _ (by omega) (by omega), es j j0]
      by_cases z : j = f 1
      · subst z
        obtain ⟨o1, o2, -⟩ := innF_hi ha ha.1 (by omega)
        rw [if_pos rfl] at o1 o2
        rw [o1, o2, innF_SL ha]
        exact ⟨b, aupq_s _ _ _, ns, us, sla, ena, cda, sl, en, cd, fun q hq => List.mem_append_right _ hq, hE, clF_w hg4.1 hP.1, hus, hns⟩
      · obtain ⟨o1, o2, o3⟩ := old j j0 (by omega) (by omega)
        rw [o1, o2, o3, aupq_n _ _ z]
        exact (h.1 j j0 (by omega)).elim fun b hb => ⟨b, hb.1, InA_mono hL hb.2⟩
    · rw [e1] at j0
      rw [aupq_n _ _ (by omega)]
      exact h.2.1 j (by omega) j1
theorem SLi_nil {f : Int → Int} {j : Int} (h : f (231 + j) = 0) : SLi f j = [] := by
  unfold SLi
  rw [h]
  rfl
/-- players' cells where the reference's rows are the same -/
theorem zpW_cf {ta : Nat} {f F : Int → Int} {pl tu : Int → Nat} {p : Int} (h1 : F (7 + p) = f (7 + p)) (h2 : zpL ta F p = zpL ta f p) (h3 : tnF F p = tnF f p) : zpW ta F pl tu p = zpW ta f pl tu p := by
  unfold zpW zpO
  rw [h1, h2, h3]
theorem zpL_cf {ta : Nat} {f F : Int → Int} {p : Int} (h1 : F (7 + p) = f (7 + p)) (h2 : F (13 + p) = f (13 + p)) (h3 : F (19 + p) = f (19 + p)) (h4 : F (25 + p) = f (25 + p)) (h5 : F (31 + p) = f (31 + p)) (h6 : F (37 + p) = f (37 + p)) (h7 : F (43 + p) = f (43 + p)) : zpL ta F p = zpL ta f p := by
  funext tl
  show ar ta :: ai (F (7 + p)) :: _ = _
  rw [h1, h2, h3, h4, h5, h6, h7]
theorem zpS_cf {ta : Nat} {f F : Int → Int} {pl tu : Int → Nat} {n : Nat} (h : ∀ p : Int, 0 ≤ p → p < (n : Int) → zpW ta F pl tu p = zpW ta f pl tu p) : zpS ta F pl tu n = zpS ta f pl tu n := by
  unfold zpS
  refine congrArg List.flatten (List.map_congr_left fun i hi => ?_)
  exact h _ (by omega) (by have := List.mem_range.mp hi; omega)
theorem zpA_cf {ta : Nat} {f F : Int → Int} {pl tu : Int → Nat} (hS : SOK f) (e0 : F 0 = f 0) (he : ∀ j : Int, 7 ≤ j → j < 73 → F j = f j) : zpA ta F pl tu = zpA ta f pl tu := by
  have hg := hS.1.1
  show zpS ta F pl tu (F 0).toNat = _
  rw [e0]
  refine zpS_cf fun p p0 p1 => ?_
  have hp : p < 6 := by omega
  exact zpW_cf (he _ (by omega) (by omega)) (zpL_cf (he _ (by omega) (by omega)) (he _ (by omega) (by omega)) (he _ (by omega) (by omega)) (he _ (by omega) (by omega)) (he _ (by omega) (by omega)) (he _ (by omega) (by omega)) (he _ (by omega) (by omega))) (tnF_cg fun j j0 j1 => he _ (by omega) (by omega))
/-- one player's cells among all -/
theorem zpS_sp {ta : Nat} {f : Int → Int} {pl tu : Int → Nat} {n : Nat} {p : Int} (p0 : 0 ≤ p) (p1 : p < (n : Int)) : ∃ A B : aW, ∀ F : Int → Int, (∀ i : Int, 0 ≤ i → i < (n : Int) → i ≠ p → zpW ta F pl tu i = zpW ta f pl tu i) → zpS ta F pl tu n = A ++ (zpW ta F pl tu p ++ B) := by
  refine ⟨(List.range p.toNat).flatMap (fun i : Nat => zpW ta f pl tu (i : Int)), (List.range' (p.toNat + 1) (n - p.toNat - 1)).flatMap (fun i : Nat => zpW ta f pl tu (i : Int)), fun F h => ?_⟩
  have e : List.range n = List.range p.toNat ++ (p.toNat :: List.range' (p.toNat + 1) (n - p.toNat - 1)) := by
    have q1 : List.range' p.toNat (n - p.toNat - 1 + 1) = p.toNat :: List.range' (p.toNat + 1) (n - p.toNat - 1) := rfl
    rw [List.range_eq_range', List.range_eq_range', ← q1]
    have q2 := List.range'_append_1 (s := 0) (m := p.toNat) (n := n - p.toNat - 1 + 1)
    rw [Nat.zero_add, show p.toNat + (n - p.toNat - 1 + 1) = n by omega] at q2
    exact q2.symm
  unfold zpS
  rw [e, List.flatMap_append, List.flatMap_cons, show ((p.toNat : Nat) : Int) = p by omega]
  have g1 : (List.range p.toNat).flatMap (fun i : Nat => zpW ta F pl tu (i : Int)) = (List.range p.toNat).flatMap (fun i : Nat => zpW ta f pl tu (i : Int)) := congrArg List.flatten (List.map_congr_left fun i hi => h _ (by omega) (by have := List.mem_range.mp hi; omega) (by have := List.mem_range.mp hi; omega))
  have g2 : (List.range' (p.toNat + 1) (n - p.toNat - 1)).flatMap (fun i : Nat => zpW ta F pl tu (i : Int)) = (List.range' (p.toNat + 1) (n - p.toNat - 1)).flatMap (fun i : Nat => zpW ta f pl tu (i : Int)) := congrArg List.flatten (List.map_congr_left fun i hi => h _ (by omega) (by have := List.mem_range'_1.mp hi; omega) (by have := List.mem_range'_1.mp hi; omega))
  rw [g1, g2]
