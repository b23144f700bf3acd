set_option maxHeartbeats 4000000 in
set_option maxRecDepth 100000 in
theorem c_X4_layF {gS : sG} (h : Nat) (fa : Nat) (m : Nat → Int) (fa0 : Int → Int) (nw : Nat) (pls : Nat) (ins : Nat) (tap : Nat) (e3 : Nat) (e4 : Nat) (e5 : Nat) (e6 : Nat) (e7 : Nat) (e8 : Nat) (bar : Nat) (iv : Int → Option Nat) (hq : Nat) (ns : Int) (us : Int) (sla : Nat) (ena : Nat) (cda : Nat) (cd : Int → Int) (sl : Int → Int) (en : Int → Int) (ta : Nat) (q1 : Nat) (t1 : Nat) (f : Int → Int) (p : Int) (n : Int) (s1 : Int) (g1 : Int) (hS : SOK f) (hI : inC f iv bar hq ns us sl en cd) (hp : 0 ≤ p ∧ p < 6) (hn : 0 ≤ n ∧ n ≤ 99) (hs1 : 0 ≤ s1 ∧ s1 ≤ 20) (hgg : 0 ≤ g1 ∧ g1 ≤ 9) : Ct gS (S := Int → Int) yX4_layFor cX4_layFor 7 none 3 77 0 0 [ar h, ar nw, ar q1, ai n, ai s1, ai g1] [(h, co 4 (pO fa m)), (fa, cn 0 6 fa0)] (fun q => q ∈ ([(nw, co 10 [ar pls, ar ins, ar tap, ar e3, ar e4, ar e5, ar e6, ar e7, ar e8, ai (f 0), ai (f 1), ai (f 4), ai (f 2), ai (f 3), ai (f 6), ar bar]), (ins, cq 2 5 iv), (hq, co 3 [ai (kWide f), ai (kPay f), ai ns, ai us, ar sla, ar ena, ar cda]), (cda, cn 0 100 cd), (sla, cn 0 10 sl), (ena, cn 0 10 en), (q1, zpO ta f p t1), tqC ta f p q1 t1] : aW)) (fun u => True) (fun u => none) (fun u => [(h, co 4 (pO fa (pMf (fS f p s1 g1) p n))), (fa, cn 0 6 u)]) := by
  obtain ⟨⟨hg0, hg1, hg2, hg3, hg4, hg5, hg6, hg7⟩, hSp, hSh, hSs, hSb, hSt, hSw⟩ := id hS
  obtain ⟨hpp, hf1, hf2, hf3, hf4, hf5, hf6, hf7, hf8⟩ := hSp p hp.1 hp.2
  rcases (show f (7 + p) = 0 ∨ f (7 + p) = 1 ∨ f (7 + p) = 2 ∨ f (7 + p) = 3 ∨ f (7 + p) = 4 ∨ f (7 + p) = 5 ∨ f (7 + p) = 6 by omega) with hk | hk | hk | hk | hk | hk | hk
  · have e : zpO ta f p t1 = co 5 (zpL ta f p []) := zpO_k hk rfl rfl
    have H := c_X4_layFor_k5 (gS := gS) h fa (m 0) (m 1) (m 2) (m 3) (m 4) (m 5) fa0 nw pls ins tap e3 e4 e5 e6 e7 e8 (f 0) (f 1) (f 4) (f 2) (f 3) (f 6) bar iv hq (kWide f) (kPay f) ns us sla ena cda cd sl en q1 ta (f (7 + p)) p (f (13 + p)) (f (19 + p)) (f (25 + p)) (f (31 + p)) (f (37 + p)) (f (43 + p)) n s1 g1 hI.1 ⟨by have := hI.2.1.2.1; omega, hI.2.2.2.2⟩ hn (inC_sl hI) (inC_en hI) hs1 hgg (by omega) (by omega) (by omega)
    refine Ct.mono H (fun q hq => ?_) (fun u hu => ⟨u, trivial, rfl, ?_⟩)
    · rw [e]
      have h2 := List.mem_append_left [(tqC ta f p q1 t1)] hq
      exact h2
    · show [(h, co 4 (pO fa (pMf (fS f p s1 g1) p n))), (fa, cn 0 6 u)] = _
      rw [pMf_S hp (by omega) (show kLean (f (7 + p)) (f (13 + p)) (fRow f p) = 0 by rw [hk]; rfl) (show kUnsOf (f (7 + p)) s1 g1 = (kUns s1 g1) by rw [hk]; rfl) (inC_op hI (by omega) hp hu)]
  · have e : zpO ta f p t1 = co 8 (zpL ta f p []) := zpO_k hk rfl rfl
    have H := c_X4_layFor_k8 (gS := gS) h fa (m 0) (m 1) (m 2) (m 3) (m 4) (m 5) fa0 nw pls ins tap e3 e4 e5 e6 e7 e8 (f 0) (f 1) (f 4) (f 2) (f 3) (f 6) bar iv hq (kWide f) (kPay f) ns us sla ena cda cd sl en q1 ta (f (7 + p)) p (f (13 + p)) (f (19 + p)) (f (25 + p)) (f (31 + p)) (f (37 + p)) (f (43 + p)) n s1 g1 hI.1 ⟨by have := hI.2.1.2.1; omega, hI.2.2.2.2⟩ hn (inC_sl hI) (inC_en hI) hs1 hgg (by omega) (by omega) (by omega)
    refine Ct.mono H (fun q hq => ?_) (fun u hu => ⟨u, trivial, rfl, ?_⟩)
    · rw [e]
      have h2 := List.mem_append_left [(tqC ta f p q1 t1)] hq
      exact h2
    · show [(h, co 4 (pO fa (pMf (fS f p s1 g1) p n))), (fa, cn 0 6 u)] = _
      rw [pMf_S hp (by omega) (show kLean (f (7 + p)) (f (13 + p)) (fRow f p) = 0 by rw [hk]; rfl) (show kUnsOf (f (7 + p)) s1 g1 = (kUns s1 g1 / 2) by rw [hk]; rfl) (inC_op hI (by omega) hp hu)]
  · have e : zpO ta f p t1 = co 0 (zpL ta f p []) := zpO_k hk rfl rfl
    have H := c_X4_layFor_k0 (gS := gS) h fa (m 0) (m 1) (m 2) (m 3) (m 4) (m 5) fa0 nw pls ins tap e3 e4 e5 e6 e7 e8 (f 0) (f 1) (f 4) (f 2) (f 3) (f 6) bar iv hq (kWide f) (kPay f) ns us sla ena cda cd sl en q1 ta (f (7 + p)) p (f (13 + p)) (f (19 + p)) (f (25 + p)) (f (31 + p)) (f (37 + p)) (f (43 + p)) n s1 g1 hI.1 ⟨by have := hI.2.1.2.1; omega, hI.2.2.2.2⟩ hn (inC_sl hI) (inC_en hI) hs1 hgg (by omega) (by omega) (by omega)
    refine Ct.mono H (fun q hq => ?_) (fun u hu => ⟨u, trivial, rfl, ?_⟩)
    · rw [e]
      have h2 := List.mem_append_left [(tqC ta f p q1 t1)] hq
      exact h2
    · show [(h, co 4 (pO fa (pMf (fS f p s1 g1) p n))), (fa, cn 0 6 u)] = _
      rw [pMf_S hp (by omega) (show kLean (f (7 + p)) (f (13 + p)) (fRow f p) = (f (13 + p)) by rw [hk]; rfl) (show kUnsOf (f (7 + p)) s1 g1 = (kUns s1 g1) by rw [hk]; rfl) (inC_op hI (by omega) hp hu)]
  · have e : zpO ta f p t1 = co 7 (zpL ta f p []) := zpO_k hk rfl rfl
    have H := c_X4_layFor_k7 (gS := gS) h fa (m 0) (m 1) (m 2) (m 3) (m 4) (m 5) fa0 nw pls ins tap e3 e4 e5 e6 e7 e8 (f 0) (f 1) (f 4) (f 2) (f 3) (f 6) bar iv hq (kWide f) (kPay f) ns us sla ena cda cd sl en q1 ta (f (7 + p)) p (f (13 + p)) (f (19 + p)) (f (25 + p)) (f (31 + p)) (f (37 + p)) (f (43 + p)) n s1 g1 hI.1 ⟨by have := hI.2.1.2.1; omega, hI.2.2.2.2⟩ hn (inC_sl hI) (inC_en hI) hs1 hgg (by omega) (by omega) (by omega)
    refine Ct.mono H (fun q hq => ?_) (fun u hu => ⟨u, trivial, rfl, ?_⟩)
    · rw [e]
      have h2 := List.mem_append_left [(tqC ta f p q1 t1)] hq
      exact h2
    · show [(h, co 4 (pO fa (pMf (fS f p s1 g1) p n))), (fa, cn 0 6 u)] = _
      rw [pMf_S hp (by omega) (show kLean (f (7 + p)) (f (13 + p)) (fRow f p) = (-(f (13 + p))) by rw [hk]; rfl) (show kUnsOf (f (7 + p)) s1 g1 = (kUns s1 g1) by rw [hk]; rfl) (inC_op hI (by omega) hp hu)]
  · have e : zpO ta f p t1 = co 1 (zpL ta f p []) := zpO_k hk rfl rfl
    have H := c_X4_layFor_k1 (gS := gS) h fa (m 0) (m 1) (m 2) (m 3) (m 4) (m 5) fa0 nw pls ins tap e3 e4 e5 e6 e7 e8 (f 0) (f 1) (f 4) (f 2) (f 3) (f 6) bar iv hq (kWide f) (kPay f) ns us sla ena cda cd sl en q1 ta (f (7 + p)) p (f (13 + p)) (f (19 + p)) (f (25 + p)) (f (31 + p)) (f (37 + p)) (f (43 + p)) n s1 g1 hI.1 ⟨by have := hI.2.1.2.1; omega, hI.2.2.2.2⟩ hn (inC_sl hI) (inC_en hI) hs1 hgg (by omega) (by omega) (by omega)
    refine Ct.mono H (fun q hq => ?_) (fun u hu => ⟨u, trivial, rfl, ?_⟩)
    · rw [e]
      have h2 := List.mem_append_left [(tqC ta f p q1 t1)] hq
      exact h2
    · show [(h, co 4 (pO fa (pMf (fS f p s1 g1) p n))), (fa, cn 0 6 u)] = _
      rw [pMf_S hp (by omega) (show kLean (f (7 + p)) (f (13 + p)) (fRow f p) = 0 by rw [hk]; rfl) (show kUnsOf (f (7 + p)) s1 g1 = (kUns s1 0 / 2) by rw [hk]; rfl) (inC_op hI (by omega) hp hu)]
  · have e : zpO ta f p t1 = co 2 (zpL ta f p []) := zpO_k hk rfl rfl
    have H := c_X4_layFor_k2 (gS := gS) h fa (m 0) (m 1) (m 2) (m 3) (m 4) (m 5) fa0 nw pls ins tap e3 e4 e5 e6 e7 e8 (f 0) (f 1) (f 4) (f 2) (f 3) (f 6) bar iv hq (kWide f) (kPay f) ns us sla ena cda cd sl en q1 ta (f (7 + p)) p (f (13 + p)) (f (19 + p)) (f (25 + p)) (f (31 + p)) (f (37 + p)) (f (43 + p)) n s1 g1 hI.1 ⟨by have := hI.2.1.2.1; omega, hI.2.2.2.2⟩ hn (inC_sl hI) (inC_en hI) hs1 hgg (by omega) (by omega) (by omega)
    refine Ct.mono H (fun q hq => ?_) (fun u hu => ⟨u, trivial, rfl, ?_⟩)
    · rw [e]
      have h2 := List.mem_append_left [(tqC ta f p q1 t1)] hq
      exact h2
    · show [(h, co 4 (pO fa (pMf (fS f p s1 g1) p n))), (fa, cn 0 6 u)] = _
      rw [pMf_S hp (by omega) (show kLean (f (7 + p)) (f (13 + p)) (fRow f p) = (f (13 + p)) by rw [hk]; rfl) (show kUnsOf (f (7 + p)) s1 g1 = (kUns s1 (2 * g1)) by rw [hk]; rfl) (inC_op hI (by omega) hp hu)]
  · have e : zpO ta f p t1 = co 9 (zpL ta f p [ar t1]) := zpO_k hk rfl rfl
    have H := c_X4_layFor_k9 (gS := gS) h fa (m 0) (m 1) (m 2) (m 3) (m 4) (m 5) fa0 nw pls ins tap e3 e4 e5 e6 e7 e8 (f 0) (f 1) (f 4) (f 2) (f 3) (f 6) bar iv hq (kWide f) (kPay f) ns us sla ena cda cd sl en q1 ta (f (7 + p)) p (f (13 + p)) (f (19 + p)) (f (25 + p)) (f (31 + p)) (f (37 + p)) (f (43 + p)) t1 (tnF f p) n s1 g1 hI.1 ⟨by have := hI.2.1.2.1; omega, hI.2.2.2.2⟩ hn (inC_sl hI) (inC_en hI) hs1 hgg (by omega) (by omega) (by omega)
    refine Ct.mono H (fun q hq => ?_) (fun u hu => ⟨u, trivial, rfl, ?_⟩)
    · rw [e, tq_6 hk]
      exact hq
    · show [(h, co 4 (pO fa (pMf (fS f p s1 g1) p n))), (fa, cn 0 6 u)] = _
      rw [pMf_S hp (by omega) (show kLean (f (7 + p)) (f (13 + p)) (fRow f p) = (-(f (13 + p)) + tnF f p (f 6 % 4) - 4) by rw [hk]; rw [show tnF f p (f 6 % 4) = fRow f p from tnF_at (by omega)]; rfl) (show kUnsOf (f (7 + p)) s1 g1 = (kUns s1 g1) by rw [hk]; rfl) (inC_op hI (by omega) hp hu)]
theorem kA_eq {f : Int → Int} {p n : Int} : (fun z => kAll (5 * z + kRs f p n) (fUn f p) (kWide f) (f (25 + p)) (kOp f p n 0)) = fun fo => fAll f p n fo (kOp f p n 0) := by
  funext z
  unfold fAll
  rw [fTu_r]
theorem kC_eq {f : Int → Int} {p n fo : Int} : (fun z => kCat (5 * fo + kRs f p n) (fUn f p) (kWide f) (f (25 + p)) n z (kOp f p n 0)) = fun d => fCat f p n fo d (kOp f p n 0) := by
  funext z
  unfold fCat
  rw [fTu_r]
theorem ro_app {P : Nat × aC → Prop} {a b : aW} (h : ∀ q, q ∈ a → P q) (g : ∀ q, q ∈ b → P q) : ∀ q, q ∈ a ++ b → P q := fun q hq => (List.mem_append.mp hq).elim (h q) (g q)
theorem fS_g1 {f : Int → Int} {p g : Int} : fS f p (f (19 + p)) g = aup f (31 + p) g := by
  unfold fS
  rw [aup_id]
theorem fS_s1 {f : Int → Int} {p s : Int} : fS f p s (f (31 + p)) = aup f (19 + p) s := by
  unfold fS
  have e : f (31 + p) = aup f (19 + p) s (31 + p) := (aup_n _ _ (by omega)).symm
  rw [e, aup_id]
theorem c_F_turnBy {gS : sG} (h : Nat) (fa : Nat) (f : Int → Int) (p : Int) (n : Int) (fo : Int) (hS : SOK f) (hp : 0 ≤ p ∧ p < 6) (hn : 0 ≤ n ∧ n ≤ 99) : Ct gS (S := Unit) yX4_turnBy cX4_turnBy 2 (some .int) 0 0 0 0 [ar h, ai fo] [] (fun q => q ∈ ([(h, co 4 (pO fa (pMf f p n)))] : aW)) (fun _ => True) (fun _ => some (ai (fTu f p n fo))) (fun _ => []) := by
  have H := c_X4_turnBy (gS := gS) h fa n (f (25 + p)) (kRs f p n) (fUn f p) (kWide f) (kOp f p n 0) fo 
  rw [← fTu_r] at H
  exact H
theorem c_F_caughtBy {gS : sG} (h : Nat) (fa : Nat) (f : Int → Int) (p : Int) (n : Int) (fo : Int) (d : Int) (hS : SOK f) (hp : 0 ≤ p ∧ p < 6) (hn : 0 ≤ n ∧ n ≤ 99) (hfo : 0 ≤ fo ∧ fo ≤ 20) (hdr : 0 ≤ d ∧ d ≤ 9) : Ct gS (S := Unit) yX4_caughtBy cX4_caughtBy 4 (some .int) 1 31 0 0 [ar h, ai fo, ai d] [] (fun q => q ∈ ([(h, co 4 (pO fa (pMf f p n)))] : aW)) (fun _ => True) (fun _ => some (ai (fCat f p n fo d (kOp f p n 0)))) (fun _ => []) := by
  have H := c_X4_caughtBy (gS := gS) h fa n (f (25 + p)) (kRs f p n) (fUn f p) (kWide f) (kOp f p n 0) fo d (pf_b hS hp hn) hfo hdr
  rw [← fTu_r] at H
  exact H
theorem c_F_caughtByAllDraws {gS : sG} (h : Nat) (fa : Nat) (f : Int → Int) (p : Int) (n : Int) (fo : Int) (hS : SOK f) (hp : 0 ≤ p ∧ p < 6) (hn : 0 ≤ n ∧ n ≤ 99) (hfo : 0 ≤ fo ∧ fo ≤ 20) : Ct gS (S := Unit) yX4_caughtByAllDraws cX4_caughtByAllDraws 4 (some .int) 2 54 0 0 [ar h, ai fo] [] (fun q => q ∈ ([(h, co 4 (pO fa (pMf f p n)))] : aW)) (fun _ => True) (fun _ => some (ai (fSum f p n fo 10))) (fun _ => []) := by
  have H := c_X4_caughtByAllDraws (gS := gS) h fa n (f (25 + p)) (kRs f p n) (fUn f p) (kWide f) (kOp f p n 0) fo (pf_b hS hp hn) hfo
  rw [kC_eq] at H
  exact H
theorem c_F_oddsBy {gS : sG} (h : Nat) (fa : Nat) (f : Int → Int) (p : Int) (n : Int) (fo : Int) (hS : SOK f) (hp : 0 ≤ p ∧ p < 6) (hn : 0 ≤ n ∧ n ≤ 99) (hfo : 0 ≤ fo ∧ fo ≤ 20) : Ct gS (S := Unit) yX4_oddsBy cX4_oddsBy 5 (some .int) 1 33 0 0 [ar h, ai fo] [] (fun q => q ∈ ([(h, co 4 (pO fa (pMf f p n)))] : aW)) (fun _ => True) (fun _ => some (ai (fAll f p n fo (kOp f p n 0)))) (fun _ => []) := by
  have H := c_X4_oddsBy (gS := gS) h fa n (f (25 + p)) (kRs f p n) (fUn f p) (kWide f) (kOp f p n 0) fo (pf_b hS hp hn) hfo
  rw [← fTu_r] at H
  exact H
theorem c_F_bestForce {gS : sG} (h : Nat) (fa : Nat) (f : Int → Int) (p : Int) (n : Int) (hS : SOK f) (hp : 0 ≤ p ∧ p < 6) (hn : 0 ≤ n ∧ n ≤ 99) : Ct gS (S := Unit) yX4_bestForce cX4_bestForce 5 (some .int) 2 57 0 0 [ar h] [] (fun q => q ∈ ([(h, co 4 (pO fa (pMf f p n)))] : aW)) (fun _ => True) (fun _ => some (ai ((fBst f p n 21).2))) (fun _ => []) := by
  have H := c_X4_bestForce (gS := gS) h fa n (f (25 + p)) (kRs f p n) (fUn f p) (kWide f) (kOp f p n 0)  (pf_b hS hp hn)
  rw [kA_eq] at H
  exact H
theorem c_F_bestOdds {gS : sG} (h : Nat) (fa : Nat) (f : Int → Int) (p : Int) (n : Int) (hS : SOK f) (hp : 0 ≤ p ∧ p < 6) (hn : 0 ≤ n ∧ n ≤ 99) : Ct gS (S := Unit) yX4_bestOdds cX4_bestOdds 1 (some .int) 3 81 0 0 [ar h] [] (fun q => q ∈ ([(h, co 4 (pO fa (pMf f p n)))] : aW)) (fun _ => True) (fun _ => some (ai (fBest f p n))) (fun _ => []) := by
  have H := c_X4_bestOdds (gS := gS) h fa n (f (25 + p)) (kRs f p n) (fUn f p) (kWide f) (kOp f p n 0)  (pf_b hS hp hn)
  rw [kA_eq] at H
  exact H
theorem c_F_drawsOf {gS : sG} (h : Nat) (fa : Nat) (f : Int → Int) (p : Int) (n : Int) (fo : Int) (cc : Int) (hS : SOK f) (hp : 0 ≤ p ∧ p < 6) (hn : 0 ≤ n ∧ n ≤ 99) (hfo : 0 ≤ fo ∧ fo ≤ 20) (hcc : 0 ≤ cc ∧ cc ≤ 99) : Ct gS (S := Unit) yX4_drawsOf cX4_drawsOf 5 (some .int) 2 54 0 0 [ar h, ai fo, ai cc] [] (fun q => q ∈ ([(h, co 4 (pO fa (pMf f p n)))] : aW)) (fun _ => True) (fun _ => some (ai (bts (fun z : Nat => decide (fCat f p n fo (z : Int) (kOp f p n 0) = cc)) 10))) (fun _ => []) := by
  have H := c_X4_drawsOf (gS := gS) h fa n (f (25 + p)) (kRs f p n) (fUn f p) (kWide f) (kOp f p n 0) fo cc (pf_b hS hp hn) hfo hcc
  rw [← fTu_r] at H
  exact H
