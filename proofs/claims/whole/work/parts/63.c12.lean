theorem flP_11_86 {kd : Int} (h : 0 ≤ kd ∧ kd ≤ 6) : FL RX11 86 (kC kd) 4 := by
  rcases (show kd = 0 ∨ kd = 1 ∨ kd = 2 ∨ kd = 3 ∨ kd = 4 ∨ kd = 5 ∨ kd = 6 by omega) with rfl | rfl | rfl | rfl | rfl | rfl | rfl
  · exact fl_11_86_5
  · exact fl_11_86_8
  · exact fl_11_86_0
  · exact fl_11_86_7
  · exact fl_11_86_1
  · exact fl_11_86_2
  · exact fl_11_86_9
theorem flP_11_106 {kd : Int} (h : 0 ≤ kd ∧ kd ≤ 6) : FL RX11 106 (kC kd) 6 := by
  rcases (show kd = 0 ∨ kd = 1 ∨ kd = 2 ∨ kd = 3 ∨ kd = 4 ∨ kd = 5 ∨ kd = 6 by omega) with rfl | rfl | rfl | rfl | rfl | rfl | rfl
  · exact fl_11_106_5
  · exact fl_11_106_8
  · exact fl_11_106_0
  · exact fl_11_106_7
  · exact fl_11_106_1
  · exact fl_11_106_2
  · exact fl_11_106_9
theorem flP_11_109 {kd : Int} (h : 0 ≤ kd ∧ kd ≤ 6) : FL RX11 109 (kC kd) 7 := by
  rcases (show kd = 0 ∨ kd = 1 ∨ kd = 2 ∨ kd = 3 ∨ kd = 4 ∨ kd = 5 ∨ kd = 6 by omega) with rfl | rfl | rfl | rfl | rfl | rfl | rfl
  · exact fl_11_109_5
  · exact fl_11_109_8
  · exact fl_11_109_0
  · exact fl_11_109_7
  · exact fl_11_109_1
  · exact fl_11_109_2
  · exact fl_11_109_9
set_option maxHeartbeats 4000000 in
set_option maxRecDepth 100000 in
theorem c_X11_find_y {gS : sG} (mo : Nat) (kw : Nat) (pi : Nat) (ta : Nat) (ms : Nat) (pt : Nat) (po : Nat) (hi : Int) (nw : Nat) (pls : Nat) (ins : Nat) (tap : Nat) (e3 : Nat) (e4 : Nat) (e5 : Nat) (e6 : Nat) (e7 : Nat) (e8 : Nat) (bar : Nat) (pv : Int → Option Nat) (q1 : Nat) (f : Int → Int) (p : Int) (hS : SOK f) (hpv : pv p = some q1) (hp : 0 ≤ p ∧ p ≤ f 0 - 1) : Ct gS (S := Unit) yX11_find cX11_find 2 (some (.object "MatFlip$Player")) 1 22 0 0 [ar mo, ai p] [] (fun q => q ∈ ([(mo, co 11 [ar nw, ar kw, ar pi, ar ta, ar ms, ar pt, ar po, ai hi]), (nw, co 10 [ar pls, ar ins, ar tap, ar e3, ar e4, ar e5, ar e6, ar e7, ar e8, ai (f 0), ai (f 1), ai (f 4), ai (f 2), ai (f 3), ai (f 6), ar bar]), (pls, cq 3 6 pv)] : aW)) (fun _ => True) (fun _ => some (ar q1)) (fun _ => []) := by
  refine ct_A "MatFlip$Player" RX11 [(0, ar mo), (1, ai p)] (by decide) rfl (Nat.le_of_ble_eq_true rfl) rfl (fun x hgS hro hret => ?_)
  subst hgS
  have r0 := hro _ (mem_at 0 rfl)
  have r1 := hro _ (mem_at 1 rfl)
  have r2 := hro _ (mem_at 2 rfl)
  obtain ⟨⟨hg0, hg1, hg2, hg3, hg4, hg5, hg6, hg7⟩, hSp, hSh, hSs, hSb, hSt, hSw⟩ := id hS
  show V x cX11_find RX11 2 (rmU 1 22 0 0) [] 0 [(0, ar mo), (1, ai p)] [] 0 0
  refine v_iload_n (pc := 0) 1 rfl dX11_find_0 ?_
  refine v_iconst (pc := 1) dX11_find_1 ?_
  refine v_aload_n (pc := 2) 0 rfl dX11_find_2 ?_
  refine v_get (pc := 3) (v := ar nw) 0 (Or.inl r0) fl_11_12_11 rfl dX11_find_3 ?_
  refine v_get (pc := 6) (v := ai (f 0)) 9 (Or.inl r1) fl_11_71_10 rfl dX11_find_6 ?_
  refine v_iconst (pc := 9) dX11_find_9 ?_
  refine v_isub (pc := 10) dX11_find_10 ?_
  refine v_callS (pc := 11) [] [] [] (As := [ai p, ai 0, ai ((f 0) - 1)]) (rest := []) (c_X11_isOut p 0 ((f 0) - 1) (by first | omega | assumption) (by first | omega | assumption) (by first | omega | assumption)) wl_X11_41 ws_X11_isOut wk_X11_isOut wz_X11 md_X11_isOut rfl (Nat.le_of_ble_eq_true rfl) ⟨Nat.le_of_ble_eq_true rfl, Nat.le_of_ble_eq_true rfl, Nat.le_of_ble_eq_true rfl, Nat.le_of_ble_eq_true rfl⟩ rfl rfl rfl rfl (by decide) ro_nil dX11_find_11 (fun u hu => ?_)
  show V x cX11_find RX11 2 (rmU 1 22 0 0) [] 14 [(0, ar mo), (1, ai p)] [ai (if p < 0 ∨ ((f 0) - 1) < p then 1 else 0)] 0 0
  refine v_ifb_eq (pc := 14) 21 dX11_find_14 (by decide) (fun c_1 => ?_) (fun c_1 => ?_)
  · skip
    refine v_aload_n (pc := 21) 0 rfl dX11_find_21 ?_
    refine v_get (pc := 22) (v := ar nw) 0 (Or.inl r0) fl_11_12_11 rfl dX11_find_22 ?_
    refine v_get (pc := 25) (v := ar pls) 0 (Or.inl r1) fl_11_95_10 rfl dX11_find_25 ?_
    refine v_iload_n (pc := 28) 1 rfl dX11_find_28 ?_
    refine v_aald (pc := 29) (by decide) (Or.inl r2) (by omega) (by omega) (by decide) dX11_find_29 ?_
    refine v_eqa (o2 := some q1) (hpv) ?_
    exact hret () _ _ _ _ _ _ trivial (congrArg (fun z => some (aq z)) (by rfl)) rfl (Nat.le_of_ble_eq_true rfl) (Nat.le_of_ble_eq_true rfl) dX11_find_30
  · skip
    exfalso; omega
set_option maxHeartbeats 4000000 in
set_option maxRecDepth 100000 in
theorem c_X11_find_n {gS : sG} (mo : Nat) (kw : Nat) (pi : Nat) (ta : Nat) (ms : Nat) (pt : Nat) (po : Nat) (hi : Int) (nw : Nat) (pls : Nat) (ins : Nat) (tap : Nat) (e3 : Nat) (e4 : Nat) (e5 : Nat) (e6 : Nat) (e7 : Nat) (e8 : Nat) (bar : Nat) (pv : Int → Option Nat) (f : Int → Int) (p : Int) (hS : SOK f) (hp : ¬ (0 ≤ p ∧ p ≤ f 0 - 1)) (hb : -2147483648 ≤ p ∧ p < 2147483648) : Ct gS (S := Unit) yX11_find cX11_find 2 (some (.object "MatFlip$Player")) 1 22 0 0 [ar mo, ai p] [] (fun q => q ∈ ([(mo, co 11 [ar nw, ar kw, ar pi, ar ta, ar ms, ar pt, ar po, ai hi]), (nw, co 10 [ar pls, ar ins, ar tap, ar e3, ar e4, ar e5, ar e6, ar e7, ar e8, ai (f 0), ai (f 1), ai (f 4), ai (f 2), ai (f 3), ai (f 6), ar bar]), (pls, cq 3 6 pv)] : aW)) (fun _ => True) (fun _ => some (an)) (fun _ => []) := by
  refine ct_A "MatFlip$Player" RX11 [(0, ar mo), (1, ai p)] (by decide) rfl (Nat.le_of_ble_eq_true rfl) rfl (fun x hgS hro hret => ?_)
  subst hgS
  have r0 := hro _ (mem_at 0 rfl)
  have r1 := hro _ (mem_at 1 rfl)
  have r2 := hro _ (mem_at 2 rfl)
  obtain ⟨⟨hg0, hg1, hg2, hg3, hg4, hg5, hg6, hg7⟩, hSp, hSh, hSs, hSb, hSt, hSw⟩ := id hS
  show V x cX11_find RX11 2 (rmU 1 22 0 0) [] 0 [(0, ar mo), (1, ai p)] [] 0 0
  refine v_iload_n (pc := 0) 1 rfl dX11_find_0 ?_
  refine v_iconst (pc := 1) dX11_find_1 ?_
  refine v_aload_n (pc := 2) 0 rfl dX11_find_2 ?_
  refine v_get (pc := 3) (v := ar nw) 0 (Or.inl r0) fl_11_12_11 rfl dX11_find_3 ?_
  refine v_get (pc := 6) (v := ai (f 0)) 9 (Or.inl r1) fl_11_71_10 rfl dX11_find_6 ?_
  refine v_iconst (pc := 9) dX11_find_9 ?_
  refine v_isub (pc := 10) dX11_find_10 ?_
  refine v_callS (pc := 11) [] [] [] (As := [ai p, ai 0, ai ((f 0) - 1)]) (rest := []) (c_X11_isOut p 0 ((f 0) - 1) (by first | omega | assumption) (by first | omega | assumption) (by first | omega | assumption)) wl_X11_41 ws_X11_isOut wk_X11_isOut wz_X11 md_X11_isOut rfl (Nat.le_of_ble_eq_true rfl) ⟨Nat.le_of_ble_eq_true rfl, Nat.le_of_ble_eq_true rfl, Nat.le_of_ble_eq_true rfl, Nat.le_of_ble_eq_true rfl⟩ rfl rfl rfl rfl (by decide) ro_nil dX11_find_11 (fun u hu => ?_)
  show V x cX11_find RX11 2 (rmU 1 22 0 0) [] 14 [(0, ar mo), (1, ai p)] [ai (if p < 0 ∨ ((f 0) - 1) < p then 1 else 0)] 0 0
  refine v_ifb_eq (pc := 14) 21 dX11_find_14 (by decide) (fun c_1 => ?_) (fun c_1 => ?_)
  · skip
    exfalso; omega
  · skip
    refine v_null (pc := 17) dX11_find_17 ?_
    refine v_goto (pc := 18) 30 dX11_find_18 (by decide) ?_
    exact hret () _ _ _ _ _ _ trivial (congrArg (fun z => some (aq z)) (by rfl)) rfl (Nat.le_of_ble_eq_true rfl) (Nat.le_of_ble_eq_true rfl) dX11_find_30
set_option maxHeartbeats 4000000 in
set_option maxRecDepth 100000 in
theorem c_X11_lay {gS : sG} (mo : Nat) (kw : Nat) (pi : Nat) (ta : Nat) (ms : Nat) (pt : Nat) (po : Nat) (hi : Int) (nw : Nat) (pls : Nat) (ins : Nat) (tap : Nat) (e3 : Nat) (e4 : Nat) (e5 : Nat) (e6 : Nat) (e7 : Nat) (e8 : Nat) (bar : Nat) (fa : Nat) (m : Nat → Int) (fa0 : Int → Int) (iv : Int → Option Nat) (hq : Nat) (ns : Int) (us : Int) (sla : Nat) (ena : Nat) (cda : Nat) (cd : Int → Int) (sl : Int → Int) (en : Int → Int) (q1 : Nat) (t1 : Nat) (f : Int → Int) (p : Int) (n : Int) (hS : SOK f) (hI : inC f iv bar hq ns us sl en cd) (hp : 0 ≤ p ∧ p < 6) (hn : 0 ≤ n ∧ n ≤ 99) : Ct gS (S := Int → Int) yX11_lay cX11_lay 3 none 4 103 0 0 [ar mo, ar q1, ai n] [(pi, co 4 (pO fa m)), (fa, cn 0 6 fa0)] (fun q => q ∈ ([(mo, co 11 [ar nw, ar kw, ar pi, ar ta, ar ms, ar pt, ar po, ai hi]), (nw, co 10 [ar pls, ar ins, ar tap, ar e3, ar e4, ar e5, ar e6, ar e7, ar e8, ai (f 0), ai (f 1), ai (f 4), ai (f 2), ai (f 3), ai (f 6), ar bar]), (ins, cq 2 5 iv), (hq, co 3 [ai (kWide f), ai (kPay f), ai ns, ai us, ar sla, ar ena, ar cda]), (cda, cn 0 100 cd), (sla, cn 0 10 sl), (ena, cn 0 10 en), (q1, zpO ta f p t1), tqC ta f p q1 t1] : aW)) (fun u => True) (fun u => none) (fun u => [(pi, co 4 (pO fa (pMf f p n))), (fa, cn 0 6 u)]) := by
  refine ct_V RX11 [(0, ar mo), (1, ar q1), (2, ai n)] (by decide) rfl (Nat.le_of_ble_eq_true rfl) rfl (fun x hgS hnm hro hret => ?_)
  subst hgS
  have r0 := hro _ (mem_at 0 rfl)
  have r1 := hro _ (mem_at 1 rfl)
  have r2 := hro _ (mem_at 2 rfl)
  have r3 := hro _ (mem_at 3 rfl)
  have r4 := hro _ (mem_at 4 rfl)
  have r5 := hro _ (mem_at 5 rfl)
  have r6 := hro _ (mem_at 6 rfl)
  have r7 := hro _ (mem_at 7 rfl)
  have r8 := hro _ (mem_at 8 rfl)
  obtain ⟨⟨hg0, hg1, hg2, hg3, hg4, hg5, hg6, hg7⟩, hSp, hSh, hSs, hSb, hSt, hSw⟩ := id hS
  obtain ⟨hpp, hf1, hf2, hf3, hf4, hf5, hf6, hf7, hf8⟩ := hSp p hp.1 hp.2
  show V x cX11_lay RX11 3 (rmU 4 103 0 0) [(pi, co 4 (pO fa m)), (fa, cn 0 6 fa0)] 0 [(0, ar mo), (1, ar q1), (2, ai n)] [] 0 0
  refine v_aload_n (pc := 0) 0 rfl dX11_lay_0 ?_
  refine v_get (pc := 1) (v := ar pi) 2 (Or.inl r0) fl_11_24_11 rfl dX11_lay_1 ?_
  refine v_aload_n (pc := 4) 0 rfl dX11_lay_4 ?_
  refine v_get (pc := 5) (v := ar nw) 0 (Or.inl r0) fl_11_12_11 rfl dX11_lay_5 ?_
  refine v_aload_n (pc := 8) 1 rfl dX11_lay_8 ?_
  refine v_iload_n (pc := 9) 2 rfl dX11_lay_9 ?_
  refine v_aload_n (pc := 10) 1 rfl dX11_lay_10 ?_
  refine v_get (pc := 11) (v := ai (f (19 + p))) 4 (Or.inl r7) (flP_11_86 (by omega)) rfl dX11_lay_11 ?_
  refine v_aload_n (pc := 14) 1 rfl dX11_lay_14 ?_
  refine v_get (pc := 15) (v := ai (f (31 + p))) 6 (Or.inl r7) (flP_11_106 (by omega)) rfl dX11_lay_15 ?_
  refine v_callV (pc := 18) [0, 1] [] [] (As := [ar nw, ar q1, ai n, ai (f (19 + p)), ai (f (31 + p))]) (rest := []) (c_X4_layF pi fa m fa0 nw pls ins tap e3 e4 e5 e6 e7 e8 bar iv hq ns us sla ena cda cd sl en ta q1 t1 f p n (f (19 + p)) (f (31 + p)) (by assumption) (by assumption) (by first | omega | assumption) (by first | omega | assumption) (by first | omega | assumption) (by first | omega | assumption)) (c := 4) rfl (Or.inr ⟨0, rfl⟩) wl_X11_290 wi_X4_layFor wv_X4_X4_layFor_X4_layFor wk_X4_layFor wz_X4 md_X4_layFor rfl (Nat.le_of_ble_eq_true rfl) ⟨Nat.le_of_ble_eq_true rfl, Nat.le_of_ble_eq_true rfl, Nat.le_of_ble_eq_true rfl, Nat.le_of_ble_eq_true rfl⟩ rfl rfl rfl rfl (by decide) (ro_cons (Or.inl r1) (ro_cons (Or.inl r2) (ro_cons (Or.inl r3) (ro_cons (Or.inl r4) (ro_cons (Or.inl r5) (ro_cons (Or.inl r6) (ro_cons (Or.inl r7) (ro_cons (Or.inl r8) ro_nil)))))))) dX11_lay_18 (fun u hu => ?_)
  obtain ⟨fa2_1, rfl⟩ : ∃ z, z = u := ⟨_, rfl⟩
  show V x cX11_lay RX11 3 (rmU 4 103 0 0) [(pi, co 4 (pO fa (pMf (fS f p (f (19 + p)) (f (31 + p))) p n))), (fa, cn 0 6 fa2_1)] 21 [(0, ar mo), (1, ar q1), (2, ai n)] [] 0 0
  refine v_ws (ws2 := [(pi, co 4 (pO fa (pMf f p n))), (fa, cn 0 6 fa2_1)]) (by rw [fS_id]) ?_
  exact hret fa2_1 _ _ _ _ _ trivial rfl rfl (Nat.le_of_ble_eq_true rfl) (Nat.le_of_ble_eq_true rfl) dX11_lay_21
set_option maxHeartbeats 4000000 in
set_option maxRecDepth 100000 in
theorem c_X11_mostBy {gS : sG} (mo : Nat) (kw : Nat) (pi : Nat) (ta : Nat) (ms : Nat) (pt : Nat) (po : Nat) (hi : Int) (nw : Nat) (pls : Nat) (ins : Nat) (tap : Nat) (e3 : Nat) (e4 : Nat) (e5 : Nat) (e6 : Nat) (e7 : Nat) (e8 : Nat) (bar : Nat) (fa : Nat) (m : Nat → Int) (fa0 : Int → Int) (iv : Int → Option Nat) (hq : Nat) (ns : Int) (us : Int) (sla : Nat) (ena : Nat) (cda : Nat) (cd : Int → Int) (sl : Int → Int) (en : Int → Int) (q1 : Nat) (t1 : Nat) (f : Int → Int) (p : Int) (g : Int) (hS : SOK f) (hI : inC f iv bar hq ns us sl en cd) (hp : 0 ≤ p ∧ p < 6) (hg : 0 ≤ g ∧ g ≤ 9) : Ct gS (S := (Nat → Int) × (Int → Int)) yX11_mostBy cX11_mostBy 4 (some .int) 4 103 0 0 [ar mo, ar q1, ai g] [(pi, co 4 (pO fa m)), (fa, cn 0 6 fa0)] (fun q => q ∈ ([(mo, co 11 [ar nw, ar kw, ar pi, ar ta, ar ms, ar pt, ar po, ai hi]), (nw, co 10 [ar pls, ar ins, ar tap, ar e3, ar e4, ar e5, ar e6, ar e7, ar e8, ai (f 0), ai (f 1), ai (f 4), ai (f 2), ai (f 3), ai (f 6), ar bar]), (ins, cq 2 5 iv), (hq, co 3 [ai (kWide f), ai (kPay f), ai ns, ai us, ar sla, ar ena, ar cda]), (cda, cn 0 100 cd), (sla, cn 0 10 sl), (ena, cn 0 10 en), (q1, zpO ta f p t1), tqC ta f p q1 t1] : aW)) (fun u => True) (fun u => some (ai (mst (fBest (fS f p (f (19 + p)) g) p) 99))) (fun u => [(pi, co 4 (pO fa u.1)), (fa, cn 0 6 u.2)]) := by
  refine ct_I RX11 [(0, ar mo), (1, ar q1), (2, ai g)] (by decide) rfl (Nat.le_of_ble_eq_true rfl) rfl (fun x hgS hro hret => ?_)
  subst hgS
  have r0 := hro _ (mem_at 0 rfl)
  have r1 := hro _ (mem_at 1 rfl)
  have r2 := hro _ (mem_at 2 rfl)
  have r3 := hro _ (mem_at 3 rfl)
  have r4 := hro _ (mem_at 4 rfl)
  have r5 := hro _ (mem_at 5 rfl)
  have r6 := hro _ (mem_at 6 rfl)
  have r7 := hro _ (mem_at 7 rfl)
  have r8 := hro _ (mem_at 8 rfl)
  obtain ⟨⟨hg0, hg1, hg2, hg3, hg4, hg5, hg6, hg7⟩, hSp, hSh, hSs, hSb, hSt, hSw⟩ := id hS
  obtain ⟨hpp, hf1, hf2, hf3, hf4, hf5, hf6, hf7, hf8⟩ := hSp p hp.1 hp.2
  have hS2 := SOK_S (s := f (19 + p)) (g := g) hS hp (by omega) (by omega)
  show V x cX11_mostBy RX11 4 (rmU 4 103 0 0) [(pi, co 4 (pO fa m)), (fa, cn 0 6 fa0)] 0 [(0, ar mo), (1, ar q1), (2, ai g)] [] 0 0
  refine v_bipush (pc := 0) dX11_mostBy_0 (by decide) ?_
  refine v_istore_n (pc := 2) (L2 := [(3, ai 99), (0, ar mo), (1, ar q1), (2, ai g)]) rfl (by decide) dX11_mostBy_2 ?_
  have lp3 : ∀ (mm : Nat) (n : Int) (m1 : Nat → Int) (fa1 : Int → Int), (n).toNat = mm → (0 ≤ n ∧ n ≤ 99) → (mst (fBest (fS f p (f (19 + p)) g) p) 99 = mst (fBest (fS f p (f (19 + p)) g) p) n.toNat) → V x cX11_mostBy RX11 4 (rmU 4 103 0 0) [(pi, co 4 (pO fa m1)), (fa, cn 0 6 fa1)] 3 [(0, ar mo), (1, ar q1), (2, ai g), (3, ai n)] [] 0 0 := by
    intro mm
    induction mm using Nat.strongRecOn with
    | _ mm ih =>
      intro n m1 fa1 hmm hn hmst
      refine v_iload_n (pc := 3) 3 rfl dX11_mostBy_3 ?_
      refine v_iconst (pc := 4) dX11_mostBy_4 ?_
      refine v_icmp_lt (pc := 5) 48 dX11_mostBy_5 (by decide) (by unfold iB; omega) (by unfold iB; omega) (fun c_1 => ?_) (fun c_1 => ?_)
      · skip
        refine v_iconst (pc := 48) dX11_mostBy_48 ?_
        exact hret (m1, fa1) _ _ _ _ _ _ trivial (congrArg (fun z => some (ai z)) (by rw [hmst, show n.toNat = 0 by omega]; rfl)) rfl (Nat.le_of_ble_eq_true rfl) (Nat.le_of_ble_eq_true rfl) dX11_mostBy_49
      · skip
        refine v_aload_n (pc := 8) 0 rfl dX11_mostBy_8 ?_
        refine v_get (pc := 9) (v := ar pi) 2 (Or.inl r0) fl_11_24_11 rfl dX11_mostBy_9 ?_
        refine v_aload_n (pc := 12) 0 rfl dX11_mostBy_12 ?_
        refine v_get (pc := 13) (v := ar nw) 0 (Or.inl r0) fl_11_12_11 rfl dX11_mostBy_13 ?_
        refine v_aload_n (pc := 16) 1 rfl dX11_mostBy_16 ?_
        refine v_iload_n (pc := 17) 3 rfl dX11_mostBy_17 ?_
        refine v_aload_n (pc := 18) 1 rfl dX11_mostBy_18 ?_
        refine v_get (pc := 19) (v := ai (f (19 + p))) 4 (Or.inl r7) (flP_11_86 (by omega)) rfl dX11_mostBy_19 ?_
        refine v_iload_n (pc := 22) 2 rfl dX11_mostBy_22 ?_
        refine v_callV (pc := 23) [0, 1] [] [] (As := [ar nw, ar q1, ai n, ai (f (19 + p)), ai g]) (rest := []) (c_X4_layF pi fa m1 fa1 nw pls ins tap e3 e4 e5 e6 e7 e8 bar iv hq ns us sla ena cda cd sl en ta q1 t1 f p n (f (19 + p)) g (by assumption) (by assumption) (by first | omega | assumption) (by first | omega | assumption) (by first | omega | assumption) (by first | omega | assumption)) (c := 4) rfl (Or.inr ⟨0, rfl⟩) wl_X11_290 wi_X4_layFor wv_X4_X4_layFor_X4_layFor wk_X4_layFor wz_X4 md_X4_layFor rfl (Nat.le_of_ble_eq_true rfl) ⟨Nat.le_of_ble_eq_true rfl, Nat.le_of_ble_eq_true rfl, Nat.le_of_ble_eq_true rfl, Nat.le_of_ble_eq_true rfl⟩ rfl rfl rfl rfl (by decide) (ro_cons (Or.inl r1) (ro_cons (Or.inl r2) (ro_cons (Or.inl r3) (ro_cons (Or.inl r4) (ro_cons (Or.inl r5) (ro_cons (Or.inl r6) (ro_cons (Or.inl r7) (ro_cons (Or.inl r8) ro_nil)))))))) dX11_mostBy_23 (fun u hu => ?_)
        obtain ⟨fa2_2, rfl⟩ : ∃ z, z = u := ⟨_, rfl⟩
        show V x cX11_mostBy RX11 4 (rmU 4 103 0 0) [(pi, co 4 (pO fa (pMf (fS f p (f (19 + p)) g) p n))), (fa, cn 0 6 fa2_2)] 26 [(0, ar mo), (1, ar q1), (2, ai g), (3, ai n)] [] 0 0
        refine v_iconst (pc := 26) dX11_mostBy_26 ?_
        refine v_aload_n (pc := 27) 0 rfl dX11_mostBy_27 ?_
        refine v_get (pc := 28) (v := ar pi) 2 (Or.inl r0) fl_11_24_11 rfl dX11_mostBy_28 ?_
        refine v_callV (pc := 31) [] [0, 1] [(pi, co 4 (pO fa (pMf (fS f p (f (19 + p)) g) p n))), (fa, cn 0 6 fa2_2)] (As := []) (rest := [ai 2]) (c_F_bestOdds pi fa (fS f p (f (19 + p)) g) p n (by exact hS2) (by first | omega | assumption) (by first | omega | assumption)) (c := 4) rfl (Or.inr ⟨0, rfl⟩) wl_X11_184 wi_X4_bestOdds wv_X4_X4_bestOdds_X4_bestOdds wk_X4_bestOdds wz_X4 md_X4_bestOdds rfl (Nat.le_of_ble_eq_true rfl) ⟨Nat.le_of_ble_eq_true rfl, Nat.le_of_ble_eq_true rfl, Nat.le_of_ble_eq_true rfl, Nat.le_of_ble_eq_true rfl⟩ rfl rfl rfl rfl (by decide) (ro_cons (Or.inr ⟨0, rfl, by decide⟩) ro_nil) dX11_mostBy_31 (fun u hu => ?_)
        show V x cX11_mostBy RX11 4 (rmU 4 103 0 0) [(pi, co 4 (pO fa (pMf (fS f p (f (19 + p)) g) p n))), (fa, cn 0 6 fa2_2)] 34 [(0, ar mo), (1, ar q1), (2, ai g), (3, ai n)] [ai (fBest (fS f p (f (19 + p)) g) p n), ai 2] 0 0
        have hbb := fBest_b (f := fS f p (f (19 + p)) g) (p := p) (n := n)
        have hms := mst_succ (fBest (fS f p (f (19 + p)) g) p) (n - 1).toNat
        rw [show (n - 1).toNat + 1 = n.toNat by omega, show (((n - 1).toNat : Nat) : Int) + 1 = n by omega] at hms
        refine v_imul (pc := 34) dX11_mostBy_34 ?_
        refine v_bipush (pc := 35) dX11_mostBy_35 (by decide) ?_
        refine v_icmp_lt (pc := 37) 42 dX11_mostBy_37 (by decide) (by unfold iB; omega) (by unfold iB; omega) (fun c_3 => ?_) (fun c_3 => ?_)
        · skip
          refine v_iinc (pc := 42) 3 (L2 := [(3, ai (n + (-1))), (0, ar mo), (1, ar q1), (2, ai g)]) rfl rfl (by decide) dX11_mostBy_42 ?_
          refine v_goto (pc := 45) 3 dX11_mostBy_45 (by decide) ?_
          refine v_sub (L2 := [(0, ar mo), (1, ar q1), (2, ai g), (3, ai (n + (-1)))]) [1, 2, 3, 0] rfl ?_
          exact ih _ (by omega) (n + (-1)) (pMf (fS f p (f (19 + p)) g) p n) fa2_2 rfl (by omega) (by rw [hmst, hms, if_neg (by omega), show (n + -1).toNat = (n - 1).toNat by omega])
        · skip
          refine v_iload_n (pc := 40) 3 rfl dX11_mostBy_40 ?_
          exact hret ((pMf (fS f p (f (19 + p)) g) p n), fa2_2) _ _ _ _ _ _ trivial (congrArg (fun z => some (ai z)) (by rw [hmst, hms, if_pos (by omega)])) rfl (Nat.le_of_ble_eq_true rfl) (Nat.le_of_ble_eq_true rfl) dX11_mostBy_41
  refine v_sub (L2 := [(0, ar mo), (1, ar q1), (2, ai g), (3, ai 99)]) [1, 2, 3, 0] rfl ?_
  exact lp3 _ 99 m fa0 rfl (by omega) (by rfl)
set_option maxHeartbeats 4000000 in
set_option maxRecDepth 100000 in
theorem c_X11_oneMoreThan {gS : sG} (q1 : Nat) (t1 : Nat) (ta : Nat) (f : Int → Int) (p : Int) (hS : SOK f) (hp : 0 ≤ p ∧ p < 6) : Ct gS (S := Unit) yX11_oneMoreThan cX11_oneMoreThan 1 (some .int) 1 32 0 0 [ar q1] [] (fun q => q ∈ ([(q1, zpO ta f p t1)] : aW)) (fun _ => True) (fun _ => some (ai (oneM f p))) (fun _ => []) := by
  refine ct_I RX11 [(0, ar q1)] (by decide) rfl (Nat.le_of_ble_eq_true rfl) rfl (fun x hgS hro hret => ?_)
  subst hgS
  have r0 := hro _ (mem_at 0 rfl)
  obtain ⟨⟨hg0, hg1, hg2, hg3, hg4, hg5, hg6, hg7⟩, hSp, hSh, hSs, hSb, hSt, hSw⟩ := id hS
  obtain ⟨hpp, hf1, hf2, hf3, hf4, hf5, hf6, hf7, hf8⟩ := hSp p hp.1 hp.2
  show V x cX11_oneMoreThan RX11 1 (rmU 1 32 0 0) [] 0 [(0, ar q1)] [] 0 0
  refine v_bipush (pc := 0) dX11_oneMoreThan_0 (by decide) ?_
  refine v_aload_n (pc := 2) 0 rfl dX11_oneMoreThan_2 ?_
  refine v_get (pc := 3) (v := ai (f (37 + p))) 7 (Or.inl r0) (flP_11_109 (by omega)) rfl dX11_oneMoreThan_3 ?_
  refine v_iconst (pc := 6) dX11_oneMoreThan_6 ?_
  refine v_iadd (pc := 7) dX11_oneMoreThan_7 ?_
  refine v_callS (pc := 8) [] [] [] (As := [ai 99, ai ((f (37 + p)) + 1)]) (rest := []) (c_J9_min_7cf53 99 ((f (37 + p)) + 1) (by first | omega | assumption) (by first | omega | assumption)) wl_X11_196 ws_J9_min_7cf53 wk_J9_min_7cf53 wz_J9 md_J9_min_7cf53 rfl (Nat.le_of_ble_eq_true rfl) ⟨Nat.le_of_ble_eq_true rfl, Nat.le_of_ble_eq_true rfl, Nat.le_of_ble_eq_true rfl, Nat.le_of_ble_eq_true rfl⟩ rfl rfl rfl rfl (by decide) ro_nil dX11_oneMoreThan_8 (fun u hu => ?_)
  show V x cX11_oneMoreThan RX11 1 (rmU 1 32 0 0) [] 11 [(0, ar q1)] [ai (if ((f (37 + p)) + 1) < 99 then ((f (37 + p)) + 1) else 99)] 0 0
  exact hret () _ _ _ _ _ _ trivial (congrArg (fun z => some (ai z)) (by unfold oneM; split <;> omega)) rfl (Nat.le_of_ble_eq_true rfl) (Nat.le_of_ble_eq_true rfl) dX11_oneMoreThan_11
