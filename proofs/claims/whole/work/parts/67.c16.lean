theorem flP_11_80 {kd : Int} (h : 0 ≤ kd ∧ kd ≤ 6) : FL RX11 80 (kC kd) 2 := by
  rcases (show kd = 0 ∨ kd = 1 ∨ kd = 2 ∨ kd = 3 ∨ kd = 4 ∨ kd = 5 ∨ kd = 6 by omega) with rfl | rfl | rfl | rfl | rfl | rfl | rfl
  · exact fl_11_80_5
  · exact fl_11_80_8
  · exact fl_11_80_0
  · exact fl_11_80_7
  · exact fl_11_80_1
  · exact fl_11_80_2
  · exact fl_11_80_9
set_option maxHeartbeats 4000000 in
set_option maxRecDepth 100000 in
theorem c_X11_drawsOfSeen {gS : sG} (mo : Nat) (kw : Nat) (pi : Nat) (ta : Nat) (ms : Nat) (pt : Nat) (po : Nat) (hi : Int) (nw : Nat) (pls : Nat) (ins : Nat) (tap : Nat) (e3 : Nat) (e4 : Nat) (e5 : Nat) (e6 : Nat) (e7 : Nat) (e8 : Nat) (bar : Nat) (fa : Nat) (m : Nat → Int) (fa0 : Int → Int) (iv : Int → Option Nat) (hq : Nat) (ns : Int) (us : Int) (sla : Nat) (ena : Nat) (cda : Nat) (cd : Int → Int) (sl : Int → Int) (en : Int → Int) (q1 : Nat) (t1 : Nat) (f : Int → Int) (sp : Int → Int) (sm : Int → Int) (sf : Int → Int) (sc : Int → Int) (i : Int) (p : Int) (s : Int) (hS : SOK f) (hI : inC f iv bar hq ns us sl en cd) (hp : 0 ≤ p ∧ p < 6) (hi2 : 0 ≤ i ∧ i < f 2) (hs1 : 0 ≤ s ∧ s ≤ 20) (hsp : ∀ j : Int, 0 ≤ j → j < 8 → sp j = f (73 + j)) (hsm : ∀ j : Int, 0 ≤ j → j < 8 → sm j = f (81 + j)) (hsf : ∀ j : Int, 0 ≤ j → j < 8 → sf j = f (89 + j)) (hsc : ∀ j : Int, 0 ≤ j → j < 8 → sc j = f (97 + j)) : Ct gS (S := (Nat → Int) × (Int → Int)) yX11_drawsOfSeen cX11_drawsOfSeen 4 (some .int) 4 103 0 0 [ar mo, ai i, ar q1, ai s] [(pi, co 4 (pO fa m)), (fa, cn 0 6 fa0)] (fun q => q ∈ ([(mo, co 11 [ar nw, ar kw, ar pi, ar ta, ar ms, ar pt, ar po, ai hi]), (nw, co 10 [ar pls, ar ins, ar tap, ar e3, ar e4, ar e5, ar e6, ar e7, ar e8, ai (f 0), ai (f 1), ai (f 4), ai (f 2), ai (f 3), ai (f 6), ar bar]), (ins, cq 2 5 iv), (hq, co 3 [ai (kWide f), ai (kPay f), ai ns, ai us, ar sla, ar ena, ar cda]), (cda, cn 0 100 cd), (sla, cn 0 10 sl), (ena, cn 0 10 en), (e3, cn 0 8 sp), (e4, cn 0 8 sm), (e5, cn 0 8 sf), (e6, cn 0 8 sc), (q1, zpO ta f p t1), tqC ta f p q1 t1] : aW)) (fun u => True) (fun u => some (ai (bts (fun d => decide (fCat (fS f p s (f (31 + p))) p (f (81 + i)) (f (89 + i)) (d : Int) (kOp (fS f p s (f (31 + p))) p (f (81 + i)) 0) = f (97 + i))) 10))) (fun u => [(pi, co 4 (pO fa u.1)), (fa, cn 0 6 u.2)]) := by
  refine ct_I RX11 [(0, ar mo), (1, ai i), (2, ar q1), (3, ai s)] (by decide) rfl (Nat.le_of_ble_eq_true rfl) rfl (fun x hgS hro hret => ?_)
  subst hgS
  have r0 := hro _ (mem_at 0 rfl)
  have r1 := hro _ (mem_at 1 rfl)
  have r2 := hro _ (mem_at 2 rfl)
  have r3 := hro _ (mem_at 3 rfl)
  have r4 := hro _ (mem_at 4 rfl)
  have r5 := hro _ (mem_at 5 rfl)
  have r6 := hro _ (mem_at 6 rfl)
  have r7 := hro _ (mem_at 7 rfl)
  have r8 := hro _ (mem_at 8 rfl)
  have r9 := hro _ (mem_at 9 rfl)
  have r10 := hro _ (mem_at 10 rfl)
  have r11 := hro _ (mem_at 11 rfl)
  have r12 := hro _ (mem_at 12 rfl)
  obtain ⟨⟨hg0, hg1, hg2, hg3, hg4, hg5, hg6, hg7⟩, hSp, hSh, hSs, hSb, hSt, hSw⟩ := id hS
  obtain ⟨hpp, hf1, hf2, hf3, hf4, hf5, hf6, hf7, hf8⟩ := hSp p hp.1 hp.2
  obtain ⟨hs11, hs12, hs13, hs14⟩ := hSs i hi2.1 hi2.2
  have hS2 := SOK_S (s := s) (g := f (31 + p)) hS hp hs1 (by omega)
  show V x cX11_drawsOfSeen RX11 4 (rmU 4 103 0 0) [(pi, co 4 (pO fa m)), (fa, cn 0 6 fa0)] 0 [(0, ar mo), (1, ai i), (2, ar q1), (3, ai s)] [] 0 0
  refine v_aload_n (pc := 0) 0 rfl dX11_drawsOfSeen_0 ?_
  refine v_get (pc := 1) (v := ar pi) 2 (Or.inl r0) fl_11_24_11 rfl dX11_drawsOfSeen_1 ?_
  refine v_aload_n (pc := 4) 0 rfl dX11_drawsOfSeen_4 ?_
  refine v_get (pc := 5) (v := ar nw) 0 (Or.inl r0) fl_11_12_11 rfl dX11_drawsOfSeen_5 ?_
  refine v_aload_n (pc := 8) 2 rfl dX11_drawsOfSeen_8 ?_
  refine v_aload_n (pc := 9) 0 rfl dX11_drawsOfSeen_9 ?_
  refine v_get (pc := 10) (v := ar nw) 0 (Or.inl r0) fl_11_12_11 rfl dX11_drawsOfSeen_10 ?_
  refine v_get (pc := 13) (v := ar e4) 4 (Or.inl r1) fl_11_244_10 rfl dX11_drawsOfSeen_13 ?_
  refine v_iload_n (pc := 16) 1 rfl dX11_drawsOfSeen_16 ?_
  refine v_iald (pc := 17) (Or.inl r8) (by omega) (by omega) (by decide) dX11_drawsOfSeen_17 ?_
  refine v_eqi (y := (f (81 + i))) (hsm i (by omega) (by omega)) ?_
  refine v_iload_n (pc := 18) 3 rfl dX11_drawsOfSeen_18 ?_
  refine v_aload_n (pc := 19) 2 rfl dX11_drawsOfSeen_19 ?_
  refine v_get (pc := 20) (v := ai (f (31 + p))) 6 (Or.inl r11) (flP_11_106 (by omega)) rfl dX11_drawsOfSeen_20 ?_
  refine v_callV (pc := 23) [0, 1] [] [] (As := [ar nw, ar q1, ai (f (81 + i)), ai s, ai (f (31 + p))]) (rest := []) (c_X4_layF pi fa m fa0 nw pls ins tap e3 e4 e5 e6 e7 e8 bar iv hq ns us sla ena cda cd sl en ta q1 t1 f p (f (81 + i)) s (f (31 + p)) (by assumption) (by assumption) (by first | omega | assumption) (by first | omega | assumption) (by first | omega | assumption) (by first | omega | assumption)) (c := 4) rfl (Or.inr ⟨0, rfl⟩) wl_X11_290 wi_X4_layFor wv_X4_X4_layFor_X4_layFor wk_X4_layFor wz_X4 md_X4_layFor rfl (Nat.le_of_ble_eq_true rfl) ⟨Nat.le_of_ble_eq_true rfl, Nat.le_of_ble_eq_true rfl, Nat.le_of_ble_eq_true rfl, Nat.le_of_ble_eq_true rfl⟩ rfl rfl rfl rfl (by decide) (ro_cons (Or.inl r1) (ro_cons (Or.inl r2) (ro_cons (Or.inl r3) (ro_cons (Or.inl r4) (ro_cons (Or.inl r5) (ro_cons (Or.inl r6) (ro_cons (Or.inl r11) (ro_cons (Or.inl r12) ro_nil)))))))) dX11_drawsOfSeen_23 (fun u hu => ?_)
  obtain ⟨fa2_1, rfl⟩ : ∃ z, z = u := ⟨_, rfl⟩
  show V x cX11_drawsOfSeen RX11 4 (rmU 4 103 0 0) [(pi, co 4 (pO fa (pMf (fS f p s (f (31 + p))) p (f (81 + i))))), (fa, cn 0 6 fa2_1)] 26 [(0, ar mo), (1, ai i), (2, ar q1), (3, ai s)] [] 0 0
  refine v_aload_n (pc := 26) 0 rfl dX11_drawsOfSeen_26 ?_
  refine v_get (pc := 27) (v := ar pi) 2 (Or.inl r0) fl_11_24_11 rfl dX11_drawsOfSeen_27 ?_
  refine v_aload_n (pc := 30) 0 rfl dX11_drawsOfSeen_30 ?_
  refine v_get (pc := 31) (v := ar nw) 0 (Or.inl r0) fl_11_12_11 rfl dX11_drawsOfSeen_31 ?_
  refine v_get (pc := 34) (v := ar e5) 5 (Or.inl r1) fl_11_247_10 rfl dX11_drawsOfSeen_34 ?_
  refine v_iload_n (pc := 37) 1 rfl dX11_drawsOfSeen_37 ?_
  refine v_iald (pc := 38) (Or.inl r9) (by omega) (by omega) (by decide) dX11_drawsOfSeen_38 ?_
  refine v_eqi (y := (f (89 + i))) (hsf i (by omega) (by omega)) ?_
  refine v_aload_n (pc := 39) 0 rfl dX11_drawsOfSeen_39 ?_
  refine v_get (pc := 40) (v := ar nw) 0 (Or.inl r0) fl_11_12_11 rfl dX11_drawsOfSeen_40 ?_
  refine v_get (pc := 43) (v := ar e6) 6 (Or.inl r1) fl_11_250_10 rfl dX11_drawsOfSeen_43 ?_
  refine v_iload_n (pc := 46) 1 rfl dX11_drawsOfSeen_46 ?_
  refine v_iald (pc := 47) (Or.inl r10) (by omega) (by omega) (by decide) dX11_drawsOfSeen_47 ?_
  refine v_eqi (y := (f (97 + i))) (hsc i (by omega) (by omega)) ?_
  refine v_callV (pc := 48) [] [0, 1] [(pi, co 4 (pO fa (pMf (fS f p s (f (31 + p))) p (f (81 + i))))), (fa, cn 0 6 fa2_1)] (As := [ai (f (89 + i)), ai (f (97 + i))]) (rest := []) (c_F_drawsOf pi fa (fS f p s (f (31 + p))) p (f (81 + i)) (f (89 + i)) (f (97 + i)) (by exact hS2) (by first | omega | assumption) (by first | omega | assumption) (by first | omega | assumption) (by first | omega | assumption)) (c := 4) rfl (Or.inr ⟨0, rfl⟩) wl_X11_304 wi_X4_drawsOf wv_X4_X4_drawsOf_X4_drawsOf wk_X4_drawsOf wz_X4 md_X4_drawsOf rfl (Nat.le_of_ble_eq_true rfl) ⟨Nat.le_of_ble_eq_true rfl, Nat.le_of_ble_eq_true rfl, Nat.le_of_ble_eq_true rfl, Nat.le_of_ble_eq_true rfl⟩ rfl rfl rfl rfl (by decide) (ro_cons (Or.inr ⟨0, rfl, by decide⟩) ro_nil) dX11_drawsOfSeen_48 (fun u hu => ?_)
  show V x cX11_drawsOfSeen RX11 4 (rmU 4 103 0 0) [(pi, co 4 (pO fa (pMf (fS f p s (f (31 + p))) p (f (81 + i))))), (fa, cn 0 6 fa2_1)] 51 [(0, ar mo), (1, ai i), (2, ar q1), (3, ai s)] [ai (bts (fun z : Nat => decide (fCat (fS f p s (f (31 + p))) p (f (81 + i)) (f (89 + i)) (z : Int) (kOp (fS f p s (f (31 + p))) p (f (81 + i)) 0) = (f (97 + i)))) 10)] 0 0
  exact hret ((pMf (fS f p s (f (31 + p))) p (f (81 + i))), fa2_1) _ _ _ _ _ _ trivial (congrArg (fun z => some (ai z)) (by rfl)) rfl (Nat.le_of_ble_eq_true rfl) (Nat.le_of_ble_eq_true rfl) dX11_drawsOfSeen_51
set_option maxHeartbeats 4000000 in
set_option maxRecDepth 100000 in
theorem c_X11_can {gS : sG} (mo : Nat) (kw : Nat) (pi : Nat) (ta : Nat) (ms : Nat) (pt : Nat) (po : Nat) (hi : Int) (nw : Nat) (pls : Nat) (ins : Nat) (tap : Nat) (e3 : Nat) (e4 : Nat) (e5 : Nat) (e6 : Nat) (e7 : Nat) (e8 : Nat) (bar : Nat) (fa : Nat) (m : Nat → Int) (fa0 : Int → Int) (iv : Int → Option Nat) (hq : Nat) (ns : Int) (us : Int) (sla : Nat) (ena : Nat) (cda : Nat) (cd : Int → Int) (sl : Int → Int) (en : Int → Int) (pv : Int → Option Nat) (pl : Int → Nat) (tu : Int → Nat) (f : Int → Int) (sp : Int → Int) (sm : Int → Int) (sf : Int → Int) (sc : Int → Int) (i : Int) (hS : SOK f) (hI : inC f iv bar hq ns us sl en cd) (hpv : ∀ i : Int, 0 ≤ i → i ≤ f 0 - 1 → pv i = some (pl i)) (hsp : ∀ j : Int, 0 ≤ j → j < 8 → sp j = f (73 + j)) (hsm : ∀ j : Int, 0 ≤ j → j < 8 → sm j = f (81 + j)) (hsf : ∀ j : Int, 0 ≤ j → j < 8 → sf j = f (89 + j)) (hsc : ∀ j : Int, 0 ≤ j → j < 8 → sc j = f (97 + j)) (hb_i : -2147483648 ≤ i ∧ i < 2147483648) : Ct gS (S := (Nat → Int) × (Int → Int)) yX11_can cX11_can 3 (some .int) 5 126 0 0 [ar mo, ai i] [(pi, co 4 (pO fa m)), (fa, cn 0 6 fa0)] (fun q => q ∈ ([(mo, co 11 [ar nw, ar kw, ar pi, ar ta, ar ms, ar pt, ar po, ai hi]), (nw, co 10 [ar pls, ar ins, ar tap, ar e3, ar e4, ar e5, ar e6, ar e7, ar e8, ai (f 0), ai (f 1), ai (f 4), ai (f 2), ai (f 3), ai (f 6), ar bar]), (pls, cq 3 6 pv), (ins, cq 2 5 iv), (hq, co 3 [ai (kWide f), ai (kPay f), ai ns, ai us, ar sla, ar ena, ar cda]), (cda, cn 0 100 cd), (sla, cn 0 10 sl), (ena, cn 0 10 en), (e3, cn 0 8 sp), (e4, cn 0 8 sm), (e5, cn 0 8 sf), (e6, cn 0 8 sc)] : aW) ++ zpA ta f pl tu) (fun u => True) (fun u => some (ai (qCan f i))) (fun u => [(pi, co 4 (pO fa u.1)), (fa, cn 0 6 u.2)]) := by
  refine ct_I RX11 [(0, ar mo), (1, ai i)] (by decide) rfl (Nat.le_of_ble_eq_true rfl) rfl (fun x hgS hro hret => ?_)
  subst hgS
  have r0 := hro _ (List.mem_append_left _ (mem_at 0 rfl))
  have r1 := hro _ (List.mem_append_left _ (mem_at 1 rfl))
  have r2 := hro _ (List.mem_append_left _ (mem_at 2 rfl))
  have r3 := hro _ (List.mem_append_left _ (mem_at 3 rfl))
  have r4 := hro _ (List.mem_append_left _ (mem_at 4 rfl))
  have r5 := hro _ (List.mem_append_left _ (mem_at 5 rfl))
  have r6 := hro _ (List.mem_append_left _ (mem_at 6 rfl))
  have r7 := hro _ (List.mem_append_left _ (mem_at 7 rfl))
  have r8 := hro _ (List.mem_append_left _ (mem_at 8 rfl))
  have r9 := hro _ (List.mem_append_left _ (mem_at 9 rfl))
  have r10 := hro _ (List.mem_append_left _ (mem_at 10 rfl))
  have r11 := hro _ (List.mem_append_left _ (mem_at 11 rfl))
  have hra : ∀ q, q ∈ zpA ta f pl tu → Ro x q := fun q h => hro _ (List.mem_append_right _ h)
  obtain ⟨⟨hg0, hg1, hg2, hg3, hg4, hg5, hg6, hg7⟩, hSp, hSh, hSs, hSb, hSt, hSw⟩ := id hS
  show V x cX11_can RX11 3 (rmU 5 126 0 0) [(pi, co 4 (pO fa m)), (fa, cn 0 6 fa0)] 0 [(0, ar mo), (1, ai i)] [] 0 0
  refine v_iload_n (pc := 0) 1 rfl dX11_can_0 ?_
  refine v_iconst (pc := 1) dX11_can_1 ?_
  refine v_aload_n (pc := 2) 0 rfl dX11_can_2 ?_
  refine v_get (pc := 3) (v := ar nw) 0 (Or.inl r0) fl_11_12_11 rfl dX11_can_3 ?_
  refine v_get (pc := 6) (v := ai (f 2)) 12 (Or.inl r1) fl_11_238_10 rfl dX11_can_6 ?_
  refine v_iconst (pc := 9) dX11_can_9 ?_
  refine v_isub (pc := 10) dX11_can_10 ?_
  refine v_callS (pc := 11) [] [0, 1] [(pi, co 4 (pO fa m)), (fa, cn 0 6 fa0)] (As := [ai i, ai 0, ai ((f 2) - 1)]) (rest := []) (c_X11_isOut i 0 ((f 2) - 1) (by first | omega | assumption) (by first | omega | assumption) (by first | omega | assumption)) wl_X11_41 ws_X11_isOut wk_X11_isOut wz_X11 md_X11_isOut rfl (Nat.le_of_ble_eq_true rfl) ⟨Nat.le_of_ble_eq_true rfl, Nat.le_of_ble_eq_true rfl, Nat.le_of_ble_eq_true rfl, Nat.le_of_ble_eq_true rfl⟩ rfl rfl rfl rfl (by decide) ro_nil dX11_can_11 (fun u hu => ?_)
  show V x cX11_can RX11 3 (rmU 5 126 0 0) [(pi, co 4 (pO fa m)), (fa, cn 0 6 fa0)] 14 [(0, ar mo), (1, ai i)] [ai (if i < 0 ∨ ((f 2) - 1) < i then 1 else 0)] 0 0
  refine v_ifb_eq (pc := 14) 19 dX11_can_14 (by decide) (fun c_1 => ?_) (fun c_1 => ?_)
  · skip
    refine v_aload_n (pc := 19) 0 rfl dX11_can_19 ?_
    refine v_aload_n (pc := 20) 0 rfl dX11_can_20 ?_
    refine v_get (pc := 21) (v := ar nw) 0 (Or.inl r0) fl_11_12_11 rfl dX11_can_21 ?_
    refine v_get (pc := 24) (v := ar e3) 3 (Or.inl r1) fl_11_241_10 rfl dX11_can_24 ?_
    refine v_iload_n (pc := 27) 1 rfl dX11_can_27 ?_
    refine v_iald (pc := 28) (Or.inl r8) (by omega) (by omega) (by decide) dX11_can_28 ?_
    obtain ⟨hs11, hs12, hs13, hs14⟩ := hSs i (by omega) (by omega)
    have hp : 0 ≤ f (73 + i) ∧ f (73 + i) ≤ f 0 - 1 := by omega
    refine v_eqi (y := (f (73 + i))) (hsp i (by omega) (by omega)) ?_
    have hpl := hpv (f (73 + i)) hp.1 hp.2
    have rP := hra _ (zpA_p (ta := ta) (pl := pl) (tu := tu) hp)
    have rQ := hra _ (zpA_t (ta := ta) (pl := pl) (tu := tu) hp)
    have hp6 : 0 ≤ (f (73 + i)) ∧ (f (73 + i)) < 6 := by omega
    obtain ⟨hpp, hf1, hf2, hf3, hf4, hf5, hf6, hf7, hf8⟩ := hSp (f (73 + i)) hp6.1 hp6.2
    refine v_callV (pc := 29) [] [0, 1] [(pi, co 4 (pO fa m)), (fa, cn 0 6 fa0)] (As := [ai (f (73 + i))]) (rest := []) (c_X11_find_y mo kw pi ta ms pt po hi nw pls ins tap e3 e4 e5 e6 e7 e8 bar pv (pl (f (73 + i))) f (f (73 + i)) (by assumption) (by exact hpl) (by exact hp)) (c := 11) rfl (Or.inl r0) wl_X11_99 wi_X11_find wv_X11_X11_find_X11_find wk_X11_find wz_X11 md_X11_find rfl (Nat.le_of_ble_eq_true rfl) ⟨Nat.le_of_ble_eq_true rfl, Nat.le_of_ble_eq_true rfl, Nat.le_of_ble_eq_true rfl, Nat.le_of_ble_eq_true rfl⟩ rfl rfl rfl rfl (by decide) (ro_cons (Or.inl r0) (ro_cons (Or.inl r1) (ro_cons (Or.inl r2) ro_nil))) dX11_can_29 (fun u hu => ?_)
    show V x cX11_can RX11 3 (rmU 5 126 0 0) [(pi, co 4 (pO fa m)), (fa, cn 0 6 fa0)] 32 [(0, ar mo), (1, ai i)] [ar (pl (f (73 + i)))] 0 0
    refine v_astore_n (pc := 32) (L2 := [(2, ar (pl (f (73 + i)))), (0, ar mo), (1, ai i)]) rfl (by decide) dX11_can_32 ?_
    refine v_aload_n (pc := 33) 0 rfl dX11_can_33 ?_
    refine v_ifnonnull_r (pc := 34) 39 dX11_can_34 (by decide) ?_
    refine v_aload_n (pc := 39) 1 rfl dX11_can_39 ?_
    refine v_iload_n (pc := 40) 2 rfl dX11_can_40 ?_
    refine v_aload_n (pc := 41) 0 rfl dX11_can_41 ?_
    refine v_aload_n (pc := 42) 0 rfl dX11_can_42 ?_
    refine v_get (pc := 43) (v := ai (f (19 + (f (73 + i))))) 4 (Or.inl rP) (flP_11_86 (by omega)) rfl dX11_can_43 ?_
    refine v_callV (pc := 46) [0, 1] [] [] (As := [ai i, ar (pl (f (73 + i))), ai (f (19 + (f (73 + i))))]) (rest := []) (c_X11_drawsOfSeen mo kw pi ta ms pt po hi nw pls ins tap e3 e4 e5 e6 e7 e8 bar fa m fa0 iv hq ns us sla ena cda cd sl en (pl (f (73 + i))) (tu (f (73 + i))) f sp sm sf sc i (f (73 + i)) (f (19 + (f (73 + i)))) (by assumption) (by assumption) (by first | omega | assumption) (by first | omega | assumption) (by first | omega | assumption) (by assumption) (by assumption) (by assumption) (by assumption)) (c := 11) rfl (Or.inl r0) wl_X11_253 wi_X11_drawsOfSeen wv_X11_X11_drawsOfSeen_X11_drawsOfSeen wk_X11_drawsOfSeen wz_X11 md_X11_drawsOfSeen rfl (Nat.le_of_ble_eq_true rfl) ⟨Nat.le_of_ble_eq_true rfl, Nat.le_of_ble_eq_true rfl, Nat.le_of_ble_eq_true rfl, Nat.le_of_ble_eq_true rfl⟩ rfl rfl rfl rfl (by decide) (ro_cons (Or.inl r0) (ro_cons (Or.inl r1) (ro_cons (Or.inl r3) (ro_cons (Or.inl r4) (ro_cons (Or.inl r5) (ro_cons (Or.inl r6) (ro_cons (Or.inl r7) (ro_cons (Or.inl r8) (ro_cons (Or.inl r9) (ro_cons (Or.inl r10) (ro_cons (Or.inl r11) (ro_cons (Or.inl rP) (ro_cons (Or.inl rQ) ro_nil))))))))))))) dX11_can_46 (fun u hu => ?_)
    obtain ⟨m2_2, fa2_3⟩ := u
    show V x cX11_can RX11 3 (rmU 5 126 0 0) [(pi, co 4 (pO fa m2_2)), (fa, cn 0 6 fa2_3)] 49 [(2, ar (pl (f (73 + i)))), (0, ar mo), (1, ai i)] [ai (bts (fun d => decide (fCat (fS f (f (73 + i)) (f (19 + (f (73 + i)))) (f (31 + (f (73 + i))))) (f (73 + i)) (f (81 + i)) (f (89 + i)) (d : Int) (kOp (fS f (f (73 + i)) (f (19 + (f (73 + i)))) (f (31 + (f (73 + i))))) (f (73 + i)) (f (81 + i)) 0) = f (97 + i))) 10)] 0 0
    exact hret (m2_2, fa2_3) _ _ _ _ _ _ trivial (congrArg (fun z => some (ai z)) (by unfold qCan; rw [if_pos (by omega)]; unfold kSee; rw [fS_id])) rfl (Nat.le_of_ble_eq_true rfl) (Nat.le_of_ble_eq_true rfl) dX11_can_49
  · skip
    refine v_iconst (pc := 17) dX11_can_17 ?_
    exact hret (m, fa0) _ _ _ _ _ _ trivial (congrArg (fun z => some (ai z)) (by unfold qCan; (repeat' split) <;> first | rfl | (exfalso; omega) | omega)) rfl (Nat.le_of_ble_eq_true rfl) (Nat.le_of_ble_eq_true rfl) dX11_can_18
set_option maxHeartbeats 4000000 in
set_option maxRecDepth 100000 in
theorem c_X11_couldAllBeSeen {gS : sG} (mo : Nat) (kw : Nat) (pi : Nat) (ta : Nat) (ms : Nat) (pt : Nat) (po : Nat) (hi : Int) (nw : Nat) (pls : Nat) (ins : Nat) (tap : Nat) (e3 : Nat) (e4 : Nat) (e5 : Nat) (e6 : Nat) (e7 : Nat) (e8 : Nat) (bar : Nat) (fa : Nat) (m : Nat → Int) (fa0 : Int → Int) (iv : Int → Option Nat) (hq : Nat) (ns : Int) (us : Int) (sla : Nat) (ena : Nat) (cda : Nat) (cd : Int → Int) (sl : Int → Int) (en : Int → Int) (q1 : Nat) (t1 : Nat) (f : Int → Int) (sp : Int → Int) (sm : Int → Int) (sf : Int → Int) (sc : Int → Int) (p : Int) (s : Int) (hS : SOK f) (hI : inC f iv bar hq ns us sl en cd) (hp : 0 ≤ p ∧ p < 6) (hs1 : 0 ≤ s ∧ s ≤ 20) (hsp : ∀ j : Int, 0 ≤ j → j < 8 → sp j = f (73 + j)) (hsm : ∀ j : Int, 0 ≤ j → j < 8 → sm j = f (81 + j)) (hsf : ∀ j : Int, 0 ≤ j → j < 8 → sf j = f (89 + j)) (hsc : ∀ j : Int, 0 ≤ j → j < 8 → sc j = f (97 + j)) : Ct gS (S := (Nat → Int) × (Int → Int)) yX11_couldAllBeSeen cX11_couldAllBeSeen 4 (some .boolean) 5 126 0 0 [ar mo, ar q1, ai s] [(pi, co 4 (pO fa m)), (fa, cn 0 6 fa0)] (fun q => q ∈ ([(mo, co 11 [ar nw, ar kw, ar pi, ar ta, ar ms, ar pt, ar po, ai hi]), (nw, co 10 [ar pls, ar ins, ar tap, ar e3, ar e4, ar e5, ar e6, ar e7, ar e8, ai (f 0), ai (f 1), ai (f 4), ai (f 2), ai (f 3), ai (f 6), ar bar]), (ins, cq 2 5 iv), (hq, co 3 [ai (kWide f), ai (kPay f), ai ns, ai us, ar sla, ar ena, ar cda]), (cda, cn 0 100 cd), (sla, cn 0 10 sl), (ena, cn 0 10 en), (e3, cn 0 8 sp), (e4, cn 0 8 sm), (e5, cn 0 8 sf), (e6, cn 0 8 sc), (q1, zpO ta f p t1), tqC ta f p q1 t1] : aW)) (fun u => True) (fun u => some (ai (if cld (aup f (19 + p) s) p (f 2).toNat = true then 1 else 0))) (fun u => [(pi, co 4 (pO fa u.1)), (fa, cn 0 6 u.2)]) := by
  refine ct_Z RX11 [(0, ar mo), (1, ar q1), (2, ai s)] (by decide) rfl (Nat.le_of_ble_eq_true rfl) rfl (fun x hgS hro hret => ?_)
  subst hgS
  have r0 := hro _ (mem_at 0 rfl)
  have r1 := hro _ (mem_at 1 rfl)
  have r2 := hro _ (mem_at 2 rfl)
  have r3 := hro _ (mem_at 3 rfl)
  have r4 := hro _ (mem_at 4 rfl)
  have r5 := hro _ (mem_at 5 rfl)
  have r6 := hro _ (mem_at 6 rfl)
  have r7 := hro _ (mem_at 7 rfl)
  have r8 := hro _ (mem_at 8 rfl)
  have r9 := hro _ (mem_at 9 rfl)
  have r10 := hro _ (mem_at 10 rfl)
  have r11 := hro _ (mem_at 11 rfl)
  have r12 := hro _ (mem_at 12 rfl)
  obtain ⟨⟨hg0, hg1, hg2, hg3, hg4, hg5, hg6, hg7⟩, hSp, hSh, hSs, hSb, hSt, hSw⟩ := id hS
  obtain ⟨hpp, hf1, hf2, hf3, hf4, hf5, hf6, hf7, hf8⟩ := hSp p hp.1 hp.2
  show V x cX11_couldAllBeSeen RX11 4 (rmU 5 126 0 0) [(pi, co 4 (pO fa m)), (fa, cn 0 6 fa0)] 0 [(0, ar mo), (1, ar q1), (2, ai s)] [] 0 0
  refine v_iconst (pc := 0) dX11_couldAllBeSeen_0 ?_
  refine v_istore_n (pc := 1) (L2 := [(3, ai 0), (0, ar mo), (1, ar q1), (2, ai s)]) rfl (by decide) dX11_couldAllBeSeen_1 ?_
  have lp2 : ∀ (mm : Nat) (i : Int) (m1 : Nat → Int) (fa1 : Int → Int), (f 2 - i).toNat = mm → (0 ≤ i ∧ i ≤ f 2) → (cld (aup f (19 + p) s) p i.toNat = true) → V x cX11_couldAllBeSeen RX11 4 (rmU 5 126 0 0) [(pi, co 4 (pO fa m1)), (fa, cn 0 6 fa1)] 2 [(0, ar mo), (1, ar q1), (2, ai s), (3, ai i)] [] 0 0 := by
    intro mm
    induction mm using Nat.strongRecOn with
    | _ mm ih =>
      intro i m1 fa1 hmm hix hcl
      have hcs : cld (aup f (19 + p) s) p (i + 1).toNat = (cld (aup f (19 + p) s) p i.toNat && (decide (aup f (19 + p) s (73 + i) ≠ p) || decide (kSee (aup f (19 + p) s) i ≠ 0))) := by rw [show (i + 1).toNat = i.toNat + 1 by omega]; show (_ && (decide (aup f (19 + p) s (73 + ((i.toNat : Nat) : Int)) ≠ p) || decide (kSee (aup f (19 + p) s) ((i.toNat : Nat) : Int) ≠ 0))) = _; rw [show ((i.toNat : Nat) : Int) = i by omega]
      refine v_iload_n (pc := 2) 3 rfl dX11_couldAllBeSeen_2 ?_
      refine v_aload_n (pc := 3) 0 rfl dX11_couldAllBeSeen_3 ?_
      refine v_get (pc := 4) (v := ar nw) 0 (Or.inl r0) fl_11_12_11 rfl dX11_couldAllBeSeen_4 ?_
      refine v_get (pc := 7) (v := ai (f 2)) 12 (Or.inl r1) fl_11_238_10 rfl dX11_couldAllBeSeen_7 ?_
      refine v_icmp_ge (pc := 10) 47 dX11_couldAllBeSeen_10 (by decide) (by unfold iB; omega) (by unfold iB; omega) (fun c_1 => ?_) (fun c_1 => ?_)
      · skip
        refine v_iconst (pc := 47) dX11_couldAllBeSeen_47 ?_
        exact hret (m1, fa1) _ _ _ _ _ _ trivial (congrArg (fun z => some (ai z)) (by rw [if_pos (by rw [show f 2 = i by omega]; exact hcl)])) (Or.inr rfl) rfl (Nat.le_of_ble_eq_true rfl) (Nat.le_of_ble_eq_true rfl) dX11_couldAllBeSeen_48
      · skip
        obtain ⟨hs11, hs12, hs13, hs14⟩ := hSs i (by omega) (by omega)
        refine v_aload_n (pc := 13) 0 rfl dX11_couldAllBeSeen_13 ?_
        refine v_get (pc := 14) (v := ar nw) 0 (Or.inl r0) fl_11_12_11 rfl dX11_couldAllBeSeen_14 ?_
        refine v_get (pc := 17) (v := ar e3) 3 (Or.inl r1) fl_11_241_10 rfl dX11_couldAllBeSeen_17 ?_
        refine v_iload_n (pc := 20) 3 rfl dX11_couldAllBeSeen_20 ?_
        refine v_iald (pc := 21) (Or.inl r7) (by omega) (by omega) (by decide) dX11_couldAllBeSeen_21 ?_
        refine v_eqi (y := (f (73 + i))) (hsp i (by omega) (by omega)) ?_
        refine v_aload_n (pc := 22) 1 rfl dX11_couldAllBeSeen_22 ?_
        refine v_get (pc := 23) (v := ai p) 2 (Or.inl r11) (flP_11_80 (by omega)) rfl dX11_couldAllBeSeen_23 ?_
        refine v_icmp_ne (pc := 26) 41 dX11_couldAllBeSeen_26 (by decide) (by unfold iB; omega) (by unfold iB; omega) (fun c_2 => ?_) (fun c_2 => ?_)
        · skip
          refine v_iinc (pc := 41) 3 (L2 := [(3, ai (i + 1)), (0, ar mo), (1, ar q1), (2, ai s)]) rfl rfl (by decide) dX11_couldAllBeSeen_41 ?_
          refine v_goto (pc := 44) 2 dX11_couldAllBeSeen_44 (by decide) ?_
          refine v_sub (L2 := [(0, ar mo), (1, ar q1), (2, ai s), (3, ai (i + 1))]) [1, 2, 3, 0] rfl ?_
          exact ih _ (by omega) (i + 1) m1 fa1 rfl (by omega) (by rw [hcs, hcl, aup_n _ _ (show (73 + i : Int) ≠ 19 + p by omega)]; first | (rw [hks]; simp; omega) | (simp; omega))
        · skip
          refine v_aload_n (pc := 29) 0 rfl dX11_couldAllBeSeen_29 ?_
          refine v_iload_n (pc := 30) 3 rfl dX11_couldAllBeSeen_30 ?_
          refine v_aload_n (pc := 31) 1 rfl dX11_couldAllBeSeen_31 ?_
          refine v_iload_n (pc := 32) 2 rfl dX11_couldAllBeSeen_32 ?_
          refine v_callV (pc := 33) [0, 1] [] [] (As := [ai i, ar q1, ai s]) (rest := []) (c_X11_drawsOfSeen mo kw pi ta ms pt po hi nw pls ins tap e3 e4 e5 e6 e7 e8 bar fa m1 fa1 iv hq ns us sla ena cda cd sl en q1 t1 f sp sm sf sc i p s (by assumption) (by assumption) (by first | omega | assumption) (by first | omega | assumption) (by first | omega | assumption) (by assumption) (by assumption) (by assumption) (by assumption)) (c := 11) rfl (Or.inl r0) wl_X11_253 wi_X11_drawsOfSeen wv_X11_X11_drawsOfSeen_X11_drawsOfSeen wk_X11_drawsOfSeen wz_X11 md_X11_drawsOfSeen rfl (Nat.le_of_ble_eq_true rfl) ⟨Nat.le_of_ble_eq_true rfl, Nat.le_of_ble_eq_true rfl, Nat.le_of_ble_eq_true rfl, Nat.le_of_ble_eq_true rfl⟩ rfl rfl rfl rfl (by decide) (ro_cons (Or.inl r0) (ro_cons (Or.inl r1) (ro_cons (Or.inl r2) (ro_cons (Or.inl r3) (ro_cons (Or.inl r4) (ro_cons (Or.inl r5) (ro_cons (Or.inl r6) (ro_cons (Or.inl r7) (ro_cons (Or.inl r8) (ro_cons (Or.inl r9) (ro_cons (Or.inl r10) (ro_cons (Or.inl r11) (ro_cons (Or.inl r12) ro_nil))))))))))))) dX11_couldAllBeSeen_33 (fun u hu => ?_)
          obtain ⟨m2_3, fa2_4⟩ := u
          show V x cX11_couldAllBeSeen RX11 4 (rmU 5 126 0 0) [(pi, co 4 (pO fa m2_3)), (fa, cn 0 6 fa2_4)] 36 [(0, ar mo), (1, ar q1), (2, ai s), (3, ai i)] [ai (bts (fun d => decide (fCat (fS f p s (f (31 + p))) p (f (81 + i)) (f (89 + i)) (d : Int) (kOp (fS f p s (f (31 + p))) p (f (81 + i)) 0) = f (97 + i))) 10)] 0 0
          have hks : kSee (aup f (19 + p) s) i = (bts (fun d => decide (fCat (fS f p s (f (31 + p))) p (f (81 + i)) (f (89 + i)) (d : Int) (kOp (fS f p s (f (31 + p))) p (f (81 + i)) 0) = f (97 + i))) 10) := by unfold kSee; rw [fS_s1, aup_n _ _ (show (73 + i : Int) ≠ 19 + p by omega), aup_n _ _ (show (81 + i : Int) ≠ 19 + p by omega), aup_n _ _ (show (89 + i : Int) ≠ 19 + p by omega), aup_n _ _ (show (97 + i : Int) ≠ 19 + p by omega), show f (73 + i) = p by omega]
          have hsb := bts_b (fun d => decide (fCat (fS f p s (f (31 + p))) p (f (81 + i)) (f (89 + i)) (d : Int) (kOp (fS f p s (f (31 + p))) p (f (81 + i)) 0) = f (97 + i))) 10
          have e10 : (2 : Int) ^ 10 = 1024 := by decide
          rw [e10] at hsb
          refine v_if_ne (pc := 36) 41 dX11_couldAllBeSeen_36 (by decide) (by unfold iB; omega) (fun c_5 => ?_) (fun c_5 => ?_)
          · skip
            refine v_iinc (pc := 41) 3 (L2 := [(3, ai (i + 1)), (0, ar mo), (1, ar q1), (2, ai s)]) rfl rfl (by decide) dX11_couldAllBeSeen_41 ?_
            refine v_goto (pc := 44) 2 dX11_couldAllBeSeen_44 (by decide) ?_
            refine v_sub (L2 := [(0, ar mo), (1, ar q1), (2, ai s), (3, ai (i + 1))]) [1, 2, 3, 0] rfl ?_
            exact ih _ (by omega) (i + 1) m2_3 fa2_4 rfl (by omega) (by rw [hcs, hcl, aup_n _ _ (show (73 + i : Int) ≠ 19 + p by omega)]; first | (rw [hks]; simp; omega) | (simp; omega))
          · skip
            refine v_iconst (pc := 39) dX11_couldAllBeSeen_39 ?_
            exact hret (m2_3, fa2_4) _ _ _ _ _ _ trivial (congrArg (fun z => some (ai z)) (by rw [if_neg (fun z => ?_)]; have q : cld (aup f (19 + p) s) p (i + 1).toNat = true := (by cases h9 : cld (aup f (19 + p) s) p (i + 1).toNat with | true => rfl | false => rw [cld_mono (show (i + 1).toNat ≤ (f 2).toNat by omega) h9] at z; cases z); rw [hcs, hcl, hks, aup_n _ _ (show (73 + i : Int) ≠ 19 + p by omega)] at q; simp at q; omega)) (Or.inl rfl) rfl (Nat.le_of_ble_eq_true rfl) (Nat.le_of_ble_eq_true rfl) dX11_couldAllBeSeen_40
  refine v_sub (L2 := [(0, ar mo), (1, ar q1), (2, ai s), (3, ai 0)]) [1, 2, 3, 0] rfl ?_
  exact lp2 _ 0 m fa0 rfl (by omega) (by rfl)
set_option maxHeartbeats 4000000 in
set_option maxRecDepth 100000 in
theorem c_X11_skills {gS : sG} (mo : Nat) (kw : Nat) (pi : Nat) (ta : Nat) (ms : Nat) (pt : Nat) (po : Nat) (hi : Int) (nw : Nat) (pls : Nat) (ins : Nat) (tap : Nat) (e3 : Nat) (e4 : Nat) (e5 : Nat) (e6 : Nat) (e7 : Nat) (e8 : Nat) (bar : Nat) (fa : Nat) (m : Nat → Int) (fa0 : Int → Int) (iv : Int → Option Nat) (hq : Nat) (ns : Int) (us : Int) (sla : Nat) (ena : Nat) (cda : Nat) (cd : Int → Int) (sl : Int → Int) (en : Int → Int) (pv : Int → Option Nat) (pl : Int → Nat) (tu : Int → Nat) (f : Int → Int) (sp : Int → Int) (sm : Int → Int) (sf : Int → Int) (sc : Int → Int) (player : Int) (hS : SOK f) (hI : inC f iv bar hq ns us sl en cd) (hpv : ∀ i : Int, 0 ≤ i → i ≤ f 0 - 1 → pv i = some (pl i)) (hsp : ∀ j : Int, 0 ≤ j → j < 8 → sp j = f (73 + j)) (hsm : ∀ j : Int, 0 ≤ j → j < 8 → sm j = f (81 + j)) (hsf : ∀ j : Int, 0 ≤ j → j < 8 → sf j = f (89 + j)) (hsc : ∀ j : Int, 0 ≤ j → j < 8 → sc j = f (97 + j)) (hb_player : -2147483648 ≤ player ∧ player < 2147483648) : Ct gS (S := (Nat → Int) × (Int → Int)) yX11_skills cX11_skills 5 (some .int) 6 149 0 0 [ar mo, ai player] [(pi, co 4 (pO fa m)), (fa, cn 0 6 fa0)] (fun q => q ∈ ([(mo, co 11 [ar nw, ar kw, ar pi, ar ta, ar ms, ar pt, ar po, ai hi]), (nw, co 10 [ar pls, ar ins, ar tap, ar e3, ar e4, ar e5, ar e6, ar e7, ar e8, ai (f 0), ai (f 1), ai (f 4), ai (f 2), ai (f 3), ai (f 6), ar bar]), (pls, cq 3 6 pv), (ins, cq 2 5 iv), (hq, co 3 [ai (kWide f), ai (kPay f), ai ns, ai us, ar sla, ar ena, ar cda]), (cda, cn 0 100 cd), (sla, cn 0 10 sl), (ena, cn 0 10 en), (e3, cn 0 8 sp), (e4, cn 0 8 sm), (e5, cn 0 8 sf), (e6, cn 0 8 sc)] : aW) ++ zpA ta f pl tu) (fun u => True) (fun u => some (ai (qSkills f player))) (fun u => [(pi, co 4 (pO fa u.1)), (fa, cn 0 6 u.2)]) := by
  refine ct_I RX11 [(0, ar mo), (1, ai player)] (by decide) rfl (Nat.le_of_ble_eq_true rfl) rfl (fun x hgS hro hret => ?_)
  subst hgS
  have r0 := hro _ (List.mem_append_left _ (mem_at 0 rfl))
  have r1 := hro _ (List.mem_append_left _ (mem_at 1 rfl))
  have r2 := hro _ (List.mem_append_left _ (mem_at 2 rfl))
  have r3 := hro _ (List.mem_append_left _ (mem_at 3 rfl))
  have r4 := hro _ (List.mem_append_left _ (mem_at 4 rfl))
  have r5 := hro _ (List.mem_append_left _ (mem_at 5 rfl))
  have r6 := hro _ (List.mem_append_left _ (mem_at 6 rfl))
  have r7 := hro _ (List.mem_append_left _ (mem_at 7 rfl))
  have r8 := hro _ (List.mem_append_left _ (mem_at 8 rfl))
  have r9 := hro _ (List.mem_append_left _ (mem_at 9 rfl))
  have r10 := hro _ (List.mem_append_left _ (mem_at 10 rfl))
  have r11 := hro _ (List.mem_append_left _ (mem_at 11 rfl))
  have hra : ∀ q, q ∈ zpA ta f pl tu → Ro x q := fun q h => hro _ (List.mem_append_right _ h)
  obtain ⟨⟨hg0, hg1, hg2, hg3, hg4, hg5, hg6, hg7⟩, hSp, hSh, hSs, hSb, hSt, hSw⟩ := id hS
  show V x cX11_skills RX11 5 (rmU 6 149 0 0) [(pi, co 4 (pO fa m)), (fa, cn 0 6 fa0)] 0 [(0, ar mo), (1, ai player)] [] 0 0
  refine v_aload_n (pc := 0) 0 rfl dX11_skills_0 ?_
  refine v_iload_n (pc := 1) 1 rfl dX11_skills_1 ?_
  rcases Classical.em (0 ≤ player ∧ player ≤ f 0 - 1) with hp | hp
  · skip
    have hpl := hpv player hp.1 hp.2
    have rP := hra _ (zpA_p (ta := ta) (pl := pl) (tu := tu) hp)
    have rQ := hra _ (zpA_t (ta := ta) (pl := pl) (tu := tu) hp)
    have hp6 : 0 ≤ player ∧ player < 6 := by omega
    obtain ⟨hpp, hf1, hf2, hf3, hf4, hf5, hf6, hf7, hf8⟩ := hSp player hp6.1 hp6.2
    refine v_callV (pc := 2) [] [0, 1] [(pi, co 4 (pO fa m)), (fa, cn 0 6 fa0)] (As := [ai player]) (rest := []) (c_X11_find_y mo kw pi ta ms pt po hi nw pls ins tap e3 e4 e5 e6 e7 e8 bar pv (pl player) f player (by assumption) (by exact hpl) (by exact hp)) (c := 11) rfl (Or.inl r0) wl_X11_99 wi_X11_find wv_X11_X11_find_X11_find wk_X11_find wz_X11 md_X11_find rfl (Nat.le_of_ble_eq_true rfl) ⟨Nat.le_of_ble_eq_true rfl, Nat.le_of_ble_eq_true rfl, Nat.le_of_ble_eq_true rfl, Nat.le_of_ble_eq_true rfl⟩ rfl rfl rfl rfl (by decide) (ro_cons (Or.inl r0) (ro_cons (Or.inl r1) (ro_cons (Or.inl r2) ro_nil))) dX11_skills_2 (fun u hu => ?_)
    show V x cX11_skills RX11 5 (rmU 6 149 0 0) [(pi, co 4 (pO fa m)), (fa, cn 0 6 fa0)] 5 [(0, ar mo), (1, ai player)] [ar (pl player)] 0 0
    refine v_astore_n (pc := 5) (L2 := [(2, ar (pl player)), (0, ar mo), (1, ai player)]) rfl (by decide) dX11_skills_5 ?_
    refine v_aload_n (pc := 6) 0 rfl dX11_skills_6 ?_
    refine v_ifnonnull_r (pc := 7) 12 dX11_skills_7 (by decide) ?_
    refine v_iconst (pc := 12) dX11_skills_12 ?_
    refine v_istore_n (pc := 13) (L2 := [(3, ai 0), (2, ar (pl player)), (0, ar mo), (1, ai player)]) rfl (by decide) dX11_skills_13 ?_
    refine v_iconst (pc := 14) dX11_skills_14 ?_
    refine v_istore (pc := 15) (L2 := [(4, ai 0), (3, ai 0), (2, ar (pl player)), (0, ar mo), (1, ai player)]) rfl (by decide) dX11_skills_15 ?_
    have lp17 : ∀ (mm : Nat) (st : Int) (sk : Int) (m1 : Nat → Int) (fa1 : Int → Int), (21 - sk).toNat = mm → (0 ≤ sk ∧ sk ≤ 21) → (st = bts (fun s => cld (aup f (19 + player) (s : Int)) player (f 2).toNat) sk.toNat) → V x cX11_skills RX11 5 (rmU 6 149 0 0) [(pi, co 4 (pO fa m1)), (fa, cn 0 6 fa1)] 17 [(0, ar mo), (2, ar (pl player)), (3, ai st), (4, ai sk)] [] 0 0 := by
      intro mm
      induction mm using Nat.strongRecOn with
      | _ mm ih =>
        intro st sk m1 fa1 hmm hsk hst
        refine v_iload (pc := 17) 3 rfl dX11_skills_17 ?_
        refine v_bipush (pc := 19) dX11_skills_19 (by decide) ?_
        refine v_icmp_gt (pc := 21) 47 dX11_skills_21 (by decide) (by unfold iB; omega) (by unfold iB; omega) (fun c_1 => ?_) (fun c_1 => ?_)
        · skip
          refine v_iload_n (pc := 47) 2 rfl dX11_skills_47 ?_
          exact hret (m1, fa1) _ _ _ _ _ _ trivial (congrArg (fun z => some (ai z)) (by unfold qSkills; rw [if_neg (by omega), hst, show sk.toNat = 21 by omega])) rfl (Nat.le_of_ble_eq_true rfl) (Nat.le_of_ble_eq_true rfl) dX11_skills_48
        · skip
          refine v_aload_n (pc := 24) 0 rfl dX11_skills_24 ?_
          refine v_aload_n (pc := 25) 1 rfl dX11_skills_25 ?_
          refine v_iload (pc := 26) 3 rfl dX11_skills_26 ?_
          refine v_callV (pc := 28) [0, 1] [] [] (As := [ar (pl player), ai sk]) (rest := []) (c_X11_couldAllBeSeen mo kw pi ta ms pt po hi nw pls ins tap e3 e4 e5 e6 e7 e8 bar fa m1 fa1 iv hq ns us sla ena cda cd sl en (pl player) (tu player) f sp sm sf sc player sk (by assumption) (by assumption) (by first | omega | assumption) (by first | omega | assumption) (by assumption) (by assumption) (by assumption) (by assumption)) (c := 11) rfl (Or.inl r0) wl_X11_257 wi_X11_couldAllBeSeen wv_X11_X11_couldAllBeSeen_X11_couldAllBeSeen wk_X11_couldAllBeSeen wz_X11 md_X11_couldAllBeSeen rfl (Nat.le_of_ble_eq_true rfl) ⟨Nat.le_of_ble_eq_true rfl, Nat.le_of_ble_eq_true rfl, Nat.le_of_ble_eq_true rfl, Nat.le_of_ble_eq_true rfl⟩ rfl rfl rfl rfl (by decide) (ro_cons (Or.inl r0) (ro_cons (Or.inl r1) (ro_cons (Or.inl r3) (ro_cons (Or.inl r4) (ro_cons (Or.inl r5) (ro_cons (Or.inl r6) (ro_cons (Or.inl r7) (ro_cons (Or.inl r8) (ro_cons (Or.inl r9) (ro_cons (Or.inl r10) (ro_cons (Or.inl r11) (ro_cons (Or.inl rP) (ro_cons (Or.inl rQ) ro_nil))))))))))))) dX11_skills_28 (fun u hu => ?_)
          obtain ⟨m2_2, fa2_3⟩ := u
          show V x cX11_skills RX11 5 (rmU 6 149 0 0) [(pi, co 4 (pO fa m2_2)), (fa, cn 0 6 fa2_3)] 31 [(0, ar mo), (2, ar (pl player)), (3, ai st), (4, ai sk)] [ai (if cld (aup f (19 + player) sk) player (f 2).toNat = true then 1 else 0)] 0 0
          refine v_ifb_eq (pc := 31) 41 dX11_skills_31 (by decide) (fun c_4 => ?_) (fun c_4 => ?_)
          · skip
            refine v_iinc (pc := 41) 3 (L2 := [(4, ai (sk + 1)), (0, ar mo), (2, ar (pl player)), (3, ai st)]) rfl rfl (by decide) dX11_skills_41 ?_
            refine v_goto (pc := 44) 17 dX11_skills_44 (by decide) ?_
            refine v_sub (L2 := [(0, ar mo), (2, ar (pl player)), (3, ai st), (4, ai (sk + 1))]) [1, 2, 3, 0] rfl ?_
            exact ih _ (by omega) st (sk + 1) m2_2 fa2_3 rfl (by omega) (by rw [hst, show (sk + 1).toNat = sk.toNat + 1 by omega, bts_succ, show ((sk.toNat : Nat) : Int) = sk by omega]; first | (rw [if_pos (by assumption)]; done) | (rw [if_neg (by assumption)]; omega))
          · skip
            refine v_iload_n (pc := 34) 2 rfl dX11_skills_34 ?_
            refine v_iconst (pc := 35) dX11_skills_35 ?_
            refine v_iload (pc := 36) 3 rfl dX11_skills_36 ?_
            refine v_ishl1 (pc := 38) (by omega) dX11_skills_38 ?_
            refine v_ior (pc := 39) (c := (st + (2 ^ sk.toNat))) (or_add (m := sk.toNat) (by omega) (by rw [hst]; exact bts_b _ _) (by first | exact Or.inl rfl | exact Or.inr rfl)) dX11_skills_39 ?_
            refine v_istore_n (pc := 40) (L2 := [(3, ai (st + (2 ^ sk.toNat))), (0, ar mo), (2, ar (pl player)), (4, ai sk)]) rfl (by decide) dX11_skills_40 ?_
            refine v_iinc (pc := 41) 3 (L2 := [(4, ai (sk + 1)), (3, ai (st + (2 ^ sk.toNat))), (0, ar mo), (2, ar (pl player))]) rfl rfl (by decide) dX11_skills_41 ?_
            refine v_goto (pc := 44) 17 dX11_skills_44 (by decide) ?_
            refine v_sub (L2 := [(0, ar mo), (2, ar (pl player)), (3, ai (st + (2 ^ sk.toNat))), (4, ai (sk + 1))]) [2, 3, 1, 0] rfl ?_
            exact ih _ (by omega) (st + (2 ^ sk.toNat)) (sk + 1) m2_2 fa2_3 rfl (by omega) (by rw [hst, show (sk + 1).toNat = sk.toNat + 1 by omega, bts_succ, show ((sk.toNat : Nat) : Int) = sk by omega]; first | (rw [if_pos (by assumption)]; done) | (rw [if_neg (by assumption)]; omega))
    refine v_sub (L2 := [(0, ar mo), (2, ar (pl player)), (3, ai 0), (4, ai 0)]) [3, 2, 1, 0] rfl ?_
    exact lp17 _ 0 0 m fa0 rfl (by omega) (by rfl)
  · skip
    refine v_callV (pc := 2) [] [0, 1] [(pi, co 4 (pO fa m)), (fa, cn 0 6 fa0)] (As := [ai player]) (rest := []) (c_X11_find_n mo kw pi ta ms pt po hi nw pls ins tap e3 e4 e5 e6 e7 e8 bar pv f player (by assumption) (by exact hp) (by first | omega | assumption)) (c := 11) rfl (Or.inl r0) wl_X11_99 wi_X11_find wv_X11_X11_find_X11_find wk_X11_find wz_X11 md_X11_find rfl (Nat.le_of_ble_eq_true rfl) ⟨Nat.le_of_ble_eq_true rfl, Nat.le_of_ble_eq_true rfl, Nat.le_of_ble_eq_true rfl, Nat.le_of_ble_eq_true rfl⟩ rfl rfl rfl rfl (by decide) (ro_cons (Or.inl r0) (ro_cons (Or.inl r1) (ro_cons (Or.inl r2) ro_nil))) dX11_skills_2 (fun u hu => ?_)
    show V x cX11_skills RX11 5 (rmU 6 149 0 0) [(pi, co 4 (pO fa m)), (fa, cn 0 6 fa0)] 5 [(0, ar mo), (1, ai player)] [an] 0 0
    refine v_astore_n (pc := 5) (L2 := [(2, an), (0, ar mo), (1, ai player)]) rfl (by decide) dX11_skills_5 ?_
    refine v_aload_n (pc := 6) 0 rfl dX11_skills_6 ?_
    refine v_ifnonnull_n (pc := 7) dX11_skills_7 ?_
    refine v_iconst (pc := 10) dX11_skills_10 ?_
    exact hret (m, fa0) _ _ _ _ _ _ trivial (congrArg (fun z => some (ai z)) (by unfold qSkills; (repeat' split) <;> first | rfl | (exfalso; omega) | omega)) rfl (Nat.le_of_ble_eq_true rfl) (Nat.le_of_ble_eq_true rfl) dX11_skills_11
set_option maxHeartbeats 4000000 in
set_option maxRecDepth 100000 in
theorem c_X11_looked {gS : sG} (mo : Nat) (kw : Nat) (pi : Nat) (ta : Nat) (ms : Nat) (pt : Nat) (po : Nat) (hi : Int) (nw : Nat) (pls : Nat) (ins : Nat) (tap : Nat) (e3 : Nat) (e4 : Nat) (e5 : Nat) (e6 : Nat) (e7 : Nat) (e8 : Nat) (bar : Nat) (fa : Nat) (m : Nat → Int) (fa0 : Int → Int) (iv : Int → Option Nat) (hq : Nat) (ns : Int) (us : Int) (sla : Nat) (ena : Nat) (cda : Nat) (cd : Int → Int) (sl : Int → Int) (en : Int → Int) (pv : Int → Option Nat) (pl : Int → Nat) (tu : Int → Nat) (f : Int → Int) (bp : Int → Int) (bm : Int → Int) (hS : SOK f) (hI : inC f iv bar hq ns us sl en cd) (hpv : ∀ i : Int, 0 ≤ i → i ≤ f 0 - 1 → pv i = some (pl i)) (hbp : ∀ j : Int, 0 ≤ j → j < 8 → bp j = f (105 + j)) (hbm : ∀ j : Int, 0 ≤ j → j < 8 → bm j = f (113 + j)) : Ct gS (S := (Nat → Int) × (Int → Int)) yX11_looked cX11_looked 3 (some .int) 5 126 0 0 [ar mo] [(pi, co 4 (pO fa m)), (fa, cn 0 6 fa0)] (fun q => q ∈ ([(mo, co 11 [ar nw, ar kw, ar pi, ar ta, ar ms, ar pt, ar po, ai hi]), (nw, co 10 [ar pls, ar ins, ar tap, ar e3, ar e4, ar e5, ar e6, ar e7, ar e8, ai (f 0), ai (f 1), ai (f 4), ai (f 2), ai (f 3), ai (f 6), ar bar]), (pls, cq 3 6 pv), (ins, cq 2 5 iv), (hq, co 3 [ai (kWide f), ai (kPay f), ai ns, ai us, ar sla, ar ena, ar cda]), (cda, cn 0 100 cd), (sla, cn 0 10 sl), (ena, cn 0 10 en), (e7, cn 0 8 bp), (e8, cn 0 8 bm)] : aW) ++ zpA ta f pl tu) (fun u => True) (fun u => some (ai (qLooked f))) (fun u => [(pi, co 4 (pO fa u.1)), (fa, cn 0 6 u.2)]) := by
  refine ct_I RX11 [(0, ar mo)] (by decide) rfl (Nat.le_of_ble_eq_true rfl) rfl (fun x hgS hro hret => ?_)
  subst hgS
  have r0 := hro _ (List.mem_append_left _ (mem_at 0 rfl))
  have r1 := hro _ (List.mem_append_left _ (mem_at 1 rfl))
  have r2 := hro _ (List.mem_append_left _ (mem_at 2 rfl))
  have r3 := hro _ (List.mem_append_left _ (mem_at 3 rfl))
  have r4 := hro _ (List.mem_append_left _ (mem_at 4 rfl))
  have r5 := hro _ (List.mem_append_left _ (mem_at 5 rfl))
  have r6 := hro _ (List.mem_append_left _ (mem_at 6 rfl))
  have r7 := hro _ (List.mem_append_left _ (mem_at 7 rfl))
  have r8 := hro _ (List.mem_append_left _ (mem_at 8 rfl))
  have r9 := hro _ (List.mem_append_left _ (mem_at 9 rfl))
  have hra : ∀ q, q ∈ zpA ta f pl tu → Ro x q := fun q h => hro _ (List.mem_append_right _ h)
  obtain ⟨⟨hg0, hg1, hg2, hg3, hg4, hg5, hg6, hg7⟩, hSp, hSh, hSs, hSb, hSt, hSw⟩ := id hS
  show V x cX11_looked RX11 3 (rmU 5 126 0 0) [(pi, co 4 (pO fa m)), (fa, cn 0 6 fa0)] 0 [(0, ar mo)] [] 0 0
  refine v_iconst (pc := 0) dX11_looked_0 ?_
  refine v_istore_n (pc := 1) (L2 := [(1, ai 0), (0, ar mo)]) rfl (by decide) dX11_looked_1 ?_
  have lp2 : ∀ (mm : Nat) (k : Int) (m1 : Nat → Int) (fa1 : Int → Int), (f 3 - k).toNat = mm → (0 ≤ k ∧ k ≤ f 3) → (qLooked f = lkd f (f 3 - k).toNat k) → V x cX11_looked RX11 3 (rmU 5 126 0 0) [(pi, co 4 (pO fa m1)), (fa, cn 0 6 fa1)] 2 [(0, ar mo), (1, ai k)] [] 0 0 := by
    intro mm
    induction mm using Nat.strongRecOn with
    | _ mm ih =>
      intro k m1 fa1 hmm hk hlk
      refine v_iload_n (pc := 2) 1 rfl dX11_looked_2 ?_
      refine v_aload_n (pc := 3) 0 rfl dX11_looked_3 ?_
      refine v_get (pc := 4) (v := ar nw) 0 (Or.inl r0) fl_11_12_11 rfl dX11_looked_4 ?_
      refine v_get (pc := 7) (v := ai (f 3)) 13 (Or.inl r1) fl_11_261_10 rfl dX11_looked_7 ?_
      refine v_icmp_ge (pc := 10) 60 dX11_looked_10 (by decide) (by unfold iB; omega) (by unfold iB; omega) (fun c_1 => ?_) (fun c_1 => ?_)
      · skip
        refine v_bipush (pc := 60) dX11_looked_60 (by decide) ?_
        exact hret (m1, fa1) _ _ _ _ _ _ trivial (congrArg (fun z => some (ai z)) (by rw [hlk, show (f 3 - k).toNat = 0 by omega]; rfl)) rfl (Nat.le_of_ble_eq_true rfl) (Nat.le_of_ble_eq_true rfl) dX11_looked_62
      · skip
        refine v_aload_n (pc := 13) 0 rfl dX11_looked_13 ?_
        refine v_aload_n (pc := 14) 0 rfl dX11_looked_14 ?_
        refine v_get (pc := 15) (v := ar nw) 0 (Or.inl r0) fl_11_12_11 rfl dX11_looked_15 ?_
        refine v_get (pc := 18) (v := ar e7) 7 (Or.inl r1) fl_11_264_10 rfl dX11_looked_18 ?_
        refine v_iload_n (pc := 21) 1 rfl dX11_looked_21 ?_
        refine v_iald (pc := 22) (Or.inl r8) (by omega) (by omega) (by decide) dX11_looked_22 ?_
        obtain ⟨hb1, hb2⟩ := hSb k (by omega) (by omega)
        have hp : 0 ≤ f (105 + k) ∧ f (105 + k) ≤ f 0 - 1 := by omega
        refine v_eqi (y := (f (105 + k))) (hbp k (by omega) (by omega)) ?_
        have hpl := hpv (f (105 + k)) hp.1 hp.2
        have rP := hra _ (zpA_p (ta := ta) (pl := pl) (tu := tu) hp)
        have rQ := hra _ (zpA_t (ta := ta) (pl := pl) (tu := tu) hp)
        have hp6 : 0 ≤ (f (105 + k)) ∧ (f (105 + k)) < 6 := by omega
        obtain ⟨hpp, hf1, hf2, hf3, hf4, hf5, hf6, hf7, hf8⟩ := hSp (f (105 + k)) hp6.1 hp6.2
        refine v_callV (pc := 23) [] [0, 1] [(pi, co 4 (pO fa m1)), (fa, cn 0 6 fa1)] (As := [ai (f (105 + k))]) (rest := []) (c_X11_find_y mo kw pi ta ms pt po hi nw pls ins tap e3 e4 e5 e6 e7 e8 bar pv (pl (f (105 + k))) f (f (105 + k)) (by assumption) (by exact hpl) (by exact hp)) (c := 11) rfl (Or.inl r0) wl_X11_99 wi_X11_find wv_X11_X11_find_X11_find wk_X11_find wz_X11 md_X11_find rfl (Nat.le_of_ble_eq_true rfl) ⟨Nat.le_of_ble_eq_true rfl, Nat.le_of_ble_eq_true rfl, Nat.le_of_ble_eq_true rfl, Nat.le_of_ble_eq_true rfl⟩ rfl rfl rfl rfl (by decide) (ro_cons (Or.inl r0) (ro_cons (Or.inl r1) (ro_cons (Or.inl r2) ro_nil))) dX11_looked_23 (fun u hu => ?_)
        show V x cX11_looked RX11 3 (rmU 5 126 0 0) [(pi, co 4 (pO fa m1)), (fa, cn 0 6 fa1)] 26 [(0, ar mo), (1, ai k)] [ar (pl (f (105 + k)))] 0 0
        refine v_astore_n (pc := 26) (L2 := [(2, ar (pl (f (105 + k)))), (0, ar mo), (1, ai k)]) rfl (by decide) dX11_looked_26 ?_
        refine v_aload_n (pc := 27) 0 rfl dX11_looked_27 ?_
        refine v_ifnull_r (pc := 28) dX11_looked_28 ?_
        refine v_aload_n (pc := 31) 1 rfl dX11_looked_31 ?_
        refine v_aload_n (pc := 32) 0 rfl dX11_looked_32 ?_
        refine v_aload_n (pc := 33) 0 rfl dX11_looked_33 ?_
        refine v_get (pc := 34) (v := ai (f (31 + (f (105 + k))))) 6 (Or.inl rP) (flP_11_106 (by omega)) rfl dX11_looked_34 ?_
        refine v_callV (pc := 37) [0, 1] [] [] (As := [ar (pl (f (105 + k))), ai (f (31 + (f (105 + k))))]) (rest := []) (c_X11_mostBy mo kw pi ta ms pt po hi nw pls ins tap e3 e4 e5 e6 e7 e8 bar fa m1 fa1 iv hq ns us sla ena cda cd sl en (pl (f (105 + k))) (tu (f (105 + k))) f (f (105 + k)) (f (31 + (f (105 + k)))) (by assumption) (by assumption) (by first | omega | assumption) (by first | omega | assumption)) (c := 11) rfl (Or.inl r0) wl_X11_187 wi_X11_mostBy wv_X11_X11_mostBy_X11_mostBy wk_X11_mostBy wz_X11 md_X11_mostBy rfl (Nat.le_of_ble_eq_true rfl) ⟨Nat.le_of_ble_eq_true rfl, Nat.le_of_ble_eq_true rfl, Nat.le_of_ble_eq_true rfl, Nat.le_of_ble_eq_true rfl⟩ rfl rfl rfl rfl (by decide) (ro_cons (Or.inl r0) (ro_cons (Or.inl r1) (ro_cons (Or.inl r3) (ro_cons (Or.inl r4) (ro_cons (Or.inl r5) (ro_cons (Or.inl r6) (ro_cons (Or.inl r7) (ro_cons (Or.inl rP) (ro_cons (Or.inl rQ) ro_nil))))))))) dX11_looked_37 (fun u hu => ?_)
        obtain ⟨m2_2, fa2_3⟩ := u
        show V x cX11_looked RX11 3 (rmU 5 126 0 0) [(pi, co 4 (pO fa m2_2)), (fa, cn 0 6 fa2_3)] 40 [(2, ar (pl (f (105 + k)))), (0, ar mo), (1, ai k)] [ai (mst (fBest (fS f (f (105 + k)) (f (19 + (f (105 + k)))) (f (31 + (f (105 + k))))) (f (105 + k))) 99)] 0 0
        refine v_eqi (y := fMost f (f (105 + k))) (by rw [fS_id]; rfl) ?_
        have hmb := fMost_b (f := f) (p := f (105 + k))
        have hlk2 : lkd f (f 3 - k).toNat k = if fMost f (f (105 + k)) ≠ f (113 + k) then k else lkd f (f 3 - (k + 1)).toNat (k + 1) := by rw [show (f 3 - k).toNat = (f 3 - (k + 1)).toNat + 1 by omega]; rfl
        refine v_aload_n (pc := 40) 1 rfl dX11_looked_40 ?_
        refine v_get (pc := 41) (v := ar nw) 0 (Or.inl r0) fl_11_12_11 rfl dX11_looked_41 ?_
        refine v_get (pc := 44) (v := ar e8) 8 (Or.inl r1) fl_11_267_10 rfl dX11_looked_44 ?_
        refine v_iload_n (pc := 47) 2 rfl dX11_looked_47 ?_
        refine v_iald (pc := 48) (Or.inl r9) (by omega) (by omega) (by decide) dX11_looked_48 ?_
        refine v_eqi (y := (f (113 + k))) (hbm k (by omega) (by omega)) ?_
        refine v_icmp_eq (pc := 49) 54 dX11_looked_49 (by decide) (by unfold iB; omega) (by unfold iB; omega) (fun c_4 => ?_) (fun c_4 => ?_)
        · skip
          refine v_iinc (pc := 54) 2 (L2 := [(1, ai (k + 1)), (2, ar (pl (f (105 + k)))), (0, ar mo)]) rfl rfl (by decide) dX11_looked_54 ?_
          refine v_goto (pc := 57) 2 dX11_looked_57 (by decide) ?_
          refine v_sub (L2 := [(0, ar mo), (1, ai (k + 1))]) [2, 0] rfl ?_
          exact ih _ (by omega) (k + 1) m2_2 fa2_3 rfl (by omega) (by rw [hlk, hlk2, if_neg (by omega)])
        · skip
          refine v_iload_n (pc := 52) 2 rfl dX11_looked_52 ?_
          exact hret (m2_2, fa2_3) _ _ _ _ _ _ trivial (congrArg (fun z => some (ai z)) (by rw [hlk, hlk2, if_pos (by omega)])) rfl (Nat.le_of_ble_eq_true rfl) (Nat.le_of_ble_eq_true rfl) dX11_looked_53
  refine v_sub (L2 := [(0, ar mo), (1, ai 0)]) [1, 0] rfl ?_
  exact lp2 _ 0 m fa0 rfl (by omega) (by unfold qLooked; rw [show f 3 - 0 = f 3 by omega])
