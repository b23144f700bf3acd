theorem flP_11_92 {kd : Int} (h : 0 ≤ kd ∧ kd ≤ 6) : FL RX11 92 (kC kd) 8 := by
  rcases (show kd = 0 ∨ kd = 1 ∨ kd = 2 ∨ kd = 3 ∨ kd = 4 ∨ kd = 5 ∨ kd = 6 by omega) with rfl | rfl | rfl | rfl | rfl | rfl | rfl
  · exact fl_11_92_5
  · exact fl_11_92_8
  · exact fl_11_92_0
  · exact fl_11_92_7
  · exact fl_11_92_1
  · exact fl_11_92_2
  · exact fl_11_92_9
theorem skr_0 {s : Int} (h : 0 ≤ s ∧ s ≤ 20) : skr s 0 = s := by
  unfold skr
  split <;> omega
set_option maxHeartbeats 4000000 in
set_option maxRecDepth 100000 in
theorem c_X11_plan {gS : sG} (mo : Nat) (kw : Nat) (pi : Nat) (ta : Nat) (ms : Nat) (pt : Nat) (po : Nat) (hi : Int) (nw : Nat) (pls : Nat) (ins : Nat) (tap : Nat) (e3 : Nat) (e4 : Nat) (e5 : Nat) (e6 : Nat) (e7 : Nat) (e8 : Nat) (bar : Nat) (fa : Nat) (m : Nat → Int) (fa0 : Int → Int) (iv : Int → Option Nat) (hq : Nat) (ns : Int) (us : Int) (sla : Nat) (ena : Nat) (cda : Nat) (cd : Int → Int) (sl : Int → Int) (en : Int → Int) (pv : Int → Option Nat) (pl : Int → Nat) (tu : Int → Nat) (f : Int → Int) (po0 : Int → Int) (player : Int) (tries : Int) (part : Int) (hS : SOK f) (hI : inC f iv bar hq ns us sl en cd) (hpv : ∀ i : Int, 0 ≤ i → i ≤ f 0 - 1 → pv i = some (pl i)) (hb_player : -2147483648 ≤ player ∧ player < 2147483648) (hb_tries : -2147483648 ≤ tries ∧ tries < 2147483648) (hb_part : -2147483648 ≤ part ∧ part < 2147483648) : Ct gS (S := (Int → Int) × (Nat → Int) × (Int → Int)) yX11_plan cX11_plan 5 (some .long) 7 240 0 0 [ar mo, ai player, ai tries, ai part] [(po, cn 0 36 po0), (pi, co 4 (pO fa m)), (fa, cn 0 6 fa0)] (fun q => q ∈ ([(mo, co 11 [ar nw, ar kw, ar pi, ar ta, ar ms, ar pt, ar po, ai hi]), (nw, co 10 [ar pls, ar ins, ar tap, ar e3, ar e4, ar e5, ar e6, ar e7, ar e8, ai (f 0), ai (f 1), ai (f 4), ai (f 2), ai (f 3), ai (f 6), ar bar]), (pls, cq 3 6 pv), (ins, cq 2 5 iv), (hq, co 3 [ai (kWide f), ai (kPay f), ai ns, ai us, ar sla, ar ena, ar cda]), (cda, cn 0 100 cd), (sla, cn 0 10 sl), (ena, cn 0 10 en)] : aW) ++ zpA ta f pl tu) (fun u => True) (fun u => some (al (qPlan f player tries part))) (fun u => [(po, cn 0 36 u.1), (pi, co 4 (pO fa u.2.1)), (fa, cn 0 6 u.2.2)]) := by
  refine ct_L RX11 [(0, ar mo), (1, ai player), (2, ai tries), (3, ai part)] (by decide) rfl (Nat.le_of_ble_eq_true rfl) rfl (fun x hgS hro hret => ?_)
  subst hgS
  have r0 := hro _ (List.mem_append_left _ (mem_at 0 rfl))
  have r1 := hro _ (List.mem_append_left _ (mem_at 1 rfl))
  have r2 := hro _ (List.mem_append_left _ (mem_at 2 rfl))
  have r3 := hro _ (List.mem_append_left _ (mem_at 3 rfl))
  have r4 := hro _ (List.mem_append_left _ (mem_at 4 rfl))
  have r5 := hro _ (List.mem_append_left _ (mem_at 5 rfl))
  have r6 := hro _ (List.mem_append_left _ (mem_at 6 rfl))
  have r7 := hro _ (List.mem_append_left _ (mem_at 7 rfl))
  have hra : ∀ q, q ∈ zpA ta f pl tu → Ro x q := fun q h => hro _ (List.mem_append_right _ h)
  obtain ⟨⟨hg0, hg1, hg2, hg3, hg4, hg5, hg6, hg7⟩, hSp, hSh, hSs, hSb, hSt, hSw⟩ := id hS
  show V x cX11_plan RX11 5 (rmU 7 240 0 0) [(po, cn 0 36 po0), (pi, co 4 (pO fa m)), (fa, cn 0 6 fa0)] 0 [(0, ar mo), (1, ai player), (2, ai tries), (3, ai part)] [] 0 0
  refine v_aload_n (pc := 0) 0 rfl dX11_plan_0 ?_
  refine v_iload_n (pc := 1) 1 rfl dX11_plan_1 ?_
  rcases Classical.em (0 ≤ player ∧ player ≤ f 0 - 1) with hp | hp
  · skip
    have hpl := hpv player hp.1 hp.2
    have rP := hra _ (zpA_p (ta := ta) (pl := pl) (tu := tu) hp)
    have rQ := hra _ (zpA_t (ta := ta) (pl := pl) (tu := tu) hp)
    have hp6 : 0 ≤ player ∧ player < 6 := by omega
    obtain ⟨hpp, hf1, hf2, hf3, hf4, hf5, hf6, hf7, hf8⟩ := hSp player hp6.1 hp6.2
    refine v_callV (pc := 2) [] [0, 1, 2] [(po, cn 0 36 po0), (pi, co 4 (pO fa m)), (fa, cn 0 6 fa0)] (As := [ai player]) (rest := []) (c_X11_find_y mo kw pi ta ms pt po hi nw pls ins tap e3 e4 e5 e6 e7 e8 bar pv (pl player) f player (by assumption) (by exact hpl) (by exact hp)) (c := 11) rfl (Or.inl r0) wl_X11_99 wi_X11_find wv_X11_X11_find_X11_find wk_X11_find wz_X11 md_X11_find rfl (Nat.le_of_ble_eq_true rfl) ⟨Nat.le_of_ble_eq_true rfl, Nat.le_of_ble_eq_true rfl, Nat.le_of_ble_eq_true rfl, Nat.le_of_ble_eq_true rfl⟩ rfl rfl rfl rfl (by decide) (ro_cons (Or.inl r0) (ro_cons (Or.inl r1) (ro_cons (Or.inl r2) ro_nil))) dX11_plan_2 (fun u hu => ?_)
    show V x cX11_plan RX11 5 (rmU 7 240 0 0) [(po, cn 0 36 po0), (pi, co 4 (pO fa m)), (fa, cn 0 6 fa0)] 5 [(0, ar mo), (1, ai player), (2, ai tries), (3, ai part)] [ar (pl player)] 0 0
    refine v_astore (pc := 5) (L2 := [(4, ar (pl player)), (0, ar mo), (1, ai player), (2, ai tries), (3, ai part)]) rfl (by decide) dX11_plan_5 ?_
    refine v_aload (pc := 7) 0 rfl dX11_plan_7 ?_
    refine v_ifnull_r (pc := 9) dX11_plan_9 ?_
    refine v_iload_n (pc := 12) 3 rfl dX11_plan_12 ?_
    refine v_iconst (pc := 13) dX11_plan_13 ?_
    refine v_iconst (pc := 14) dX11_plan_14 ?_
    refine v_callS (pc := 15) [] [0, 1, 2] [(po, cn 0 36 po0), (pi, co 4 (pO fa m)), (fa, cn 0 6 fa0)] (As := [ai tries, ai 1, ai 3]) (rest := []) (c_X11_isOut tries 1 3 (by first | omega | assumption) (by first | omega | assumption) (by first | omega | assumption)) wl_X11_41 ws_X11_isOut wk_X11_isOut wz_X11 md_X11_isOut rfl (Nat.le_of_ble_eq_true rfl) ⟨Nat.le_of_ble_eq_true rfl, Nat.le_of_ble_eq_true rfl, Nat.le_of_ble_eq_true rfl, Nat.le_of_ble_eq_true rfl⟩ rfl rfl rfl rfl (by decide) ro_nil dX11_plan_15 (fun u hu => ?_)
    show V x cX11_plan RX11 5 (rmU 7 240 0 0) [(po, cn 0 36 po0), (pi, co 4 (pO fa m)), (fa, cn 0 6 fa0)] 18 [(4, ar (pl player)), (0, ar mo), (1, ai player), (2, ai tries), (3, ai part)] [ai (if tries < 1 ∨ 3 < tries then 1 else 0)] 0 0
    refine v_ifb_ne (pc := 18) 28 dX11_plan_18 (by decide) (fun c_1 => ?_) (fun c_1 => ?_)
    · skip
      refine v_ldc2 (pc := 28) (z := (-9223372036854775808)) (bw_mem 727 (by decide +kernel) rfl) dX11_plan_28 ?_
      exact hret (po0, m, fa0) _ _ _ _ _ _ trivial (congrArg (fun z => some (al z)) (by unfold qPlan; (repeat' split) <;> first | rfl | (exfalso; omega) | omega)) rfl (Nat.le_of_ble_eq_true rfl) (Nat.le_of_ble_eq_true rfl) dX11_plan_31
    · skip
      refine v_iload_n (pc := 21) 4 rfl dX11_plan_21 ?_
      refine v_callS (pc := 22) [] [0, 1, 2] [(po, cn 0 36 po0), (pi, co 4 (pO fa m)), (fa, cn 0 6 fa0)] (As := [ai part]) (rest := []) (c_X11_isNoPart part (by first | omega | assumption)) wl_X11_166 ws_X11_isNoPart wk_X11_isNoPart wz_X11 md_X11_isNoPart rfl (Nat.le_of_ble_eq_true rfl) ⟨Nat.le_of_ble_eq_true rfl, Nat.le_of_ble_eq_true rfl, Nat.le_of_ble_eq_true rfl, Nat.le_of_ble_eq_true rfl⟩ rfl rfl rfl rfl (by decide) ro_nil dX11_plan_22 (fun u hu => ?_)
      show V x cX11_plan RX11 5 (rmU 7 240 0 0) [(po, cn 0 36 po0), (pi, co 4 (pO fa m)), (fa, cn 0 6 fa0)] 25 [(4, ar (pl player)), (0, ar mo), (1, ai player), (2, ai tries), (3, ai part)] [ai (if part < 0 ∨ 1 < part then 1 else 0)] 0 0
      refine v_ifb_eq (pc := 25) 32 dX11_plan_25 (by decide) (fun c_2 => ?_) (fun c_2 => ?_)
      · skip
        rcases (show tries = 1 ∨ tries = 2 ∨ tries = 3 by omega) with rfl | rfl | rfl
        · skip
          refine v_aload_n (pc := 32) 1 rfl dX11_plan_32 ?_
          refine v_aload (pc := 33) 0 rfl dX11_plan_33 ?_
          refine v_iload_n (pc := 35) 3 rfl dX11_plan_35 ?_
          refine v_callV (pc := 36) [1, 2, 0] [] [] (As := [ar (pl player), ai 1]) (rest := []) (c_X11_fillPlanOdds mo kw pi ta ms pt po hi nw pls ins tap e3 e4 e5 e6 e7 e8 bar fa m fa0 iv hq ns us sla ena cda cd sl en (pl player) (tu player) f player 1 po0 (by assumption) (by assumption) (by first | omega | assumption) (by first | omega | assumption)) (c := 11) rfl (Or.inl r0) wl_X11_199 wi_X11_fillPlanOdds wv_X11_X11_fillPlanOdds_X11_fillPlanOdds wk_X11_fillPlanOdds wz_X11 md_X11_fillPlanOdds rfl (Nat.le_of_ble_eq_true rfl) ⟨Nat.le_of_ble_eq_true rfl, Nat.le_of_ble_eq_true rfl, Nat.le_of_ble_eq_true rfl, Nat.le_of_ble_eq_true rfl⟩ rfl rfl rfl rfl (by decide) (ro_cons (Or.inl r0) (ro_cons (Or.inl r1) (ro_cons (Or.inl r3) (ro_cons (Or.inl r4) (ro_cons (Or.inl r5) (ro_cons (Or.inl r6) (ro_cons (Or.inl r7) (ro_cons (Or.inl rP) (ro_cons (Or.inl rQ) ro_nil))))))))) dX11_plan_36 (fun u hu => ?_)
          obtain ⟨po2_3, m2_4, fa2_5⟩ := u
          have g_6 : pOK f player 1 po2_3 := hu
          show V x cX11_plan RX11 5 (rmU 7 240 0 0) [(po, cn 0 36 po2_3), (pi, co 4 (pO fa m2_4)), (fa, cn 0 6 fa2_5)] 39 [(4, ar (pl player)), (0, ar mo), (1, ai player), (2, ai 1), (3, ai part)] [] 0 0
          have hpo := g_6
          refine v_aload_n (pc := 39) 1 rfl dX11_plan_39 ?_
          refine v_aload (pc := 40) 0 rfl dX11_plan_40 ?_
          refine v_get (pc := 42) (v := ai (f (37 + player))) 7 (Or.inl rP) (flP_11_109 (by omega)) rfl dX11_plan_42 ?_
          refine v_iconst (pc := 45) dX11_plan_45 ?_
          refine v_iload_n (pc := 46) 3 rfl dX11_plan_46 ?_
          refine v_callV (pc := 47) [] [0, 1, 2] [(po, cn 0 36 po2_3), (pi, co 4 (pO fa m2_4)), (fa, cn 0 6 fa2_5)] (As := [ai (f (37 + player)), ai 0, ai 1]) (rest := []) (c_X11_planned_d1 mo kw pi ta ms pt po hi nw f player 1 po2_3 (f (37 + player)) 0 (by assumption) (by first | omega | assumption) (by omega) (by assumption) (by omega) (by omega)) (c := 11) rfl (Or.inl r0) wl_X11_202 wi_X11_planned wv_X11_X11_planned_X11_planned wk_X11_planned wz_X11 md_X11_planned rfl (Nat.le_of_ble_eq_true rfl) ⟨Nat.le_of_ble_eq_true rfl, Nat.le_of_ble_eq_true rfl, Nat.le_of_ble_eq_true rfl, Nat.le_of_ble_eq_true rfl⟩ rfl rfl rfl rfl (by decide) (ro_cons (Or.inl r0) (ro_cons (Or.inr ⟨0, rfl, by decide⟩) ro_nil)) dX11_plan_47 (fun u hu => ?_)
          show V x cX11_plan RX11 5 (rmU 7 240 0 0) [(po, cn 0 36 po2_3), (pi, co 4 (pO fa m2_4)), (fa, cn 0 6 fa2_5)] 50 [(4, ar (pl player)), (0, ar mo), (1, ai player), (2, ai 1), (3, ai part)] [al (plN (kPB f player) 1 (f (37 + player)) (skr (f (19 + player)) 0))] 0 0
          have hpw := plN_b (B := kPB f player) (fun _ _ => kPB_b) 1 (f (37 + player)) (skr (f (19 + player)) 0) (by omega) (by omega)
          refine v_iload_n (pc := 50) 3 rfl dX11_plan_50 ?_
          refine v_callS (pc := 51) [] [0, 1, 2] [(po, cn 0 36 po2_3), (pi, co 4 (pO fa m2_4)), (fa, cn 0 6 fa2_5)] (As := [ai 1]) (rest := [al (plN (kPB f player) 1 (f (37 + player)) (skr (f (19 + player)) 0))]) (c_X11_tenths 1 (by first | omega | assumption)) wl_X11_206 ws_X11_tenths wk_X11_tenths wz_X11 md_X11_tenths rfl (Nat.le_of_ble_eq_true rfl) ⟨Nat.le_of_ble_eq_true rfl, Nat.le_of_ble_eq_true rfl, Nat.le_of_ble_eq_true rfl, Nat.le_of_ble_eq_true rfl⟩ rfl rfl rfl rfl (by decide) ro_nil dX11_plan_51 (fun u hu => ?_)
          show V x cX11_plan RX11 5 (rmU 7 240 0 0) [(po, cn 0 36 po2_3), (pi, co 4 (pO fa m2_4)), (fa, cn 0 6 fa2_5)] 54 [(4, ar (pl player)), (0, ar mo), (1, ai player), (2, ai 1), (3, ai part)] [al (10 ^ (1 : Int).toNat), al (plN (kPB f player) 1 (f (37 + player)) (skr (f (19 + player)) 0))] 0 0
          refine v_iload_n (pc := 54) 4 rfl dX11_plan_54 ?_
          refine v_callS (pc := 55) [] [0, 1, 2] [(po, cn 0 36 po2_3), (pi, co 4 (pO fa m2_4)), (fa, cn 0 6 fa2_5)] (As := [al (plN (kPB f player) 1 (f (37 + player)) (skr (f (19 + player)) 0)), al (10 ^ (1 : Int).toNat), ai part]) (rest := []) (c_X11_lowest (plN (kPB f player) 1 (f (37 + player)) (skr (f (19 + player)) 0)) (10 ^ (1 : Int).toNat) part (by first | omega | assumption) (by exact ⟨by decide, by decide⟩) (by first | omega | assumption)) wl_X11_176 ws_X11_lowest wk_X11_lowest wz_X11 md_X11_lowest rfl (Nat.le_of_ble_eq_true rfl) ⟨Nat.le_of_ble_eq_true rfl, Nat.le_of_ble_eq_true rfl, Nat.le_of_ble_eq_true rfl, Nat.le_of_ble_eq_true rfl⟩ rfl rfl rfl rfl (by decide) ro_nil dX11_plan_55 (fun u hu => ?_)
          show V x cX11_plan RX11 5 (rmU 7 240 0 0) [(po, cn 0 36 po2_3), (pi, co 4 (pO fa m2_4)), (fa, cn 0 6 fa2_5)] 58 [(4, ar (pl player)), (0, ar mo), (1, ai player), (2, ai 1), (3, ai part)] [al (kFr (plN (kPB f player) 1 (f (37 + player)) (skr (f (19 + player)) 0)) (10 ^ (1 : Int).toNat) part)] 0 0
          exact hret (po2_3, m2_4, fa2_5) _ _ _ _ _ _ trivial (congrArg (fun z => some (al z)) (by rw [skr_0 hf3]; unfold qPlan; rw [if_neg (by omega)]; rfl)) rfl (Nat.le_of_ble_eq_true rfl) (Nat.le_of_ble_eq_true rfl) dX11_plan_58
        · skip
          refine v_aload_n (pc := 32) 1 rfl dX11_plan_32 ?_
          refine v_aload (pc := 33) 0 rfl dX11_plan_33 ?_
          refine v_iload_n (pc := 35) 3 rfl dX11_plan_35 ?_
          refine v_callV (pc := 36) [1, 2, 0] [] [] (As := [ar (pl player), ai 2]) (rest := []) (c_X11_fillPlanOdds mo kw pi ta ms pt po hi nw pls ins tap e3 e4 e5 e6 e7 e8 bar fa m fa0 iv hq ns us sla ena cda cd sl en (pl player) (tu player) f player 2 po0 (by assumption) (by assumption) (by first | omega | assumption) (by first | omega | assumption)) (c := 11) rfl (Or.inl r0) wl_X11_199 wi_X11_fillPlanOdds wv_X11_X11_fillPlanOdds_X11_fillPlanOdds wk_X11_fillPlanOdds wz_X11 md_X11_fillPlanOdds rfl (Nat.le_of_ble_eq_true rfl) ⟨Nat.le_of_ble_eq_true rfl, Nat.le_of_ble_eq_true rfl, Nat.le_of_ble_eq_true rfl, Nat.le_of_ble_eq_true rfl⟩ rfl rfl rfl rfl (by decide) (ro_cons (Or.inl r0) (ro_cons (Or.inl r1) (ro_cons (Or.inl r3) (ro_cons (Or.inl r4) (ro_cons (Or.inl r5) (ro_cons (Or.inl r6) (ro_cons (Or.inl r7) (ro_cons (Or.inl rP) (ro_cons (Or.inl rQ) ro_nil))))))))) dX11_plan_36 (fun u hu => ?_)
          obtain ⟨po2_7, m2_8, fa2_9⟩ := u
          have g_10 : pOK f player 2 po2_7 := hu
          show V x cX11_plan RX11 5 (rmU 7 240 0 0) [(po, cn 0 36 po2_7), (pi, co 4 (pO fa m2_8)), (fa, cn 0 6 fa2_9)] 39 [(4, ar (pl player)), (0, ar mo), (1, ai player), (2, ai 2), (3, ai part)] [] 0 0
          have hpo := g_10
          refine v_aload_n (pc := 39) 1 rfl dX11_plan_39 ?_
          refine v_aload (pc := 40) 0 rfl dX11_plan_40 ?_
          refine v_get (pc := 42) (v := ai (f (37 + player))) 7 (Or.inl rP) (flP_11_109 (by omega)) rfl dX11_plan_42 ?_
          refine v_iconst (pc := 45) dX11_plan_45 ?_
          refine v_iload_n (pc := 46) 3 rfl dX11_plan_46 ?_
          refine v_callV (pc := 47) [] [0, 1, 2] [(po, cn 0 36 po2_7), (pi, co 4 (pO fa m2_8)), (fa, cn 0 6 fa2_9)] (As := [ai (f (37 + player)), ai 0, ai 2]) (rest := []) (c_X11_planned_d2 mo kw pi ta ms pt po hi nw f player 2 po2_7 (f (37 + player)) 0 (by assumption) (by first | omega | assumption) (by omega) (by assumption) (by omega) (by omega)) (c := 11) rfl (Or.inl r0) wl_X11_202 wi_X11_planned wv_X11_X11_planned_X11_planned wk_X11_planned wz_X11 md_X11_planned rfl (Nat.le_of_ble_eq_true rfl) ⟨Nat.le_of_ble_eq_true rfl, Nat.le_of_ble_eq_true rfl, Nat.le_of_ble_eq_true rfl, Nat.le_of_ble_eq_true rfl⟩ rfl rfl rfl rfl (by decide) (ro_cons (Or.inl r0) (ro_cons (Or.inr ⟨0, rfl, by decide⟩) ro_nil)) dX11_plan_47 (fun u hu => ?_)
          show V x cX11_plan RX11 5 (rmU 7 240 0 0) [(po, cn 0 36 po2_7), (pi, co 4 (pO fa m2_8)), (fa, cn 0 6 fa2_9)] 50 [(4, ar (pl player)), (0, ar mo), (1, ai player), (2, ai 2), (3, ai part)] [al (plN (kPB f player) 2 (f (37 + player)) (skr (f (19 + player)) 0))] 0 0
          have hpw := plN_b (B := kPB f player) (fun _ _ => kPB_b) 2 (f (37 + player)) (skr (f (19 + player)) 0) (by omega) (by omega)
          refine v_iload_n (pc := 50) 3 rfl dX11_plan_50 ?_
          refine v_callS (pc := 51) [] [0, 1, 2] [(po, cn 0 36 po2_7), (pi, co 4 (pO fa m2_8)), (fa, cn 0 6 fa2_9)] (As := [ai 2]) (rest := [al (plN (kPB f player) 2 (f (37 + player)) (skr (f (19 + player)) 0))]) (c_X11_tenths 2 (by first | omega | assumption)) wl_X11_206 ws_X11_tenths wk_X11_tenths wz_X11 md_X11_tenths rfl (Nat.le_of_ble_eq_true rfl) ⟨Nat.le_of_ble_eq_true rfl, Nat.le_of_ble_eq_true rfl, Nat.le_of_ble_eq_true rfl, Nat.le_of_ble_eq_true rfl⟩ rfl rfl rfl rfl (by decide) ro_nil dX11_plan_51 (fun u hu => ?_)
          show V x cX11_plan RX11 5 (rmU 7 240 0 0) [(po, cn 0 36 po2_7), (pi, co 4 (pO fa m2_8)), (fa, cn 0 6 fa2_9)] 54 [(4, ar (pl player)), (0, ar mo), (1, ai player), (2, ai 2), (3, ai part)] [al (10 ^ (2 : Int).toNat), al (plN (kPB f player) 2 (f (37 + player)) (skr (f (19 + player)) 0))] 0 0
          refine v_iload_n (pc := 54) 4 rfl dX11_plan_54 ?_
          refine v_callS (pc := 55) [] [0, 1, 2] [(po, cn 0 36 po2_7), (pi, co 4 (pO fa m2_8)), (fa, cn 0 6 fa2_9)] (As := [al (plN (kPB f player) 2 (f (37 + player)) (skr (f (19 + player)) 0)), al (10 ^ (2 : Int).toNat), ai part]) (rest := []) (c_X11_lowest (plN (kPB f player) 2 (f (37 + player)) (skr (f (19 + player)) 0)) (10 ^ (2 : Int).toNat) part (by first | omega | assumption) (by exact ⟨by decide, by decide⟩) (by first | omega | assumption)) wl_X11_176 ws_X11_lowest wk_X11_lowest wz_X11 md_X11_lowest rfl (Nat.le_of_ble_eq_true rfl) ⟨Nat.le_of_ble_eq_true rfl, Nat.le_of_ble_eq_true rfl, Nat.le_of_ble_eq_true rfl, Nat.le_of_ble_eq_true rfl⟩ rfl rfl rfl rfl (by decide) ro_nil dX11_plan_55 (fun u hu => ?_)
          show V x cX11_plan RX11 5 (rmU 7 240 0 0) [(po, cn 0 36 po2_7), (pi, co 4 (pO fa m2_8)), (fa, cn 0 6 fa2_9)] 58 [(4, ar (pl player)), (0, ar mo), (1, ai player), (2, ai 2), (3, ai part)] [al (kFr (plN (kPB f player) 2 (f (37 + player)) (skr (f (19 + player)) 0)) (10 ^ (2 : Int).toNat) part)] 0 0
          exact hret (po2_7, m2_8, fa2_9) _ _ _ _ _ _ trivial (congrArg (fun z => some (al z)) (by rw [skr_0 hf3]; unfold qPlan; rw [if_neg (by omega)]; rfl)) rfl (Nat.le_of_ble_eq_true rfl) (Nat.le_of_ble_eq_true rfl) dX11_plan_58
        · skip
          refine v_aload_n (pc := 32) 1 rfl dX11_plan_32 ?_
          refine v_aload (pc := 33) 0 rfl dX11_plan_33 ?_
          refine v_iload_n (pc := 35) 3 rfl dX11_plan_35 ?_
          refine v_callV (pc := 36) [1, 2, 0] [] [] (As := [ar (pl player), ai 3]) (rest := []) (c_X11_fillPlanOdds mo kw pi ta ms pt po hi nw pls ins tap e3 e4 e5 e6 e7 e8 bar fa m fa0 iv hq ns us sla ena cda cd sl en (pl player) (tu player) f player 3 po0 (by assumption) (by assumption) (by first | omega | assumption) (by first | omega | assumption)) (c := 11) rfl (Or.inl r0) wl_X11_199 wi_X11_fillPlanOdds wv_X11_X11_fillPlanOdds_X11_fillPlanOdds wk_X11_fillPlanOdds wz_X11 md_X11_fillPlanOdds rfl (Nat.le_of_ble_eq_true rfl) ⟨Nat.le_of_ble_eq_true rfl, Nat.le_of_ble_eq_true rfl, Nat.le_of_ble_eq_true rfl, Nat.le_of_ble_eq_true rfl⟩ rfl rfl rfl rfl (by decide) (ro_cons (Or.inl r0) (ro_cons (Or.inl r1) (ro_cons (Or.inl r3) (ro_cons (Or.inl r4) (ro_cons (Or.inl r5) (ro_cons (Or.inl r6) (ro_cons (Or.inl r7) (ro_cons (Or.inl rP) (ro_cons (Or.inl rQ) ro_nil))))))))) dX11_plan_36 (fun u hu => ?_)
          obtain ⟨po2_11, m2_12, fa2_13⟩ := u
          have g_14 : pOK f player 3 po2_11 := hu
          show V x cX11_plan RX11 5 (rmU 7 240 0 0) [(po, cn 0 36 po2_11), (pi, co 4 (pO fa m2_12)), (fa, cn 0 6 fa2_13)] 39 [(4, ar (pl player)), (0, ar mo), (1, ai player), (2, ai 3), (3, ai part)] [] 0 0
          have hpo := g_14
          refine v_aload_n (pc := 39) 1 rfl dX11_plan_39 ?_
          refine v_aload (pc := 40) 0 rfl dX11_plan_40 ?_
          refine v_get (pc := 42) (v := ai (f (37 + player))) 7 (Or.inl rP) (flP_11_109 (by omega)) rfl dX11_plan_42 ?_
          refine v_iconst (pc := 45) dX11_plan_45 ?_
          refine v_iload_n (pc := 46) 3 rfl dX11_plan_46 ?_
          refine v_callV (pc := 47) [] [0, 1, 2] [(po, cn 0 36 po2_11), (pi, co 4 (pO fa m2_12)), (fa, cn 0 6 fa2_13)] (As := [ai (f (37 + player)), ai 0, ai 3]) (rest := []) (c_X11_planned_d3 mo kw pi ta ms pt po hi nw f player 3 po2_11 (f (37 + player)) 0 (by assumption) (by first | omega | assumption) (by omega) (by assumption) (by omega) (by omega)) (c := 11) rfl (Or.inl r0) wl_X11_202 wi_X11_planned wv_X11_X11_planned_X11_planned wk_X11_planned wz_X11 md_X11_planned rfl (Nat.le_of_ble_eq_true rfl) ⟨Nat.le_of_ble_eq_true rfl, Nat.le_of_ble_eq_true rfl, Nat.le_of_ble_eq_true rfl, Nat.le_of_ble_eq_true rfl⟩ rfl rfl rfl rfl (by decide) (ro_cons (Or.inl r0) (ro_cons (Or.inr ⟨0, rfl, by decide⟩) ro_nil)) dX11_plan_47 (fun u hu => ?_)
          show V x cX11_plan RX11 5 (rmU 7 240 0 0) [(po, cn 0 36 po2_11), (pi, co 4 (pO fa m2_12)), (fa, cn 0 6 fa2_13)] 50 [(4, ar (pl player)), (0, ar mo), (1, ai player), (2, ai 3), (3, ai part)] [al (plN (kPB f player) 3 (f (37 + player)) (skr (f (19 + player)) 0))] 0 0
          have hpw := plN_b (B := kPB f player) (fun _ _ => kPB_b) 3 (f (37 + player)) (skr (f (19 + player)) 0) (by omega) (by omega)
          refine v_iload_n (pc := 50) 3 rfl dX11_plan_50 ?_
          refine v_callS (pc := 51) [] [0, 1, 2] [(po, cn 0 36 po2_11), (pi, co 4 (pO fa m2_12)), (fa, cn 0 6 fa2_13)] (As := [ai 3]) (rest := [al (plN (kPB f player) 3 (f (37 + player)) (skr (f (19 + player)) 0))]) (c_X11_tenths 3 (by first | omega | assumption)) wl_X11_206 ws_X11_tenths wk_X11_tenths wz_X11 md_X11_tenths rfl (Nat.le_of_ble_eq_true rfl) ⟨Nat.le_of_ble_eq_true rfl, Nat.le_of_ble_eq_true rfl, Nat.le_of_ble_eq_true rfl, Nat.le_of_ble_eq_true rfl⟩ rfl rfl rfl rfl (by decide) ro_nil dX11_plan_51 (fun u hu => ?_)
          show V x cX11_plan RX11 5 (rmU 7 240 0 0) [(po, cn 0 36 po2_11), (pi, co 4 (pO fa m2_12)), (fa, cn 0 6 fa2_13)] 54 [(4, ar (pl player)), (0, ar mo), (1, ai player), (2, ai 3), (3, ai part)] [al (10 ^ (3 : Int).toNat), al (plN (kPB f player) 3 (f (37 + player)) (skr (f (19 + player)) 0))] 0 0
          refine v_iload_n (pc := 54) 4 rfl dX11_plan_54 ?_
          refine v_callS (pc := 55) [] [0, 1, 2] [(po, cn 0 36 po2_11), (pi, co 4 (pO fa m2_12)), (fa, cn 0 6 fa2_13)] (As := [al (plN (kPB f player) 3 (f (37 + player)) (skr (f (19 + player)) 0)), al (10 ^ (3 : Int).toNat), ai part]) (rest := []) (c_X11_lowest (plN (kPB f player) 3 (f (37 + player)) (skr (f (19 + player)) 0)) (10 ^ (3 : Int).toNat) part (by first | omega | assumption) (by exact ⟨by decide, by decide⟩) (by first | omega | assumption)) wl_X11_176 ws_X11_lowest wk_X11_lowest wz_X11 md_X11_lowest rfl (Nat.le_of_ble_eq_true rfl) ⟨Nat.le_of_ble_eq_true rfl, Nat.le_of_ble_eq_true rfl, Nat.le_of_ble_eq_true rfl, Nat.le_of_ble_eq_true rfl⟩ rfl rfl rfl rfl (by decide) ro_nil dX11_plan_55 (fun u hu => ?_)
          show V x cX11_plan RX11 5 (rmU 7 240 0 0) [(po, cn 0 36 po2_11), (pi, co 4 (pO fa m2_12)), (fa, cn 0 6 fa2_13)] 58 [(4, ar (pl player)), (0, ar mo), (1, ai player), (2, ai 3), (3, ai part)] [al (kFr (plN (kPB f player) 3 (f (37 + player)) (skr (f (19 + player)) 0)) (10 ^ (3 : Int).toNat) part)] 0 0
          exact hret (po2_11, m2_12, fa2_13) _ _ _ _ _ _ trivial (congrArg (fun z => some (al z)) (by rw [skr_0 hf3]; unfold qPlan; rw [if_neg (by omega)]; rfl)) rfl (Nat.le_of_ble_eq_true rfl) (Nat.le_of_ble_eq_true rfl) dX11_plan_58
      · skip
        refine v_ldc2 (pc := 28) (z := (-9223372036854775808)) (bw_mem 727 (by decide +kernel) rfl) dX11_plan_28 ?_
        exact hret (po0, m, fa0) _ _ _ _ _ _ trivial (congrArg (fun z => some (al z)) (by unfold qPlan; (repeat' split) <;> first | rfl | (exfalso; omega) | omega)) rfl (Nat.le_of_ble_eq_true rfl) (Nat.le_of_ble_eq_true rfl) dX11_plan_31
  · skip
    refine v_callV (pc := 2) [] [0, 1, 2] [(po, cn 0 36 po0), (pi, co 4 (pO fa m)), (fa, cn 0 6 fa0)] (As := [ai player]) (rest := []) (c_X11_find_n mo kw pi ta ms pt po hi nw pls ins tap e3 e4 e5 e6 e7 e8 bar pv f player (by assumption) (by exact hp) (by first | omega | assumption)) (c := 11) rfl (Or.inl r0) wl_X11_99 wi_X11_find wv_X11_X11_find_X11_find wk_X11_find wz_X11 md_X11_find rfl (Nat.le_of_ble_eq_true rfl) ⟨Nat.le_of_ble_eq_true rfl, Nat.le_of_ble_eq_true rfl, Nat.le_of_ble_eq_true rfl, Nat.le_of_ble_eq_true rfl⟩ rfl rfl rfl rfl (by decide) (ro_cons (Or.inl r0) (ro_cons (Or.inl r1) (ro_cons (Or.inl r2) ro_nil))) dX11_plan_2 (fun u hu => ?_)
    show V x cX11_plan RX11 5 (rmU 7 240 0 0) [(po, cn 0 36 po0), (pi, co 4 (pO fa m)), (fa, cn 0 6 fa0)] 5 [(0, ar mo), (1, ai player), (2, ai tries), (3, ai part)] [an] 0 0
    refine v_astore (pc := 5) (L2 := [(4, an), (0, ar mo), (1, ai player), (2, ai tries), (3, ai part)]) rfl (by decide) dX11_plan_5 ?_
    refine v_aload (pc := 7) 0 rfl dX11_plan_7 ?_
    refine v_ifnull_n (pc := 9) 28 dX11_plan_9 (by decide) ?_
    refine v_ldc2 (pc := 28) (z := (-9223372036854775808)) (bw_mem 727 (by decide +kernel) rfl) dX11_plan_28 ?_
    exact hret (po0, m, fa0) _ _ _ _ _ _ trivial (congrArg (fun z => some (al z)) (by unfold qPlan; (repeat' split) <;> first | rfl | (exfalso; omega) | omega)) rfl (Nat.le_of_ble_eq_true rfl) (Nat.le_of_ble_eq_true rfl) dX11_plan_31
set_option maxHeartbeats 4000000 in
set_option maxRecDepth 100000 in
theorem c_X11_first_o {gS : sG} (mo : Nat) (kw : Nat) (pi : Nat) (ta : Nat) (ms : Nat) (pt : Nat) (po : Nat) (hi : Int) (nw : Nat) (pls : Nat) (ins : Nat) (tap : Nat) (e3 : Nat) (e4 : Nat) (e5 : Nat) (e6 : Nat) (e7 : Nat) (e8 : Nat) (bar : Nat) (fa : Nat) (m : Nat → Int) (fa0 : Int → Int) (iv : Int → Option Nat) (hq : Nat) (ns : Int) (us : Int) (sla : Nat) (ena : Nat) (cda : Nat) (cd : Int → Int) (sl : Int → Int) (en : Int → Int) (pv : Int → Option Nat) (pl : Int → Nat) (tu : Int → Nat) (f : Int → Int) (po0 : Int → Int) (player : Int) (tries : Int) (hS : SOK f) (hI : inC f iv bar hq ns us sl en cd) (hpv : ∀ i : Int, 0 ≤ i → i ≤ f 0 - 1 → pv i = some (pl i)) (htr : ¬ (1 ≤ tries ∧ tries ≤ 3)) (hb_player : -2147483648 ≤ player ∧ player < 2147483648) (hb_tries : -2147483648 ≤ tries ∧ tries < 2147483648) : Ct gS (S := (Int → Int) × (Nat → Int) × (Int → Int)) yX11_first cX11_first 12 (some .int) 7 240 0 0 [ar mo, ai player, ai tries] [(po, cn 0 36 po0), (pi, co 4 (pO fa m)), (fa, cn 0 6 fa0)] (fun q => q ∈ ([(mo, co 11 [ar nw, ar kw, ar pi, ar ta, ar ms, ar pt, ar po, ai hi]), (nw, co 10 [ar pls, ar ins, ar tap, ar e3, ar e4, ar e5, ar e6, ar e7, ar e8, ai (f 0), ai (f 1), ai (f 4), ai (f 2), ai (f 3), ai (f 6), ar bar]), (pls, cq 3 6 pv), (ins, cq 2 5 iv), (hq, co 3 [ai (kWide f), ai (kPay f), ai ns, ai us, ar sla, ar ena, ar cda]), (cda, cn 0 100 cd), (sla, cn 0 10 sl), (ena, cn 0 10 en)] : aW) ++ zpA ta f pl tu) (fun u => True) (fun u => some (ai (qFirst f player tries))) (fun u => [(po, cn 0 36 u.1), (pi, co 4 (pO fa u.2.1)), (fa, cn 0 6 u.2.2)]) := by
  refine ct_I RX11 [(0, ar mo), (1, ai player), (2, ai tries)] (by decide) rfl (Nat.le_of_ble_eq_true rfl) rfl (fun x hgS hro hret => ?_)
  subst hgS
  have r0 := hro _ (List.mem_append_left _ (mem_at 0 rfl))
  have r1 := hro _ (List.mem_append_left _ (mem_at 1 rfl))
  have r2 := hro _ (List.mem_append_left _ (mem_at 2 rfl))
  have r3 := hro _ (List.mem_append_left _ (mem_at 3 rfl))
  have r4 := hro _ (List.mem_append_left _ (mem_at 4 rfl))
  have r5 := hro _ (List.mem_append_left _ (mem_at 5 rfl))
  have r6 := hro _ (List.mem_append_left _ (mem_at 6 rfl))
  have r7 := hro _ (List.mem_append_left _ (mem_at 7 rfl))
  have hra : ∀ q, q ∈ zpA ta f pl tu → Ro x q := fun q h => hro _ (List.mem_append_right _ h)
  obtain ⟨⟨hg0, hg1, hg2, hg3, hg4, hg5, hg6, hg7⟩, hSp, hSh, hSs, hSb, hSt, hSw⟩ := id hS
  show V x cX11_first RX11 12 (rmU 7 240 0 0) [(po, cn 0 36 po0), (pi, co 4 (pO fa m)), (fa, cn 0 6 fa0)] 0 [(0, ar mo), (1, ai player), (2, ai tries)] [] 0 0
  refine v_aload_n (pc := 0) 0 rfl dX11_first_0 ?_
  refine v_iload_n (pc := 1) 1 rfl dX11_first_1 ?_
  rcases Classical.em (0 ≤ player ∧ player ≤ f 0 - 1) with hp | hp
  · skip
    have hpl := hpv player hp.1 hp.2
    have rP := hra _ (zpA_p (ta := ta) (pl := pl) (tu := tu) hp)
    have rQ := hra _ (zpA_t (ta := ta) (pl := pl) (tu := tu) hp)
    have hp6 : 0 ≤ player ∧ player < 6 := by omega
    obtain ⟨hpp, hf1, hf2, hf3, hf4, hf5, hf6, hf7, hf8⟩ := hSp player hp6.1 hp6.2
    refine v_callV (pc := 2) [] [0, 1, 2] [(po, cn 0 36 po0), (pi, co 4 (pO fa m)), (fa, cn 0 6 fa0)] (As := [ai player]) (rest := []) (c_X11_find_y mo kw pi ta ms pt po hi nw pls ins tap e3 e4 e5 e6 e7 e8 bar pv (pl player) f player (by assumption) (by exact hpl) (by exact hp)) (c := 11) rfl (Or.inl r0) wl_X11_99 wi_X11_find wv_X11_X11_find_X11_find wk_X11_find wz_X11 md_X11_find rfl (Nat.le_of_ble_eq_true rfl) ⟨Nat.le_of_ble_eq_true rfl, Nat.le_of_ble_eq_true rfl, Nat.le_of_ble_eq_true rfl, Nat.le_of_ble_eq_true rfl⟩ rfl rfl rfl rfl (by decide) (ro_cons (Or.inl r0) (ro_cons (Or.inl r1) (ro_cons (Or.inl r2) ro_nil))) dX11_first_2 (fun u hu => ?_)
    show V x cX11_first RX11 12 (rmU 7 240 0 0) [(po, cn 0 36 po0), (pi, co 4 (pO fa m)), (fa, cn 0 6 fa0)] 5 [(0, ar mo), (1, ai player), (2, ai tries)] [ar (pl player)] 0 0
    refine v_astore_n (pc := 5) (L2 := [(3, ar (pl player)), (0, ar mo), (1, ai player), (2, ai tries)]) rfl (by decide) dX11_first_5 ?_
    refine v_aload_n (pc := 6) 0 rfl dX11_first_6 ?_
    refine v_ifnonnull_r (pc := 7) 12 dX11_first_7 (by decide) ?_
    refine v_iload_n (pc := 12) 3 rfl dX11_first_12 ?_
    refine v_iconst (pc := 13) dX11_first_13 ?_
    refine v_iconst (pc := 14) dX11_first_14 ?_
    refine v_callS (pc := 15) [] [0, 1, 2] [(po, cn 0 36 po0), (pi, co 4 (pO fa m)), (fa, cn 0 6 fa0)] (As := [ai tries, ai 1, ai 3]) (rest := []) (c_X11_isOut tries 1 3 (by first | omega | assumption) (by first | omega | assumption) (by first | omega | assumption)) wl_X11_41 ws_X11_isOut wk_X11_isOut wz_X11 md_X11_isOut rfl (Nat.le_of_ble_eq_true rfl) ⟨Nat.le_of_ble_eq_true rfl, Nat.le_of_ble_eq_true rfl, Nat.le_of_ble_eq_true rfl, Nat.le_of_ble_eq_true rfl⟩ rfl rfl rfl rfl (by decide) ro_nil dX11_first_15 (fun u hu => ?_)
    show V x cX11_first RX11 12 (rmU 7 240 0 0) [(po, cn 0 36 po0), (pi, co 4 (pO fa m)), (fa, cn 0 6 fa0)] 18 [(3, ar (pl player)), (0, ar mo), (1, ai player), (2, ai tries)] [ai (if tries < 1 ∨ 3 < tries then 1 else 0)] 0 0
    refine v_ifb_eq (pc := 18) 24 dX11_first_18 (by decide) (fun c_1 => ?_) (fun c_1 => ?_)
    · skip
      exfalso; omega
    · skip
      refine v_bipush (pc := 21) dX11_first_21 (by decide) ?_
      exact hret (po0, m, fa0) _ _ _ _ _ _ trivial (congrArg (fun z => some (ai z)) (by unfold qFirst; (repeat' split) <;> first | rfl | (exfalso; omega) | omega)) rfl (Nat.le_of_ble_eq_true rfl) (Nat.le_of_ble_eq_true rfl) dX11_first_23
  · skip
    refine v_callV (pc := 2) [] [0, 1, 2] [(po, cn 0 36 po0), (pi, co 4 (pO fa m)), (fa, cn 0 6 fa0)] (As := [ai player]) (rest := []) (c_X11_find_n mo kw pi ta ms pt po hi nw pls ins tap e3 e4 e5 e6 e7 e8 bar pv f player (by assumption) (by exact hp) (by first | omega | assumption)) (c := 11) rfl (Or.inl r0) wl_X11_99 wi_X11_find wv_X11_X11_find_X11_find wk_X11_find wz_X11 md_X11_find rfl (Nat.le_of_ble_eq_true rfl) ⟨Nat.le_of_ble_eq_true rfl, Nat.le_of_ble_eq_true rfl, Nat.le_of_ble_eq_true rfl, Nat.le_of_ble_eq_true rfl⟩ rfl rfl rfl rfl (by decide) (ro_cons (Or.inl r0) (ro_cons (Or.inl r1) (ro_cons (Or.inl r2) ro_nil))) dX11_first_2 (fun u hu => ?_)
    show V x cX11_first RX11 12 (rmU 7 240 0 0) [(po, cn 0 36 po0), (pi, co 4 (pO fa m)), (fa, cn 0 6 fa0)] 5 [(0, ar mo), (1, ai player), (2, ai tries)] [an] 0 0
    refine v_astore_n (pc := 5) (L2 := [(3, an), (0, ar mo), (1, ai player), (2, ai tries)]) rfl (by decide) dX11_first_5 ?_
    refine v_aload_n (pc := 6) 0 rfl dX11_first_6 ?_
    refine v_ifnonnull_n (pc := 7) dX11_first_7 ?_
    refine v_iconst (pc := 10) dX11_first_10 ?_
    exact hret (po0, m, fa0) _ _ _ _ _ _ trivial (congrArg (fun z => some (ai z)) (by unfold qFirst; (repeat' split) <;> first | rfl | (exfalso; omega) | omega)) rfl (Nat.le_of_ble_eq_true rfl) (Nat.le_of_ble_eq_true rfl) dX11_first_11
set_option maxHeartbeats 4000000 in
set_option maxRecDepth 100000 in
theorem c_X11_first_t1 {gS : sG} (mo : Nat) (kw : Nat) (pi : Nat) (ta : Nat) (ms : Nat) (pt : Nat) (po : Nat) (hi : Int) (nw : Nat) (pls : Nat) (ins : Nat) (tap : Nat) (e3 : Nat) (e4 : Nat) (e5 : Nat) (e6 : Nat) (e7 : Nat) (e8 : Nat) (bar : Nat) (fa : Nat) (m : Nat → Int) (fa0 : Int → Int) (iv : Int → Option Nat) (hq : Nat) (ns : Int) (us : Int) (sla : Nat) (ena : Nat) (cda : Nat) (cd : Int → Int) (sl : Int → Int) (en : Int → Int) (pv : Int → Option Nat) (pl : Int → Nat) (tu : Int → Nat) (f : Int → Int) (po0 : Int → Int) (player : Int) (hS : SOK f) (hI : inC f iv bar hq ns us sl en cd) (hpv : ∀ i : Int, 0 ≤ i → i ≤ f 0 - 1 → pv i = some (pl i)) (hb_player : -2147483648 ≤ player ∧ player < 2147483648) : Ct gS (S := (Int → Int) × (Nat → Int) × (Int → Int)) yX11_first cX11_first 12 (some .int) 7 240 0 0 [ar mo, ai player, ai 1] [(po, cn 0 36 po0), (pi, co 4 (pO fa m)), (fa, cn 0 6 fa0)] (fun q => q ∈ ([(mo, co 11 [ar nw, ar kw, ar pi, ar ta, ar ms, ar pt, ar po, ai hi]), (nw, co 10 [ar pls, ar ins, ar tap, ar e3, ar e4, ar e5, ar e6, ar e7, ar e8, ai (f 0), ai (f 1), ai (f 4), ai (f 2), ai (f 3), ai (f 6), ar bar]), (pls, cq 3 6 pv), (ins, cq 2 5 iv), (hq, co 3 [ai (kWide f), ai (kPay f), ai ns, ai us, ar sla, ar ena, ar cda]), (cda, cn 0 100 cd), (sla, cn 0 10 sl), (ena, cn 0 10 en)] : aW) ++ zpA ta f pl tu) (fun u => True) (fun u => some (ai (qFirst f player 1))) (fun u => [(po, cn 0 36 u.1), (pi, co 4 (pO fa u.2.1)), (fa, cn 0 6 u.2.2)]) := by
  refine ct_I RX11 [(0, ar mo), (1, ai player), (2, ai 1)] (by decide) rfl (Nat.le_of_ble_eq_true rfl) rfl (fun x hgS hro hret => ?_)
  subst hgS
  have r0 := hro _ (List.mem_append_left _ (mem_at 0 rfl))
  have r1 := hro _ (List.mem_append_left _ (mem_at 1 rfl))
  have r2 := hro _ (List.mem_append_left _ (mem_at 2 rfl))
  have r3 := hro _ (List.mem_append_left _ (mem_at 3 rfl))
  have r4 := hro _ (List.mem_append_left _ (mem_at 4 rfl))
  have r5 := hro _ (List.mem_append_left _ (mem_at 5 rfl))
  have r6 := hro _ (List.mem_append_left _ (mem_at 6 rfl))
  have r7 := hro _ (List.mem_append_left _ (mem_at 7 rfl))
  have hra : ∀ q, q ∈ zpA ta f pl tu → Ro x q := fun q h => hro _ (List.mem_append_right _ h)
  obtain ⟨⟨hg0, hg1, hg2, hg3, hg4, hg5, hg6, hg7⟩, hSp, hSh, hSs, hSb, hSt, hSw⟩ := id hS
  show V x cX11_first RX11 12 (rmU 7 240 0 0) [(po, cn 0 36 po0), (pi, co 4 (pO fa m)), (fa, cn 0 6 fa0)] 0 [(0, ar mo), (1, ai player), (2, ai 1)] [] 0 0
  refine v_aload_n (pc := 0) 0 rfl dX11_first_0 ?_
  refine v_iload_n (pc := 1) 1 rfl dX11_first_1 ?_
  rcases Classical.em (0 ≤ player ∧ player ≤ f 0 - 1) with hp | hp
  · skip
    have hpl := hpv player hp.1 hp.2
    have rP := hra _ (zpA_p (ta := ta) (pl := pl) (tu := tu) hp)
    have rQ := hra _ (zpA_t (ta := ta) (pl := pl) (tu := tu) hp)
    have hp6 : 0 ≤ player ∧ player < 6 := by omega
    obtain ⟨hpp, hf1, hf2, hf3, hf4, hf5, hf6, hf7, hf8⟩ := hSp player hp6.1 hp6.2
    refine v_callV (pc := 2) [] [0, 1, 2] [(po, cn 0 36 po0), (pi, co 4 (pO fa m)), (fa, cn 0 6 fa0)] (As := [ai player]) (rest := []) (c_X11_find_y mo kw pi ta ms pt po hi nw pls ins tap e3 e4 e5 e6 e7 e8 bar pv (pl player) f player (by assumption) (by exact hpl) (by exact hp)) (c := 11) rfl (Or.inl r0) wl_X11_99 wi_X11_find wv_X11_X11_find_X11_find wk_X11_find wz_X11 md_X11_find rfl (Nat.le_of_ble_eq_true rfl) ⟨Nat.le_of_ble_eq_true rfl, Nat.le_of_ble_eq_true rfl, Nat.le_of_ble_eq_true rfl, Nat.le_of_ble_eq_true rfl⟩ rfl rfl rfl rfl (by decide) (ro_cons (Or.inl r0) (ro_cons (Or.inl r1) (ro_cons (Or.inl r2) ro_nil))) dX11_first_2 (fun u hu => ?_)
    show V x cX11_first RX11 12 (rmU 7 240 0 0) [(po, cn 0 36 po0), (pi, co 4 (pO fa m)), (fa, cn 0 6 fa0)] 5 [(0, ar mo), (1, ai player), (2, ai 1)] [ar (pl player)] 0 0
    refine v_astore_n (pc := 5) (L2 := [(3, ar (pl player)), (0, ar mo), (1, ai player), (2, ai 1)]) rfl (by decide) dX11_first_5 ?_
    refine v_aload_n (pc := 6) 0 rfl dX11_first_6 ?_
    refine v_ifnonnull_r (pc := 7) 12 dX11_first_7 (by decide) ?_
    refine v_iload_n (pc := 12) 3 rfl dX11_first_12 ?_
    refine v_iconst (pc := 13) dX11_first_13 ?_
    refine v_iconst (pc := 14) dX11_first_14 ?_
    refine v_callS (pc := 15) [] [0, 1, 2] [(po, cn 0 36 po0), (pi, co 4 (pO fa m)), (fa, cn 0 6 fa0)] (As := [ai 1, ai 1, ai 3]) (rest := []) (c_X11_isOut 1 1 3 (by first | omega | assumption) (by first | omega | assumption) (by first | omega | assumption)) wl_X11_41 ws_X11_isOut wk_X11_isOut wz_X11 md_X11_isOut rfl (Nat.le_of_ble_eq_true rfl) ⟨Nat.le_of_ble_eq_true rfl, Nat.le_of_ble_eq_true rfl, Nat.le_of_ble_eq_true rfl, Nat.le_of_ble_eq_true rfl⟩ rfl rfl rfl rfl (by decide) ro_nil dX11_first_15 (fun u hu => ?_)
    show V x cX11_first RX11 12 (rmU 7 240 0 0) [(po, cn 0 36 po0), (pi, co 4 (pO fa m)), (fa, cn 0 6 fa0)] 18 [(3, ar (pl player)), (0, ar mo), (1, ai player), (2, ai 1)] [ai (if 1 < 1 ∨ 3 < 1 then 1 else 0)] 0 0
    refine v_ifb_eq (pc := 18) 24 dX11_first_18 (by decide) (fun c_1 => ?_) (fun c_1 => ?_)
    · skip
      refine v_aload_n (pc := 24) 1 rfl dX11_first_24 ?_
      refine v_aload_n (pc := 25) 0 rfl dX11_first_25 ?_
      refine v_iload_n (pc := 26) 3 rfl dX11_first_26 ?_
      refine v_callV (pc := 27) [1, 2, 0] [] [] (As := [ar (pl player), ai 1]) (rest := []) (c_X11_fillPlanOdds mo kw pi ta ms pt po hi nw pls ins tap e3 e4 e5 e6 e7 e8 bar fa m fa0 iv hq ns us sla ena cda cd sl en (pl player) (tu player) f player 1 po0 (by assumption) (by assumption) (by first | omega | assumption) (by first | omega | assumption)) (c := 11) rfl (Or.inl r0) wl_X11_199 wi_X11_fillPlanOdds wv_X11_X11_fillPlanOdds_X11_fillPlanOdds wk_X11_fillPlanOdds wz_X11 md_X11_fillPlanOdds rfl (Nat.le_of_ble_eq_true rfl) ⟨Nat.le_of_ble_eq_true rfl, Nat.le_of_ble_eq_true rfl, Nat.le_of_ble_eq_true rfl, Nat.le_of_ble_eq_true rfl⟩ rfl rfl rfl rfl (by decide) (ro_cons (Or.inl r0) (ro_cons (Or.inl r1) (ro_cons (Or.inl r3) (ro_cons (Or.inl r4) (ro_cons (Or.inl r5) (ro_cons (Or.inl r6) (ro_cons (Or.inl r7) (ro_cons (Or.inl rP) (ro_cons (Or.inl rQ) ro_nil))))))))) dX11_first_27 (fun u hu => ?_)
      obtain ⟨po2_2, m2_3, fa2_4⟩ := u
      have g_5 : pOK f player 1 po2_2 := hu
      show V x cX11_first RX11 12 (rmU 7 240 0 0) [(po, cn 0 36 po2_2), (pi, co 4 (pO fa m2_3)), (fa, cn 0 6 fa2_4)] 30 [(3, ar (pl player)), (0, ar mo), (1, ai player), (2, ai 1)] [] 0 0
      have hpo := g_5
      have hvb : ∀ k : Int, 0 ≤ k → k < ((12 : Nat) : Int) → 0 ≤ (plV (kPB f player) (plN (kPB f player) 0) (f (37 + player)) (skr (f (19 + player)) 0)) k ∧ (plV (kPB f player) (plN (kPB f player) 0) (f (37 + player)) (skr (f (19 + player)) 0)) k ≤ 10 * (99 * 10 ^ 0) := fun k k0 k1 => plV_b (fun _ _ => kPB_b) (fun a b c d => plN_b (fun _ _ => kPB_b) 0 a b c d) (by omega) ⟨k0, k1⟩
      have hbd := bst_bd 12 (by decide) hvb
      refine v_aload_n (pc := 30) 1 rfl dX11_first_30 ?_
      refine v_aload_n (pc := 31) 0 rfl dX11_first_31 ?_
      refine v_get (pc := 32) (v := ai (f (37 + player))) 7 (Or.inl rP) (flP_11_109 (by omega)) rfl dX11_first_32 ?_
      refine v_iconst (pc := 35) dX11_first_35 ?_
      refine v_iload_n (pc := 36) 3 rfl dX11_first_36 ?_
      refine v_iconst (pc := 37) dX11_first_37 ?_
      refine v_isub (pc := 38) dX11_first_38 ?_
      refine v_callV (pc := 39) [] [0, 1, 2] [(po, cn 0 36 po2_2), (pi, co 4 (pO fa m2_3)), (fa, cn 0 6 fa2_4)] (As := [ai (f (37 + player)), ai 0, ai 0]) (rest := []) (c_X11_planned_d0 mo kw pi ta ms pt po hi nw f player 1 po2_2 (f (37 + player)) 0 (by assumption) (by first | omega | assumption) (by omega)) (c := 11) rfl (Or.inl r0) wl_X11_202 wi_X11_planned wv_X11_X11_planned_X11_planned wk_X11_planned wz_X11 md_X11_planned rfl (Nat.le_of_ble_eq_true rfl) ⟨Nat.le_of_ble_eq_true rfl, Nat.le_of_ble_eq_true rfl, Nat.le_of_ble_eq_true rfl, Nat.le_of_ble_eq_true rfl⟩ rfl rfl rfl rfl (by decide) (ro_cons (Or.inl r0) (ro_cons (Or.inr ⟨0, rfl, by decide⟩) ro_nil)) dX11_first_39 (fun u hu => ?_)
      show V x cX11_first RX11 12 (rmU 7 240 0 0) [(po, cn 0 36 po2_2), (pi, co 4 (pO fa m2_3)), (fa, cn 0 6 fa2_4)] 42 [(3, ar (pl player)), (0, ar mo), (1, ai player), (2, ai 1)] [al (plN (kPB f player) 0 (f (37 + player)) (skr (f (19 + player)) 0))] 0 0
      refine v_lstore (pc := 42) (L2 := [(4, al (plN (kPB f player) 0 (f (37 + player)) (skr (f (19 + player)) 0))), (3, ar (pl player)), (0, ar mo), (1, ai player), (2, ai 1)]) rfl (by decide) dX11_first_42 ?_
      refine v_ldc2 (pc := 44) (z := (-1)) (bw_mem 795 (by decide +kernel) rfl) dX11_first_44 ?_
      refine v_lstore (pc := 47) (L2 := [(6, al (-1)), (4, al (plN (kPB f player) 0 (f (37 + player)) (skr (f (19 + player)) 0))), (3, ar (pl player)), (0, ar mo), (1, ai player), (2, ai 1)]) rfl (by decide) dX11_first_47 ?_
      refine v_iconst (pc := 49) dX11_first_49 ?_
      refine v_istore (pc := 50) (L2 := [(8, ai 0), (6, al (-1)), (4, al (plN (kPB f player) 0 (f (37 + player)) (skr (f (19 + player)) 0))), (3, ar (pl player)), (0, ar mo), (1, ai player), (2, ai 1)]) rfl (by decide) dX11_first_50 ?_
      refine v_iconst (pc := 52) dX11_first_52 ?_
      refine v_istore (pc := 53) (L2 := [(9, ai 0), (8, ai 0), (6, al (-1)), (4, al (plN (kPB f player) 0 (f (37 + player)) (skr (f (19 + player)) 0))), (3, ar (pl player)), (0, ar mo), (1, ai player), (2, ai 1)]) rfl (by decide) dX11_first_53 ?_
      have lp55 : ∀ (mm : Nat) (k : Int) (mx : Int) (ch : Int), (12 - k).toNat = mm → (0 ≤ k ∧ k ≤ 12) → (mx = (bst (plV (kPB f player) (plN (kPB f player) 0) (f (37 + player)) (skr (f (19 + player)) 0)) k.toNat).1) → (ch = (bst (plV (kPB f player) (plN (kPB f player) 0) (f (37 + player)) (skr (f (19 + player)) 0)) k.toNat).2) → V x cX11_first RX11 12 (rmU 7 240 0 0) [(po, cn 0 36 po2_2), (pi, co 4 (pO fa m2_3)), (fa, cn 0 6 fa2_4)] 55 [(0, ar mo), (2, ai 1), (3, ar (pl player)), (4, al (plN (kPB f player) 0 (f (37 + player)) (skr (f (19 + player)) 0))), (6, al mx), (8, ai ch), (9, ai k)] [] 0 0 := by
        intro mm
        induction mm using Nat.strongRecOn with
        | _ mm ih =>
          intro k mx ch hmm hk hmx hch
          have hbk := hbd k.toNat (by omega)
          refine v_iload (pc := 55) 6 rfl dX11_first_55 ?_
          refine v_bipush (pc := 57) dX11_first_57 (by decide) ?_
          refine v_icmp_ge (pc := 59) 100 dX11_first_59 (by decide) (by unfold iB; omega) (by unfold iB; omega) (fun c_6 => ?_) (fun c_6 => ?_)
          · skip
            refine v_iload (pc := 100) 5 rfl dX11_first_100 ?_
            refine v_callS (pc := 102) [] [0, 1, 2] [(po, cn 0 36 po2_2), (pi, co 4 (pO fa m2_3)), (fa, cn 0 6 fa2_4)] (As := [ai ch]) (rest := []) (c_X11_matsOf ch ) wl_X11_216 ws_X11_matsOf wk_X11_matsOf wz_X11 md_X11_matsOf rfl (Nat.le_of_ble_eq_true rfl) ⟨Nat.le_of_ble_eq_true rfl, Nat.le_of_ble_eq_true rfl, Nat.le_of_ble_eq_true rfl, Nat.le_of_ble_eq_true rfl⟩ rfl rfl rfl rfl (by decide) ro_nil dX11_first_102 (fun u hu => ?_)
            show V x cX11_first RX11 12 (rmU 7 240 0 0) [(po, cn 0 36 po2_2), (pi, co 4 (pO fa m2_3)), (fa, cn 0 6 fa2_4)] 105 [(0, ar mo), (2, ai 1), (3, ar (pl player)), (4, al (plN (kPB f player) 0 (f (37 + player)) (skr (f (19 + player)) 0))), (6, al mx), (8, ai ch), (9, ai k)] [ai (5 * (ch + 1))] 0 0
            exact hret (po2_2, m2_3, fa2_4) _ _ _ _ _ _ trivial (congrArg (fun z => some (ai z)) (by unfold qFirst; rw [if_neg (by omega), if_neg (by omega)]; unfold plA; rw [hch, show k.toNat = 12 by omega, skr_0 hf3, show ((1 : Int) - 1).toNat = 0 from rfl]; omega)) rfl (Nat.le_of_ble_eq_true rfl) (Nat.le_of_ble_eq_true rfl) dX11_first_105
          · skip
            refine v_aload_n (pc := 62) 0 rfl dX11_first_62 ?_
            refine v_iload (pc := 63) 6 rfl dX11_first_63 ?_
            refine v_aload_n (pc := 65) 2 rfl dX11_first_65 ?_
            refine v_get (pc := 66) (v := ai (f (37 + player))) 7 (Or.inl rP) (flP_11_109 (by omega)) rfl dX11_first_66 ?_
            refine v_iconst (pc := 69) dX11_first_69 ?_
            refine v_iload_n (pc := 70) 1 rfl dX11_first_70 ?_
            refine v_lload (pc := 71) 3 rfl dX11_first_71 ?_
            refine v_callV (pc := 73) [] [0, 1, 2] [(po, cn 0 36 po2_2), (pi, co 4 (pO fa m2_3)), (fa, cn 0 6 fa2_4)] (As := [ai k, ai (f (37 + player)), ai 0, ai 1, al (plN (kPB f player) 0 (f (37 + player)) (skr (f (19 + player)) 0))]) (rest := []) (c_X11_plannedBy_d1 mo kw pi ta ms pt po hi nw f player 1 po2_2 k (f (37 + player)) 0 (plN (kPB f player) 0 (f (37 + player)) (skr (f (19 + player)) 0)) (by assumption) (by first | omega | assumption) (by omega) (by assumption) (by omega) (by omega) (by first | omega | assumption) (by rfl)) (c := 11) rfl (Or.inl r0) wl_X11_212 wi_X11_plannedBy wv_X11_X11_plannedBy_X11_plannedBy wk_X11_plannedBy wz_X11 md_X11_plannedBy rfl (Nat.le_of_ble_eq_true rfl) ⟨Nat.le_of_ble_eq_true rfl, Nat.le_of_ble_eq_true rfl, Nat.le_of_ble_eq_true rfl, Nat.le_of_ble_eq_true rfl⟩ rfl rfl rfl rfl (by decide) (ro_cons (Or.inl r0) (ro_cons (Or.inr ⟨0, rfl, by decide⟩) ro_nil)) dX11_first_73 (fun u hu => ?_)
            show V x cX11_first RX11 12 (rmU 7 240 0 0) [(po, cn 0 36 po2_2), (pi, co 4 (pO fa m2_3)), (fa, cn 0 6 fa2_4)] 76 [(0, ar mo), (2, ai 1), (3, ar (pl player)), (4, al (plN (kPB f player) 0 (f (37 + player)) (skr (f (19 + player)) 0))), (6, al mx), (8, ai ch), (9, ai k)] [al (plV (kPB f player) (plN (kPB f player) 0) (f (37 + player)) (skr (f (19 + player)) 0) k)] 0 0
            have hvk := hvb k hk.1 (by omega)
            have hbs := bst_succ (plV (kPB f player) (plN (kPB f player) 0) (f (37 + player)) (skr (f (19 + player)) 0)) k.toNat
            rw [show ((k.toNat : Nat) : Int) = k by omega, show k.toNat + 1 = (k + 1).toNat by omega] at hbs
            refine v_lstore (pc := 76) (L2 := [(10, al (plV (kPB f player) (plN (kPB f player) 0) (f (37 + player)) (skr (f (19 + player)) 0) k)), (0, ar mo), (2, ai 1), (3, ar (pl player)), (4, al (plN (kPB f player) 0 (f (37 + player)) (skr (f (19 + player)) 0))), (6, al mx), (8, ai ch), (9, ai k)]) rfl (by decide) dX11_first_76 ?_
            refine v_lload (pc := 78) 0 rfl dX11_first_78 ?_
            refine v_lload (pc := 80) 5 rfl dX11_first_80 ?_
            refine v_lcmp (pc := 82) (by unfold lB; omega) (by unfold lB; omega) dX11_first_82 ?_
            refine v_if_le (pc := 83) 94 dX11_first_83 (by decide) (acmp_iB _ _) (fun c_7 => ?_) (fun c_7 => ?_)
            · skip
              have c_7 := acmp_le.mp c_7
              refine v_iinc (pc := 94) 7 (L2 := [(9, ai (k + 1)), (10, al (plV (kPB f player) (plN (kPB f player) 0) (f (37 + player)) (skr (f (19 + player)) 0) k)), (0, ar mo), (2, ai 1), (3, ar (pl player)), (4, al (plN (kPB f player) 0 (f (37 + player)) (skr (f (19 + player)) 0))), (6, al mx), (8, ai ch)]) rfl rfl (by decide) dX11_first_94 ?_
              refine v_goto (pc := 97) 55 dX11_first_97 (by decide) ?_
              refine v_sub (L2 := [(0, ar mo), (2, ai 1), (3, ar (pl player)), (4, al (plN (kPB f player) 0 (f (37 + player)) (skr (f (19 + player)) 0))), (6, al mx), (8, ai ch), (9, ai (k + 1))]) [2, 3, 4, 5, 6, 7, 0] rfl ?_
              exact ih _ (by omega) (k + 1) mx ch rfl (by omega) (by rw [hbs]; first | (rw [if_pos (by omega)]; done) | (rw [if_neg (by omega)]; exact hmx)) (by rw [hbs]; first | (rw [if_pos (by omega)]; done) | (rw [if_neg (by omega)]; exact hch))
            · skip
              have c_7 := acmp_gt.mp c_7
              refine v_lload (pc := 86) 0 rfl dX11_first_86 ?_
              refine v_lstore (pc := 88) (L2 := [(6, al (plV (kPB f player) (plN (kPB f player) 0) (f (37 + player)) (skr (f (19 + player)) 0) k)), (10, al (plV (kPB f player) (plN (kPB f player) 0) (f (37 + player)) (skr (f (19 + player)) 0) k)), (0, ar mo), (2, ai 1), (3, ar (pl player)), (4, al (plN (kPB f player) 0 (f (37 + player)) (skr (f (19 + player)) 0))), (8, ai ch), (9, ai k)]) rfl (by decide) dX11_first_88 ?_
              refine v_iload (pc := 90) 7 rfl dX11_first_90 ?_
              refine v_istore (pc := 92) (L2 := [(8, ai k), (6, al (plV (kPB f player) (plN (kPB f player) 0) (f (37 + player)) (skr (f (19 + player)) 0) k)), (10, al (plV (kPB f player) (plN (kPB f player) 0) (f (37 + player)) (skr (f (19 + player)) 0) k)), (0, ar mo), (2, ai 1), (3, ar (pl player)), (4, al (plN (kPB f player) 0 (f (37 + player)) (skr (f (19 + player)) 0))), (9, ai k)]) rfl (by decide) dX11_first_92 ?_
              refine v_iinc (pc := 94) 7 (L2 := [(9, ai (k + 1)), (8, ai k), (6, al (plV (kPB f player) (plN (kPB f player) 0) (f (37 + player)) (skr (f (19 + player)) 0) k)), (10, al (plV (kPB f player) (plN (kPB f player) 0) (f (37 + player)) (skr (f (19 + player)) 0) k)), (0, ar mo), (2, ai 1), (3, ar (pl player)), (4, al (plN (kPB f player) 0 (f (37 + player)) (skr (f (19 + player)) 0)))]) rfl rfl (by decide) dX11_first_94 ?_
              refine v_goto (pc := 97) 55 dX11_first_97 (by decide) ?_
              refine v_sub (L2 := [(0, ar mo), (2, ai 1), (3, ar (pl player)), (4, al (plN (kPB f player) 0 (f (37 + player)) (skr (f (19 + player)) 0))), (6, al (plV (kPB f player) (plN (kPB f player) 0) (f (37 + player)) (skr (f (19 + player)) 0) k)), (8, ai k), (9, ai (k + 1))]) [4, 5, 6, 7, 2, 1, 0] rfl ?_
              exact ih _ (by omega) (k + 1) (plV (kPB f player) (plN (kPB f player) 0) (f (37 + player)) (skr (f (19 + player)) 0) k) k rfl (by omega) (by rw [hbs]; first | (rw [if_pos (by omega)]; done) | (rw [if_neg (by omega)]; exact hmx)) (by rw [hbs]; first | (rw [if_pos (by omega)]; done) | (rw [if_neg (by omega)]; exact hch))
      refine v_sub (L2 := [(0, ar mo), (2, ai 1), (3, ar (pl player)), (4, al (plN (kPB f player) 0 (f (37 + player)) (skr (f (19 + player)) 0))), (6, al (-1)), (8, ai 0), (9, ai 0)]) [5, 7, 4, 3, 2, 1, 0] rfl ?_
      exact lp55 _ 0 (-1) 0 rfl (by omega) (by rfl) (by rfl)
    · skip
      exfalso; omega
  · skip
    refine v_callV (pc := 2) [] [0, 1, 2] [(po, cn 0 36 po0), (pi, co 4 (pO fa m)), (fa, cn 0 6 fa0)] (As := [ai player]) (rest := []) (c_X11_find_n mo kw pi ta ms pt po hi nw pls ins tap e3 e4 e5 e6 e7 e8 bar pv f player (by assumption) (by exact hp) (by first | omega | assumption)) (c := 11) rfl (Or.inl r0) wl_X11_99 wi_X11_find wv_X11_X11_find_X11_find wk_X11_find wz_X11 md_X11_find rfl (Nat.le_of_ble_eq_true rfl) ⟨Nat.le_of_ble_eq_true rfl, Nat.le_of_ble_eq_true rfl, Nat.le_of_ble_eq_true rfl, Nat.le_of_ble_eq_true rfl⟩ rfl rfl rfl rfl (by decide) (ro_cons (Or.inl r0) (ro_cons (Or.inl r1) (ro_cons (Or.inl r2) ro_nil))) dX11_first_2 (fun u hu => ?_)
    show V x cX11_first RX11 12 (rmU 7 240 0 0) [(po, cn 0 36 po0), (pi, co 4 (pO fa m)), (fa, cn 0 6 fa0)] 5 [(0, ar mo), (1, ai player), (2, ai 1)] [an] 0 0
    refine v_astore_n (pc := 5) (L2 := [(3, an), (0, ar mo), (1, ai player), (2, ai 1)]) rfl (by decide) dX11_first_5 ?_
    refine v_aload_n (pc := 6) 0 rfl dX11_first_6 ?_
    refine v_ifnonnull_n (pc := 7) dX11_first_7 ?_
    refine v_iconst (pc := 10) dX11_first_10 ?_
    exact hret (po0, m, fa0) _ _ _ _ _ _ trivial (congrArg (fun z => some (ai z)) (by unfold qFirst; (repeat' split) <;> first | rfl | (exfalso; omega) | omega)) rfl (Nat.le_of_ble_eq_true rfl) (Nat.le_of_ble_eq_true rfl) dX11_first_11
set_option maxHeartbeats 4000000 in
set_option maxRecDepth 100000 in
theorem c_X11_first_t2 {gS : sG} (mo : Nat) (kw : Nat) (pi : Nat) (ta : Nat) (ms : Nat) (pt : Nat) (po : Nat) (hi : Int) (nw : Nat) (pls : Nat) (ins : Nat) (tap : Nat) (e3 : Nat) (e4 : Nat) (e5 : Nat) (e6 : Nat) (e7 : Nat) (e8 : Nat) (bar : Nat) (fa : Nat) (m : Nat → Int) (fa0 : Int → Int) (iv : Int → Option Nat) (hq : Nat) (ns : Int) (us : Int) (sla : Nat) (ena : Nat) (cda : Nat) (cd : Int → Int) (sl : Int → Int) (en : Int → Int) (pv : Int → Option Nat) (pl : Int → Nat) (tu : Int → Nat) (f : Int → Int) (po0 : Int → Int) (player : Int) (hS : SOK f) (hI : inC f iv bar hq ns us sl en cd) (hpv : ∀ i : Int, 0 ≤ i → i ≤ f 0 - 1 → pv i = some (pl i)) (hb_player : -2147483648 ≤ player ∧ player < 2147483648) : Ct gS (S := (Int → Int) × (Nat → Int) × (Int → Int)) yX11_first cX11_first 12 (some .int) 7 240 0 0 [ar mo, ai player, ai 2] [(po, cn 0 36 po0), (pi, co 4 (pO fa m)), (fa, cn 0 6 fa0)] (fun q => q ∈ ([(mo, co 11 [ar nw, ar kw, ar pi, ar ta, ar ms, ar pt, ar po, ai hi]), (nw, co 10 [ar pls, ar ins, ar tap, ar e3, ar e4, ar e5, ar e6, ar e7, ar e8, ai (f 0), ai (f 1), ai (f 4), ai (f 2), ai (f 3), ai (f 6), ar bar]), (pls, cq 3 6 pv), (ins, cq 2 5 iv), (hq, co 3 [ai (kWide f), ai (kPay f), ai ns, ai us, ar sla, ar ena, ar cda]), (cda, cn 0 100 cd), (sla, cn 0 10 sl), (ena, cn 0 10 en)] : aW) ++ zpA ta f pl tu) (fun u => True) (fun u => some (ai (qFirst f player 2))) (fun u => [(po, cn 0 36 u.1), (pi, co 4 (pO fa u.2.1)), (fa, cn 0 6 u.2.2)]) := by
  refine ct_I RX11 [(0, ar mo), (1, ai player), (2, ai 2)] (by decide) rfl (Nat.le_of_ble_eq_true rfl) rfl (fun x hgS hro hret => ?_)
  subst hgS
  have r0 := hro _ (List.mem_append_left _ (mem_at 0 rfl))
  have r1 := hro _ (List.mem_append_left _ (mem_at 1 rfl))
  have r2 := hro _ (List.mem_append_left _ (mem_at 2 rfl))
  have r3 := hro _ (List.mem_append_left _ (mem_at 3 rfl))
  have r4 := hro _ (List.mem_append_left _ (mem_at 4 rfl))
  have r5 := hro _ (List.mem_append_left _ (mem_at 5 rfl))
  have r6 := hro _ (List.mem_append_left _ (mem_at 6 rfl))
  have r7 := hro _ (List.mem_append_left _ (mem_at 7 rfl))
  have hra : ∀ q, q ∈ zpA ta f pl tu → Ro x q := fun q h => hro _ (List.mem_append_right _ h)
  obtain ⟨⟨hg0, hg1, hg2, hg3, hg4, hg5, hg6, hg7⟩, hSp, hSh, hSs, hSb, hSt, hSw⟩ := id hS
  show V x cX11_first RX11 12 (rmU 7 240 0 0) [(po, cn 0 36 po0), (pi, co 4 (pO fa m)), (fa, cn 0 6 fa0)] 0 [(0, ar mo), (1, ai player), (2, ai 2)] [] 0 0
  refine v_aload_n (pc := 0) 0 rfl dX11_first_0 ?_
  refine v_iload_n (pc := 1) 1 rfl dX11_first_1 ?_
  rcases Classical.em (0 ≤ player ∧ player ≤ f 0 - 1) with hp | hp
  · skip
    have hpl := hpv player hp.1 hp.2
    have rP := hra _ (zpA_p (ta := ta) (pl := pl) (tu := tu) hp)
    have rQ := hra _ (zpA_t (ta := ta) (pl := pl) (tu := tu) hp)
    have hp6 : 0 ≤ player ∧ player < 6 := by omega
    obtain ⟨hpp, hf1, hf2, hf3, hf4, hf5, hf6, hf7, hf8⟩ := hSp player hp6.1 hp6.2
    refine v_callV (pc := 2) [] [0, 1, 2] [(po, cn 0 36 po0), (pi, co 4 (pO fa m)), (fa, cn 0 6 fa0)] (As := [ai player]) (rest := []) (c_X11_find_y mo kw pi ta ms pt po hi nw pls ins tap e3 e4 e5 e6 e7 e8 bar pv (pl player) f player (by assumption) (by exact hpl) (by exact hp)) (c := 11) rfl (Or.inl r0) wl_X11_99 wi_X11_find wv_X11_X11_find_X11_find wk_X11_find wz_X11 md_X11_find rfl (Nat.le_of_ble_eq_true rfl) ⟨Nat.le_of_ble_eq_true rfl, Nat.le_of_ble_eq_true rfl, Nat.le_of_ble_eq_true rfl, Nat.le_of_ble_eq_true rfl⟩ rfl rfl rfl rfl (by decide) (ro_cons (Or.inl r0) (ro_cons (Or.inl r1) (ro_cons (Or.inl r2) ro_nil))) dX11_first_2 (fun u hu => ?_)
    show V x cX11_first RX11 12 (rmU 7 240 0 0) [(po, cn 0 36 po0), (pi, co 4 (pO fa m)), (fa, cn 0 6 fa0)] 5 [(0, ar mo), (1, ai player), (2, ai 2)] [ar (pl player)] 0 0
    refine v_astore_n (pc := 5) (L2 := [(3, ar (pl player)), (0, ar mo), (1, ai player), (2, ai 2)]) rfl (by decide) dX11_first_5 ?_
    refine v_aload_n (pc := 6) 0 rfl dX11_first_6 ?_
    refine v_ifnonnull_r (pc := 7) 12 dX11_first_7 (by decide) ?_
    refine v_iload_n (pc := 12) 3 rfl dX11_first_12 ?_
    refine v_iconst (pc := 13) dX11_first_13 ?_
    refine v_iconst (pc := 14) dX11_first_14 ?_
    refine v_callS (pc := 15) [] [0, 1, 2] [(po, cn 0 36 po0), (pi, co 4 (pO fa m)), (fa, cn 0 6 fa0)] (As := [ai 2, ai 1, ai 3]) (rest := []) (c_X11_isOut 2 1 3 (by first | omega | assumption) (by first | omega | assumption) (by first | omega | assumption)) wl_X11_41 ws_X11_isOut wk_X11_isOut wz_X11 md_X11_isOut rfl (Nat.le_of_ble_eq_true rfl) ⟨Nat.le_of_ble_eq_true rfl, Nat.le_of_ble_eq_true rfl, Nat.le_of_ble_eq_true rfl, Nat.le_of_ble_eq_true rfl⟩ rfl rfl rfl rfl (by decide) ro_nil dX11_first_15 (fun u hu => ?_)
    show V x cX11_first RX11 12 (rmU 7 240 0 0) [(po, cn 0 36 po0), (pi, co 4 (pO fa m)), (fa, cn 0 6 fa0)] 18 [(3, ar (pl player)), (0, ar mo), (1, ai player), (2, ai 2)] [ai (if 2 < 1 ∨ 3 < 2 then 1 else 0)] 0 0
    refine v_ifb_eq (pc := 18) 24 dX11_first_18 (by decide) (fun c_1 => ?_) (fun c_1 => ?_)
    · skip
      refine v_aload_n (pc := 24) 1 rfl dX11_first_24 ?_
      refine v_aload_n (pc := 25) 0 rfl dX11_first_25 ?_
      refine v_iload_n (pc := 26) 3 rfl dX11_first_26 ?_
      refine v_callV (pc := 27) [1, 2, 0] [] [] (As := [ar (pl player), ai 2]) (rest := []) (c_X11_fillPlanOdds mo kw pi ta ms pt po hi nw pls ins tap e3 e4 e5 e6 e7 e8 bar fa m fa0 iv hq ns us sla ena cda cd sl en (pl player) (tu player) f player 2 po0 (by assumption) (by assumption) (by first | omega | assumption) (by first | omega | assumption)) (c := 11) rfl (Or.inl r0) wl_X11_199 wi_X11_fillPlanOdds wv_X11_X11_fillPlanOdds_X11_fillPlanOdds wk_X11_fillPlanOdds wz_X11 md_X11_fillPlanOdds rfl (Nat.le_of_ble_eq_true rfl) ⟨Nat.le_of_ble_eq_true rfl, Nat.le_of_ble_eq_true rfl, Nat.le_of_ble_eq_true rfl, Nat.le_of_ble_eq_true rfl⟩ rfl rfl rfl rfl (by decide) (ro_cons (Or.inl r0) (ro_cons (Or.inl r1) (ro_cons (Or.inl r3) (ro_cons (Or.inl r4) (ro_cons (Or.inl r5) (ro_cons (Or.inl r6) (ro_cons (Or.inl r7) (ro_cons (Or.inl rP) (ro_cons (Or.inl rQ) ro_nil))))))))) dX11_first_27 (fun u hu => ?_)
      obtain ⟨po2_2, m2_3, fa2_4⟩ := u
      have g_5 : pOK f player 2 po2_2 := hu
      show V x cX11_first RX11 12 (rmU 7 240 0 0) [(po, cn 0 36 po2_2), (pi, co 4 (pO fa m2_3)), (fa, cn 0 6 fa2_4)] 30 [(3, ar (pl player)), (0, ar mo), (1, ai player), (2, ai 2)] [] 0 0
      have hpo := g_5
      have hvb : ∀ k : Int, 0 ≤ k → k < ((12 : Nat) : Int) → 0 ≤ (plV (kPB f player) (plN (kPB f player) 1) (f (37 + player)) (skr (f (19 + player)) 0)) k ∧ (plV (kPB f player) (plN (kPB f player) 1) (f (37 + player)) (skr (f (19 + player)) 0)) k ≤ 10 * (99 * 10 ^ 1) := fun k k0 k1 => plV_b (fun _ _ => kPB_b) (fun a b c d => plN_b (fun _ _ => kPB_b) 1 a b c d) (by omega) ⟨k0, k1⟩
      have hbd := bst_bd 12 (by decide) hvb
      refine v_aload_n (pc := 30) 1 rfl dX11_first_30 ?_
      refine v_aload_n (pc := 31) 0 rfl dX11_first_31 ?_
      refine v_get (pc := 32) (v := ai (f (37 + player))) 7 (Or.inl rP) (flP_11_109 (by omega)) rfl dX11_first_32 ?_
      refine v_iconst (pc := 35) dX11_first_35 ?_
      refine v_iload_n (pc := 36) 3 rfl dX11_first_36 ?_
      refine v_iconst (pc := 37) dX11_first_37 ?_
      refine v_isub (pc := 38) dX11_first_38 ?_
      refine v_callV (pc := 39) [] [0, 1, 2] [(po, cn 0 36 po2_2), (pi, co 4 (pO fa m2_3)), (fa, cn 0 6 fa2_4)] (As := [ai (f (37 + player)), ai 0, ai 1]) (rest := []) (c_X11_planned_d1 mo kw pi ta ms pt po hi nw f player 2 po2_2 (f (37 + player)) 0 (by assumption) (by first | omega | assumption) (by omega) (by assumption) (by omega) (by omega)) (c := 11) rfl (Or.inl r0) wl_X11_202 wi_X11_planned wv_X11_X11_planned_X11_planned wk_X11_planned wz_X11 md_X11_planned rfl (Nat.le_of_ble_eq_true rfl) ⟨Nat.le_of_ble_eq_true rfl, Nat.le_of_ble_eq_true rfl, Nat.le_of_ble_eq_true rfl, Nat.le_of_ble_eq_true rfl⟩ rfl rfl rfl rfl (by decide) (ro_cons (Or.inl r0) (ro_cons (Or.inr ⟨0, rfl, by decide⟩) ro_nil)) dX11_first_39 (fun u hu => ?_)
      show V x cX11_first RX11 12 (rmU 7 240 0 0) [(po, cn 0 36 po2_2), (pi, co 4 (pO fa m2_3)), (fa, cn 0 6 fa2_4)] 42 [(3, ar (pl player)), (0, ar mo), (1, ai player), (2, ai 2)] [al (plN (kPB f player) 1 (f (37 + player)) (skr (f (19 + player)) 0))] 0 0
      refine v_lstore (pc := 42) (L2 := [(4, al (plN (kPB f player) 1 (f (37 + player)) (skr (f (19 + player)) 0))), (3, ar (pl player)), (0, ar mo), (1, ai player), (2, ai 2)]) rfl (by decide) dX11_first_42 ?_
      refine v_ldc2 (pc := 44) (z := (-1)) (bw_mem 795 (by decide +kernel) rfl) dX11_first_44 ?_
      refine v_lstore (pc := 47) (L2 := [(6, al (-1)), (4, al (plN (kPB f player) 1 (f (37 + player)) (skr (f (19 + player)) 0))), (3, ar (pl player)), (0, ar mo), (1, ai player), (2, ai 2)]) rfl (by decide) dX11_first_47 ?_
      refine v_iconst (pc := 49) dX11_first_49 ?_
      refine v_istore (pc := 50) (L2 := [(8, ai 0), (6, al (-1)), (4, al (plN (kPB f player) 1 (f (37 + player)) (skr (f (19 + player)) 0))), (3, ar (pl player)), (0, ar mo), (1, ai player), (2, ai 2)]) rfl (by decide) dX11_first_50 ?_
      refine v_iconst (pc := 52) dX11_first_52 ?_
      refine v_istore (pc := 53) (L2 := [(9, ai 0), (8, ai 0), (6, al (-1)), (4, al (plN (kPB f player) 1 (f (37 + player)) (skr (f (19 + player)) 0))), (3, ar (pl player)), (0, ar mo), (1, ai player), (2, ai 2)]) rfl (by decide) dX11_first_53 ?_
      have lp55 : ∀ (mm : Nat) (k : Int) (mx : Int) (ch : Int), (12 - k).toNat = mm → (0 ≤ k ∧ k ≤ 12) → (mx = (bst (plV (kPB f player) (plN (kPB f player) 1) (f (37 + player)) (skr (f (19 + player)) 0)) k.toNat).1) → (ch = (bst (plV (kPB f player) (plN (kPB f player) 1) (f (37 + player)) (skr (f (19 + player)) 0)) k.toNat).2) → V x cX11_first RX11 12 (rmU 7 240 0 0) [(po, cn 0 36 po2_2), (pi, co 4 (pO fa m2_3)), (fa, cn 0 6 fa2_4)] 55 [(0, ar mo), (2, ai 2), (3, ar (pl player)), (4, al (plN (kPB f player) 1 (f (37 + player)) (skr (f (19 + player)) 0))), (6, al mx), (8, ai ch), (9, ai k)] [] 0 0 := by
        intro mm
        induction mm using Nat.strongRecOn with
        | _ mm ih =>
          intro k mx ch hmm hk hmx hch
          have hbk := hbd k.toNat (by omega)
          refine v_iload (pc := 55) 6 rfl dX11_first_55 ?_
          refine v_bipush (pc := 57) dX11_first_57 (by decide) ?_
          refine v_icmp_ge (pc := 59) 100 dX11_first_59 (by decide) (by unfold iB; omega) (by unfold iB; omega) (fun c_6 => ?_) (fun c_6 => ?_)
          · skip
            refine v_iload (pc := 100) 5 rfl dX11_first_100 ?_
            refine v_callS (pc := 102) [] [0, 1, 2] [(po, cn 0 36 po2_2), (pi, co 4 (pO fa m2_3)), (fa, cn 0 6 fa2_4)] (As := [ai ch]) (rest := []) (c_X11_matsOf ch ) wl_X11_216 ws_X11_matsOf wk_X11_matsOf wz_X11 md_X11_matsOf rfl (Nat.le_of_ble_eq_true rfl) ⟨Nat.le_of_ble_eq_true rfl, Nat.le_of_ble_eq_true rfl, Nat.le_of_ble_eq_true rfl, Nat.le_of_ble_eq_true rfl⟩ rfl rfl rfl rfl (by decide) ro_nil dX11_first_102 (fun u hu => ?_)
            show V x cX11_first RX11 12 (rmU 7 240 0 0) [(po, cn 0 36 po2_2), (pi, co 4 (pO fa m2_3)), (fa, cn 0 6 fa2_4)] 105 [(0, ar mo), (2, ai 2), (3, ar (pl player)), (4, al (plN (kPB f player) 1 (f (37 + player)) (skr (f (19 + player)) 0))), (6, al mx), (8, ai ch), (9, ai k)] [ai (5 * (ch + 1))] 0 0
            exact hret (po2_2, m2_3, fa2_4) _ _ _ _ _ _ trivial (congrArg (fun z => some (ai z)) (by unfold qFirst; rw [if_neg (by omega), if_neg (by omega)]; unfold plA; rw [hch, show k.toNat = 12 by omega, skr_0 hf3, show ((2 : Int) - 1).toNat = 1 from rfl]; omega)) rfl (Nat.le_of_ble_eq_true rfl) (Nat.le_of_ble_eq_true rfl) dX11_first_105
          · skip
            refine v_aload_n (pc := 62) 0 rfl dX11_first_62 ?_
            refine v_iload (pc := 63) 6 rfl dX11_first_63 ?_
            refine v_aload_n (pc := 65) 2 rfl dX11_first_65 ?_
            refine v_get (pc := 66) (v := ai (f (37 + player))) 7 (Or.inl rP) (flP_11_109 (by omega)) rfl dX11_first_66 ?_
            refine v_iconst (pc := 69) dX11_first_69 ?_
            refine v_iload_n (pc := 70) 1 rfl dX11_first_70 ?_
            refine v_lload (pc := 71) 3 rfl dX11_first_71 ?_
            refine v_callV (pc := 73) [] [0, 1, 2] [(po, cn 0 36 po2_2), (pi, co 4 (pO fa m2_3)), (fa, cn 0 6 fa2_4)] (As := [ai k, ai (f (37 + player)), ai 0, ai 2, al (plN (kPB f player) 1 (f (37 + player)) (skr (f (19 + player)) 0))]) (rest := []) (c_X11_plannedBy_d2 mo kw pi ta ms pt po hi nw f player 2 po2_2 k (f (37 + player)) 0 (plN (kPB f player) 1 (f (37 + player)) (skr (f (19 + player)) 0)) (by assumption) (by first | omega | assumption) (by omega) (by assumption) (by omega) (by omega) (by first | omega | assumption) (by rfl)) (c := 11) rfl (Or.inl r0) wl_X11_212 wi_X11_plannedBy wv_X11_X11_plannedBy_X11_plannedBy wk_X11_plannedBy wz_X11 md_X11_plannedBy rfl (Nat.le_of_ble_eq_true rfl) ⟨Nat.le_of_ble_eq_true rfl, Nat.le_of_ble_eq_true rfl, Nat.le_of_ble_eq_true rfl, Nat.le_of_ble_eq_true rfl⟩ rfl rfl rfl rfl (by decide) (ro_cons (Or.inl r0) (ro_cons (Or.inr ⟨0, rfl, by decide⟩) ro_nil)) dX11_first_73 (fun u hu => ?_)
            show V x cX11_first RX11 12 (rmU 7 240 0 0) [(po, cn 0 36 po2_2), (pi, co 4 (pO fa m2_3)), (fa, cn 0 6 fa2_4)] 76 [(0, ar mo), (2, ai 2), (3, ar (pl player)), (4, al (plN (kPB f player) 1 (f (37 + player)) (skr (f (19 + player)) 0))), (6, al mx), (8, ai ch), (9, ai k)] [al (plV (kPB f player) (plN (kPB f player) 1) (f (37 + player)) (skr (f (19 + player)) 0) k)] 0 0
            have hvk := hvb k hk.1 (by omega)
            have hbs := bst_succ (plV (kPB f player) (plN (kPB f player) 1) (f (37 + player)) (skr (f (19 + player)) 0)) k.toNat
            rw [show ((k.toNat : Nat) : Int) = k by omega, show k.toNat + 1 = (k + 1).toNat by omega] at hbs
            refine v_lstore (pc := 76) (L2 := [(10, al (plV (kPB f player) (plN (kPB f player) 1) (f (37 + player)) (skr (f (19 + player)) 0) k)), (0, ar mo), (2, ai 2), (3, ar (pl player)), (4, al (plN (kPB f player) 1 (f (37 + player)) (skr (f (19 + player)) 0))), (6, al mx), (8, ai ch), (9, ai k)]) rfl (by decide) dX11_first_76 ?_
            refine v_lload (pc := 78) 0 rfl dX11_first_78 ?_
            refine v_lload (pc := 80) 5 rfl dX11_first_80 ?_
            refine v_lcmp (pc := 82) (by unfold lB; omega) (by unfold lB; omega) dX11_first_82 ?_
            refine v_if_le (pc := 83) 94 dX11_first_83 (by decide) (acmp_iB _ _) (fun c_7 => ?_) (fun c_7 => ?_)
            · skip
              have c_7 := acmp_le.mp c_7
              refine v_iinc (pc := 94) 7 (L2 := [(9, ai (k + 1)), (10, al (plV (kPB f player) (plN (kPB f player) 1) (f (37 + player)) (skr (f (19 + player)) 0) k)), (0, ar mo), (2, ai 2), (3, ar (pl player)), (4, al (plN (kPB f player) 1 (f (37 + player)) (skr (f (19 + player)) 0))), (6, al mx), (8, ai ch)]) rfl rfl (by decide) dX11_first_94 ?_
              refine v_goto (pc := 97) 55 dX11_first_97 (by decide) ?_
              refine v_sub (L2 := [(0, ar mo), (2, ai 2), (3, ar (pl player)), (4, al (plN (kPB f player) 1 (f (37 + player)) (skr (f (19 + player)) 0))), (6, al mx), (8, ai ch), (9, ai (k + 1))]) [2, 3, 4, 5, 6, 7, 0] rfl ?_
              exact ih _ (by omega) (k + 1) mx ch rfl (by omega) (by rw [hbs]; first | (rw [if_pos (by omega)]; done) | (rw [if_neg (by omega)]; exact hmx)) (by rw [hbs]; first | (rw [if_pos (by omega)]; done) | (rw [if_neg (by omega)]; exact hch))
            · skip
              have c_7 := acmp_gt.mp c_7
              refine v_lload (pc := 86) 0 rfl dX11_first_86 ?_
              refine v_lstore (pc := 88) (L2 := [(6, al (plV (kPB f player) (plN (kPB f player) 1) (f (37 + player)) (skr (f (19 + player)) 0) k)), (10, al (plV (kPB f player) (plN (kPB f player) 1) (f (37 + player)) (skr (f (19 + player)) 0) k)), (0, ar mo), (2, ai 2), (3, ar (pl player)), (4, al (plN (kPB f player) 1 (f (37 + player)) (skr (f (19 + player)) 0))), (8, ai ch), (9, ai k)]) rfl (by decide) dX11_first_88 ?_
              refine v_iload (pc := 90) 7 rfl dX11_first_90 ?_
              refine v_istore (pc := 92) (L2 := [(8, ai k), (6, al (plV (kPB f player) (plN (kPB f player) 1) (f (37 + player)) (skr (f (19 + player)) 0) k)), (10, al (plV (kPB f player) (plN (kPB f player) 1) (f (37 + player)) (skr (f (19 + player)) 0) k)), (0, ar mo), (2, ai 2), (3, ar (pl player)), (4, al (plN (kPB f player) 1 (f (37 + player)) (skr (f (19 + player)) 0))), (9, ai k)]) rfl (by decide) dX11_first_92 ?_
              refine v_iinc (pc := 94) 7 (L2 := [(9, ai (k + 1)), (8, ai k), (6, al (plV (kPB f player) (plN (kPB f player) 1) (f (37 + player)) (skr (f (19 + player)) 0) k)), (10, al (plV (kPB f player) (plN (kPB f player) 1) (f (37 + player)) (skr (f (19 + player)) 0) k)), (0, ar mo), (2, ai 2), (3, ar (pl player)), (4, al (plN (kPB f player) 1 (f (37 + player)) (skr (f (19 + player)) 0)))]) rfl rfl (by decide) dX11_first_94 ?_
              refine v_goto (pc := 97) 55 dX11_first_97 (by decide) ?_
              refine v_sub (L2 := [(0, ar mo), (2, ai 2), (3, ar (pl player)), (4, al (plN (kPB f player) 1 (f (37 + player)) (skr (f (19 + player)) 0))), (6, al (plV (kPB f player) (plN (kPB f player) 1) (f (37 + player)) (skr (f (19 + player)) 0) k)), (8, ai k), (9, ai (k + 1))]) [4, 5, 6, 7, 2, 1, 0] rfl ?_
              exact ih _ (by omega) (k + 1) (plV (kPB f player) (plN (kPB f player) 1) (f (37 + player)) (skr (f (19 + player)) 0) k) k rfl (by omega) (by rw [hbs]; first | (rw [if_pos (by omega)]; done) | (rw [if_neg (by omega)]; exact hmx)) (by rw [hbs]; first | (rw [if_pos (by omega)]; done) | (rw [if_neg (by omega)]; exact hch))
      refine v_sub (L2 := [(0, ar mo), (2, ai 2), (3, ar (pl player)), (4, al (plN (kPB f player) 1 (f (37 + player)) (skr (f (19 + player)) 0))), (6, al (-1)), (8, ai 0), (9, ai 0)]) [5, 7, 4, 3, 2, 1, 0] rfl ?_
      exact lp55 _ 0 (-1) 0 rfl (by omega) (by rfl) (by rfl)
    · skip
      exfalso; omega
  · skip
    refine v_callV (pc := 2) [] [0, 1, 2] [(po, cn 0 36 po0), (pi, co 4 (pO fa m)), (fa, cn 0 6 fa0)] (As := [ai player]) (rest := []) (c_X11_find_n mo kw pi ta ms pt po hi nw pls ins tap e3 e4 e5 e6 e7 e8 bar pv f player (by assumption) (by exact hp) (by first | omega | assumption)) (c := 11) rfl (Or.inl r0) wl_X11_99 wi_X11_find wv_X11_X11_find_X11_find wk_X11_find wz_X11 md_X11_find rfl (Nat.le_of_ble_eq_true rfl) ⟨Nat.le_of_ble_eq_true rfl, Nat.le_of_ble_eq_true rfl, Nat.le_of_ble_eq_true rfl, Nat.le_of_ble_eq_true rfl⟩ rfl rfl rfl rfl (by decide) (ro_cons (Or.inl r0) (ro_cons (Or.inl r1) (ro_cons (Or.inl r2) ro_nil))) dX11_first_2 (fun u hu => ?_)
    show V x cX11_first RX11 12 (rmU 7 240 0 0) [(po, cn 0 36 po0), (pi, co 4 (pO fa m)), (fa, cn 0 6 fa0)] 5 [(0, ar mo), (1, ai player), (2, ai 2)] [an] 0 0
    refine v_astore_n (pc := 5) (L2 := [(3, an), (0, ar mo), (1, ai player), (2, ai 2)]) rfl (by decide) dX11_first_5 ?_
    refine v_aload_n (pc := 6) 0 rfl dX11_first_6 ?_
    refine v_ifnonnull_n (pc := 7) dX11_first_7 ?_
    refine v_iconst (pc := 10) dX11_first_10 ?_
    exact hret (po0, m, fa0) _ _ _ _ _ _ trivial (congrArg (fun z => some (ai z)) (by unfold qFirst; (repeat' split) <;> first | rfl | (exfalso; omega) | omega)) rfl (Nat.le_of_ble_eq_true rfl) (Nat.le_of_ble_eq_true rfl) dX11_first_11
set_option maxHeartbeats 4000000 in
set_option maxRecDepth 100000 in
theorem c_X11_first_t3 {gS : sG} (mo : Nat) (kw : Nat) (pi : Nat) (ta : Nat) (ms : Nat) (pt : Nat) (po : Nat) (hi : Int) (nw : Nat) (pls : Nat) (ins : Nat) (tap : Nat) (e3 : Nat) (e4 : Nat) (e5 : Nat) (e6 : Nat) (e7 : Nat) (e8 : Nat) (bar : Nat) (fa : Nat) (m : Nat → Int) (fa0 : Int → Int) (iv : Int → Option Nat) (hq : Nat) (ns : Int) (us : Int) (sla : Nat) (ena : Nat) (cda : Nat) (cd : Int → Int) (sl : Int → Int) (en : Int → Int) (pv : Int → Option Nat) (pl : Int → Nat) (tu : Int → Nat) (f : Int → Int) (po0 : Int → Int) (player : Int) (hS : SOK f) (hI : inC f iv bar hq ns us sl en cd) (hpv : ∀ i : Int, 0 ≤ i → i ≤ f 0 - 1 → pv i = some (pl i)) (hb_player : -2147483648 ≤ player ∧ player < 2147483648) : Ct gS (S := (Int → Int) × (Nat → Int) × (Int → Int)) yX11_first cX11_first 12 (some .int) 7 240 0 0 [ar mo, ai player, ai 3] [(po, cn 0 36 po0), (pi, co 4 (pO fa m)), (fa, cn 0 6 fa0)] (fun q => q ∈ ([(mo, co 11 [ar nw, ar kw, ar pi, ar ta, ar ms, ar pt, ar po, ai hi]), (nw, co 10 [ar pls, ar ins, ar tap, ar e3, ar e4, ar e5, ar e6, ar e7, ar e8, ai (f 0), ai (f 1), ai (f 4), ai (f 2), ai (f 3), ai (f 6), ar bar]), (pls, cq 3 6 pv), (ins, cq 2 5 iv), (hq, co 3 [ai (kWide f), ai (kPay f), ai ns, ai us, ar sla, ar ena, ar cda]), (cda, cn 0 100 cd), (sla, cn 0 10 sl), (ena, cn 0 10 en)] : aW) ++ zpA ta f pl tu) (fun u => True) (fun u => some (ai (qFirst f player 3))) (fun u => [(po, cn 0 36 u.1), (pi, co 4 (pO fa u.2.1)), (fa, cn 0 6 u.2.2)]) := by
  refine ct_I RX11 [(0, ar mo), (1, ai player), (2, ai 3)] (by decide) rfl (Nat.le_of_ble_eq_true rfl) rfl (fun x hgS hro hret => ?_)
  subst hgS
  have r0 := hro _ (List.mem_append_left _ (mem_at 0 rfl))
  have r1 := hro _ (List.mem_append_left _ (mem_at 1 rfl))
  have r2 := hro _ (List.mem_append_left _ (mem_at 2 rfl))
  have r3 := hro _ (List.mem_append_left _ (mem_at 3 rfl))
  have r4 := hro _ (List.mem_append_left _ (mem_at 4 rfl))
  have r5 := hro _ (List.mem_append_left _ (mem_at 5 rfl))
  have r6 := hro _ (List.mem_append_left _ (mem_at 6 rfl))
  have r7 := hro _ (List.mem_append_left _ (mem_at 7 rfl))
  have hra : ∀ q, q ∈ zpA ta f pl tu → Ro x q := fun q h => hro _ (List.mem_append_right _ h)
  obtain ⟨⟨hg0, hg1, hg2, hg3, hg4, hg5, hg6, hg7⟩, hSp, hSh, hSs, hSb, hSt, hSw⟩ := id hS
  show V x cX11_first RX11 12 (rmU 7 240 0 0) [(po, cn 0 36 po0), (pi, co 4 (pO fa m)), (fa, cn 0 6 fa0)] 0 [(0, ar mo), (1, ai player), (2, ai 3)] [] 0 0
  refine v_aload_n (pc := 0) 0 rfl dX11_first_0 ?_
  refine v_iload_n (pc := 1) 1 rfl dX11_first_1 ?_
  rcases Classical.em (0 ≤ player ∧ player ≤ f 0 - 1) with hp | hp
  · skip
    have hpl := hpv player hp.1 hp.2
    have rP := hra _ (zpA_p (ta := ta) (pl := pl) (tu := tu) hp)
    have rQ := hra _ (zpA_t (ta := ta) (pl := pl) (tu := tu) hp)
    have hp6 : 0 ≤ player ∧ player < 6 := by omega
    obtain ⟨hpp, hf1, hf2, hf3, hf4, hf5, hf6, hf7, hf8⟩ := hSp player hp6.1 hp6.2
    refine v_callV (pc := 2) [] [0, 1, 2] [(po, cn 0 36 po0), (pi, co 4 (pO fa m)), (fa, cn 0 6 fa0)] (As := [ai player]) (rest := []) (c_X11_find_y mo kw pi ta ms pt po hi nw pls ins tap e3 e4 e5 e6 e7 e8 bar pv (pl player) f player (by assumption) (by exact hpl) (by exact hp)) (c := 11) rfl (Or.inl r0) wl_X11_99 wi_X11_find wv_X11_X11_find_X11_find wk_X11_find wz_X11 md_X11_find rfl (Nat.le_of_ble_eq_true rfl) ⟨Nat.le_of_ble_eq_true rfl, Nat.le_of_ble_eq_true rfl, Nat.le_of_ble_eq_true rfl, Nat.le_of_ble_eq_true rfl⟩ rfl rfl rfl rfl (by decide) (ro_cons (Or.inl r0) (ro_cons (Or.inl r1) (ro_cons (Or.inl r2) ro_nil))) dX11_first_2 (fun u hu => ?_)
    show V x cX11_first RX11 12 (rmU 7 240 0 0) [(po, cn 0 36 po0), (pi, co 4 (pO fa m)), (fa, cn 0 6 fa0)] 5 [(0, ar mo), (1, ai player), (2, ai 3)] [ar (pl player)] 0 0
    refine v_astore_n (pc := 5) (L2 := [(3, ar (pl player)), (0, ar mo), (1, ai player), (2, ai 3)]) rfl (by decide) dX11_first_5 ?_
    refine v_aload_n (pc := 6) 0 rfl dX11_first_6 ?_
    refine v_ifnonnull_r (pc := 7) 12 dX11_first_7 (by decide) ?_
    refine v_iload_n (pc := 12) 3 rfl dX11_first_12 ?_
    refine v_iconst (pc := 13) dX11_first_13 ?_
    refine v_iconst (pc := 14) dX11_first_14 ?_
    refine v_callS (pc := 15) [] [0, 1, 2] [(po, cn 0 36 po0), (pi, co 4 (pO fa m)), (fa, cn 0 6 fa0)] (As := [ai 3, ai 1, ai 3]) (rest := []) (c_X11_isOut 3 1 3 (by first | omega | assumption) (by first | omega | assumption) (by first | omega | assumption)) wl_X11_41 ws_X11_isOut wk_X11_isOut wz_X11 md_X11_isOut rfl (Nat.le_of_ble_eq_true rfl) ⟨Nat.le_of_ble_eq_true rfl, Nat.le_of_ble_eq_true rfl, Nat.le_of_ble_eq_true rfl, Nat.le_of_ble_eq_true rfl⟩ rfl rfl rfl rfl (by decide) ro_nil dX11_first_15 (fun u hu => ?_)
    show V x cX11_first RX11 12 (rmU 7 240 0 0) [(po, cn 0 36 po0), (pi, co 4 (pO fa m)), (fa, cn 0 6 fa0)] 18 [(3, ar (pl player)), (0, ar mo), (1, ai player), (2, ai 3)] [ai (if 3 < 1 ∨ 3 < 3 then 1 else 0)] 0 0
    refine v_ifb_eq (pc := 18) 24 dX11_first_18 (by decide) (fun c_1 => ?_) (fun c_1 => ?_)
    · skip
      refine v_aload_n (pc := 24) 1 rfl dX11_first_24 ?_
      refine v_aload_n (pc := 25) 0 rfl dX11_first_25 ?_
      refine v_iload_n (pc := 26) 3 rfl dX11_first_26 ?_
      refine v_callV (pc := 27) [1, 2, 0] [] [] (As := [ar (pl player), ai 3]) (rest := []) (c_X11_fillPlanOdds mo kw pi ta ms pt po hi nw pls ins tap e3 e4 e5 e6 e7 e8 bar fa m fa0 iv hq ns us sla ena cda cd sl en (pl player) (tu player) f player 3 po0 (by assumption) (by assumption) (by first | omega | assumption) (by first | omega | assumption)) (c := 11) rfl (Or.inl r0) wl_X11_199 wi_X11_fillPlanOdds wv_X11_X11_fillPlanOdds_X11_fillPlanOdds wk_X11_fillPlanOdds wz_X11 md_X11_fillPlanOdds rfl (Nat.le_of_ble_eq_true rfl) ⟨Nat.le_of_ble_eq_true rfl, Nat.le_of_ble_eq_true rfl, Nat.le_of_ble_eq_true rfl, Nat.le_of_ble_eq_true rfl⟩ rfl rfl rfl rfl (by decide) (ro_cons (Or.inl r0) (ro_cons (Or.inl r1) (ro_cons (Or.inl r3) (ro_cons (Or.inl r4) (ro_cons (Or.inl r5) (ro_cons (Or.inl r6) (ro_cons (Or.inl r7) (ro_cons (Or.inl rP) (ro_cons (Or.inl rQ) ro_nil))))))))) dX11_first_27 (fun u hu => ?_)
      obtain ⟨po2_2, m2_3, fa2_4⟩ := u
      have g_5 : pOK f player 3 po2_2 := hu
      show V x cX11_first RX11 12 (rmU 7 240 0 0) [(po, cn 0 36 po2_2), (pi, co 4 (pO fa m2_3)), (fa, cn 0 6 fa2_4)] 30 [(3, ar (pl player)), (0, ar mo), (1, ai player), (2, ai 3)] [] 0 0
      have hpo := g_5
      have hvb : ∀ k : Int, 0 ≤ k → k < ((12 : Nat) : Int) → 0 ≤ (plV (kPB f player) (plN (kPB f player) 2) (f (37 + player)) (skr (f (19 + player)) 0)) k ∧ (plV (kPB f player) (plN (kPB f player) 2) (f (37 + player)) (skr (f (19 + player)) 0)) k ≤ 10 * (99 * 10 ^ 2) := fun k k0 k1 => plV_b (fun _ _ => kPB_b) (fun a b c d => plN_b (fun _ _ => kPB_b) 2 a b c d) (by omega) ⟨k0, k1⟩
      have hbd := bst_bd 12 (by decide) hvb
      refine v_aload_n (pc := 30) 1 rfl dX11_first_30 ?_
      refine v_aload_n (pc := 31) 0 rfl dX11_first_31 ?_
      refine v_get (pc := 32) (v := ai (f (37 + player))) 7 (Or.inl rP) (flP_11_109 (by omega)) rfl dX11_first_32 ?_
      refine v_iconst (pc := 35) dX11_first_35 ?_
      refine v_iload_n (pc := 36) 3 rfl dX11_first_36 ?_
      refine v_iconst (pc := 37) dX11_first_37 ?_
      refine v_isub (pc := 38) dX11_first_38 ?_
      refine v_callV (pc := 39) [] [0, 1, 2] [(po, cn 0 36 po2_2), (pi, co 4 (pO fa m2_3)), (fa, cn 0 6 fa2_4)] (As := [ai (f (37 + player)), ai 0, ai 2]) (rest := []) (c_X11_planned_d2 mo kw pi ta ms pt po hi nw f player 3 po2_2 (f (37 + player)) 0 (by assumption) (by first | omega | assumption) (by omega) (by assumption) (by omega) (by omega)) (c := 11) rfl (Or.inl r0) wl_X11_202 wi_X11_planned wv_X11_X11_planned_X11_planned wk_X11_planned wz_X11 md_X11_planned rfl (Nat.le_of_ble_eq_true rfl) ⟨Nat.le_of_ble_eq_true rfl, Nat.le_of_ble_eq_true rfl, Nat.le_of_ble_eq_true rfl, Nat.le_of_ble_eq_true rfl⟩ rfl rfl rfl rfl (by decide) (ro_cons (Or.inl r0) (ro_cons (Or.inr ⟨0, rfl, by decide⟩) ro_nil)) dX11_first_39 (fun u hu => ?_)
      show V x cX11_first RX11 12 (rmU 7 240 0 0) [(po, cn 0 36 po2_2), (pi, co 4 (pO fa m2_3)), (fa, cn 0 6 fa2_4)] 42 [(3, ar (pl player)), (0, ar mo), (1, ai player), (2, ai 3)] [al (plN (kPB f player) 2 (f (37 + player)) (skr (f (19 + player)) 0))] 0 0
      refine v_lstore (pc := 42) (L2 := [(4, al (plN (kPB f player) 2 (f (37 + player)) (skr (f (19 + player)) 0))), (3, ar (pl player)), (0, ar mo), (1, ai player), (2, ai 3)]) rfl (by decide) dX11_first_42 ?_
      refine v_ldc2 (pc := 44) (z := (-1)) (bw_mem 795 (by decide +kernel) rfl) dX11_first_44 ?_
      refine v_lstore (pc := 47) (L2 := [(6, al (-1)), (4, al (plN (kPB f player) 2 (f (37 + player)) (skr (f (19 + player)) 0))), (3, ar (pl player)), (0, ar mo), (1, ai player), (2, ai 3)]) rfl (by decide) dX11_first_47 ?_
      refine v_iconst (pc := 49) dX11_first_49 ?_
      refine v_istore (pc := 50) (L2 := [(8, ai 0), (6, al (-1)), (4, al (plN (kPB f player) 2 (f (37 + player)) (skr (f (19 + player)) 0))), (3, ar (pl player)), (0, ar mo), (1, ai player), (2, ai 3)]) rfl (by decide) dX11_first_50 ?_
      refine v_iconst (pc := 52) dX11_first_52 ?_
      refine v_istore (pc := 53) (L2 := [(9, ai 0), (8, ai 0), (6, al (-1)), (4, al (plN (kPB f player) 2 (f (37 + player)) (skr (f (19 + player)) 0))), (3, ar (pl player)), (0, ar mo), (1, ai player), (2, ai 3)]) rfl (by decide) dX11_first_53 ?_
      have lp55 : ∀ (mm : Nat) (k : Int) (mx : Int) (ch : Int), (12 - k).toNat = mm → (0 ≤ k ∧ k ≤ 12) → (mx = (bst (plV (kPB f player) (plN (kPB f player) 2) (f (37 + player)) (skr (f (19 + player)) 0)) k.toNat).1) → (ch = (bst (plV (kPB f player) (plN (kPB f player) 2) (f (37 + player)) (skr (f (19 + player)) 0)) k.toNat).2) → V x cX11_first RX11 12 (rmU 7 240 0 0) [(po, cn 0 36 po2_2), (pi, co 4 (pO fa m2_3)), (fa, cn 0 6 fa2_4)] 55 [(0, ar mo), (2, ai 3), (3, ar (pl player)), (4, al (plN (kPB f player) 2 (f (37 + player)) (skr (f (19 + player)) 0))), (6, al mx), (8, ai ch), (9, ai k)] [] 0 0 := by
        intro mm
        induction mm using Nat.strongRecOn with
        | _ mm ih =>
          intro k mx ch hmm hk hmx hch
          have hbk := hbd k.toNat (by omega)
          refine v_iload (pc := 55) 6 rfl dX11_first_55 ?_
          refine v_bipush (pc := 57) dX11_first_57 (by decide) ?_
          refine v_icmp_ge (pc := 59) 100 dX11_first_59 (by decide) (by unfold iB; omega) (by unfold iB; omega) (fun c_6 => ?_) (fun c_6 => ?_)
          · skip
            refine v_iload (pc := 100) 5 rfl dX11_first_100 ?_
            refine v_callS (pc := 102) [] [0, 1, 2] [(po, cn 0 36 po2_2), (pi, co 4 (pO fa m2_3)), (fa, cn 0 6 fa2_4)] (As := [ai ch]) (rest := []) (c_X11_matsOf ch ) wl_X11_216 ws_X11_matsOf wk_X11_matsOf wz_X11 md_X11_matsOf rfl (Nat.le_of_ble_eq_true rfl) ⟨Nat.le_of_ble_eq_true rfl, Nat.le_of_ble_eq_true rfl, Nat.le_of_ble_eq_true rfl, Nat.le_of_ble_eq_true rfl⟩ rfl rfl rfl rfl (by decide) ro_nil dX11_first_102 (fun u hu => ?_)
            show V x cX11_first RX11 12 (rmU 7 240 0 0) [(po, cn 0 36 po2_2), (pi, co 4 (pO fa m2_3)), (fa, cn 0 6 fa2_4)] 105 [(0, ar mo), (2, ai 3), (3, ar (pl player)), (4, al (plN (kPB f player) 2 (f (37 + player)) (skr (f (19 + player)) 0))), (6, al mx), (8, ai ch), (9, ai k)] [ai (5 * (ch + 1))] 0 0
            exact hret (po2_2, m2_3, fa2_4) _ _ _ _ _ _ trivial (congrArg (fun z => some (ai z)) (by unfold qFirst; rw [if_neg (by omega), if_neg (by omega)]; unfold plA; rw [hch, show k.toNat = 12 by omega, skr_0 hf3, show ((3 : Int) - 1).toNat = 2 from rfl]; omega)) rfl (Nat.le_of_ble_eq_true rfl) (Nat.le_of_ble_eq_true rfl) dX11_first_105
          · skip
            refine v_aload_n (pc := 62) 0 rfl dX11_first_62 ?_
            refine v_iload (pc := 63) 6 rfl dX11_first_63 ?_
            refine v_aload_n (pc := 65) 2 rfl dX11_first_65 ?_
            refine v_get (pc := 66) (v := ai (f (37 + player))) 7 (Or.inl rP) (flP_11_109 (by omega)) rfl dX11_first_66 ?_
            refine v_iconst (pc := 69) dX11_first_69 ?_
            refine v_iload_n (pc := 70) 1 rfl dX11_first_70 ?_
            refine v_lload (pc := 71) 3 rfl dX11_first_71 ?_
            refine v_callV (pc := 73) [] [0, 1, 2] [(po, cn 0 36 po2_2), (pi, co 4 (pO fa m2_3)), (fa, cn 0 6 fa2_4)] (As := [ai k, ai (f (37 + player)), ai 0, ai 3, al (plN (kPB f player) 2 (f (37 + player)) (skr (f (19 + player)) 0))]) (rest := []) (c_X11_plannedBy_d3 mo kw pi ta ms pt po hi nw f player 3 po2_2 k (f (37 + player)) 0 (plN (kPB f player) 2 (f (37 + player)) (skr (f (19 + player)) 0)) (by assumption) (by first | omega | assumption) (by omega) (by assumption) (by omega) (by omega) (by first | omega | assumption) (by rfl)) (c := 11) rfl (Or.inl r0) wl_X11_212 wi_X11_plannedBy wv_X11_X11_plannedBy_X11_plannedBy wk_X11_plannedBy wz_X11 md_X11_plannedBy rfl (Nat.le_of_ble_eq_true rfl) ⟨Nat.le_of_ble_eq_true rfl, Nat.le_of_ble_eq_true rfl, Nat.le_of_ble_eq_true rfl, Nat.le_of_ble_eq_true rfl⟩ rfl rfl rfl rfl (by decide) (ro_cons (Or.inl r0) (ro_cons (Or.inr ⟨0, rfl, by decide⟩) ro_nil)) dX11_first_73 (fun u hu => ?_)
            show V x cX11_first RX11 12 (rmU 7 240 0 0) [(po, cn 0 36 po2_2), (pi, co 4 (pO fa m2_3)), (fa, cn 0 6 fa2_4)] 76 [(0, ar mo), (2, ai 3), (3, ar (pl player)), (4, al (plN (kPB f player) 2 (f (37 + player)) (skr (f (19 + player)) 0))), (6, al mx), (8, ai ch), (9, ai k)] [al (plV (kPB f player) (plN (kPB f player) 2) (f (37 + player)) (skr (f (19 + player)) 0) k)] 0 0
            have hvk := hvb k hk.1 (by omega)
            have hbs := bst_succ (plV (kPB f player) (plN (kPB f player) 2) (f (37 + player)) (skr (f (19 + player)) 0)) k.toNat
            rw [show ((k.toNat : Nat) : Int) = k by omega, show k.toNat + 1 = (k + 1).toNat by omega] at hbs
            refine v_lstore (pc := 76) (L2 := [(10, al (plV (kPB f player) (plN (kPB f player) 2) (f (37 + player)) (skr (f (19 + player)) 0) k)), (0, ar mo), (2, ai 3), (3, ar (pl player)), (4, al (plN (kPB f player) 2 (f (37 + player)) (skr (f (19 + player)) 0))), (6, al mx), (8, ai ch), (9, ai k)]) rfl (by decide) dX11_first_76 ?_
            refine v_lload (pc := 78) 0 rfl dX11_first_78 ?_
            refine v_lload (pc := 80) 5 rfl dX11_first_80 ?_
            refine v_lcmp (pc := 82) (by unfold lB; omega) (by unfold lB; omega) dX11_first_82 ?_
            refine v_if_le (pc := 83) 94 dX11_first_83 (by decide) (acmp_iB _ _) (fun c_7 => ?_) (fun c_7 => ?_)
            · skip
              have c_7 := acmp_le.mp c_7
              refine v_iinc (pc := 94) 7 (L2 := [(9, ai (k + 1)), (10, al (plV (kPB f player) (plN (kPB f player) 2) (f (37 + player)) (skr (f (19 + player)) 0) k)), (0, ar mo), (2, ai 3), (3, ar (pl player)), (4, al (plN (kPB f player) 2 (f (37 + player)) (skr (f (19 + player)) 0))), (6, al mx), (8, ai ch)]) rfl rfl (by decide) dX11_first_94 ?_
              refine v_goto (pc := 97) 55 dX11_first_97 (by decide) ?_
              refine v_sub (L2 := [(0, ar mo), (2, ai 3), (3, ar (pl player)), (4, al (plN (kPB f player) 2 (f (37 + player)) (skr (f (19 + player)) 0))), (6, al mx), (8, ai ch), (9, ai (k + 1))]) [2, 3, 4, 5, 6, 7, 0] rfl ?_
              exact ih _ (by omega) (k + 1) mx ch rfl (by omega) (by rw [hbs]; first | (rw [if_pos (by omega)]; done) | (rw [if_neg (by omega)]; exact hmx)) (by rw [hbs]; first | (rw [if_pos (by omega)]; done) | (rw [if_neg (by omega)]; exact hch))
            · skip
              have c_7 := acmp_gt.mp c_7
              refine v_lload (pc := 86) 0 rfl dX11_first_86 ?_
              refine v_lstore (pc := 88) (L2 := [(6, al (plV (kPB f player) (plN (kPB f player) 2) (f (37 + player)) (skr (f (19 + player)) 0) k)), (10, al (plV (kPB f player) (plN (kPB f player) 2) (f (37 + player)) (skr (f (19 + player)) 0) k)), (0, ar mo), (2, ai 3), (3, ar (pl player)), (4, al (plN (kPB f player) 2 (f (37 + player)) (skr (f (19 + player)) 0))), (8, ai ch), (9, ai k)]) rfl (by decide) dX11_first_88 ?_
              refine v_iload (pc := 90) 7 rfl dX11_first_90 ?_
              refine v_istore (pc := 92) (L2 := [(8, ai k), (6, al (plV (kPB f player) (plN (kPB f player) 2) (f (37 + player)) (skr (f (19 + player)) 0) k)), (10, al (plV (kPB f player) (plN (kPB f player) 2) (f (37 + player)) (skr (f (19 + player)) 0) k)), (0, ar mo), (2, ai 3), (3, ar (pl player)), (4, al (plN (kPB f player) 2 (f (37 + player)) (skr (f (19 + player)) 0))), (9, ai k)]) rfl (by decide) dX11_first_92 ?_
              refine v_iinc (pc := 94) 7 (L2 := [(9, ai (k + 1)), (8, ai k), (6, al (plV (kPB f player) (plN (kPB f player) 2) (f (37 + player)) (skr (f (19 + player)) 0) k)), (10, al (plV (kPB f player) (plN (kPB f player) 2) (f (37 + player)) (skr (f (19 + player)) 0) k)), (0, ar mo), (2, ai 3), (3, ar (pl player)), (4, al (plN (kPB f player) 2 (f (37 + player)) (skr (f (19 + player)) 0)))]) rfl rfl (by decide) dX11_first_94 ?_
              refine v_goto (pc := 97) 55 dX11_first_97 (by decide) ?_
              refine v_sub (L2 := [(0, ar mo), (2, ai 3), (3, ar (pl player)), (4, al (plN (kPB f player) 2 (f (37 + player)) (skr (f (19 + player)) 0))), (6, al (plV (kPB f player) (plN (kPB f player) 2) (f (37 + player)) (skr (f (19 + player)) 0) k)), (8, ai k), (9, ai (k + 1))]) [4, 5, 6, 7, 2, 1, 0] rfl ?_
              exact ih _ (by omega) (k + 1) (plV (kPB f player) (plN (kPB f player) 2) (f (37 + player)) (skr (f (19 + player)) 0) k) k rfl (by omega) (by rw [hbs]; first | (rw [if_pos (by omega)]; done) | (rw [if_neg (by omega)]; exact hmx)) (by rw [hbs]; first | (rw [if_pos (by omega)]; done) | (rw [if_neg (by omega)]; exact hch))
      refine v_sub (L2 := [(0, ar mo), (2, ai 3), (3, ar (pl player)), (4, al (plN (kPB f player) 2 (f (37 + player)) (skr (f (19 + player)) 0))), (6, al (-1)), (8, ai 0), (9, ai 0)]) [5, 7, 4, 3, 2, 1, 0] rfl ?_
      exact lp55 _ 0 (-1) 0 rfl (by omega) (by rfl) (by rfl)
    · skip
      exfalso; omega
  · skip
    refine v_callV (pc := 2) [] [0, 1, 2] [(po, cn 0 36 po0), (pi, co 4 (pO fa m)), (fa, cn 0 6 fa0)] (As := [ai player]) (rest := []) (c_X11_find_n mo kw pi ta ms pt po hi nw pls ins tap e3 e4 e5 e6 e7 e8 bar pv f player (by assumption) (by exact hp) (by first | omega | assumption)) (c := 11) rfl (Or.inl r0) wl_X11_99 wi_X11_find wv_X11_X11_find_X11_find wk_X11_find wz_X11 md_X11_find rfl (Nat.le_of_ble_eq_true rfl) ⟨Nat.le_of_ble_eq_true rfl, Nat.le_of_ble_eq_true rfl, Nat.le_of_ble_eq_true rfl, Nat.le_of_ble_eq_true rfl⟩ rfl rfl rfl rfl (by decide) (ro_cons (Or.inl r0) (ro_cons (Or.inl r1) (ro_cons (Or.inl r2) ro_nil))) dX11_first_2 (fun u hu => ?_)
    show V x cX11_first RX11 12 (rmU 7 240 0 0) [(po, cn 0 36 po0), (pi, co 4 (pO fa m)), (fa, cn 0 6 fa0)] 5 [(0, ar mo), (1, ai player), (2, ai 3)] [an] 0 0
    refine v_astore_n (pc := 5) (L2 := [(3, an), (0, ar mo), (1, ai player), (2, ai 3)]) rfl (by decide) dX11_first_5 ?_
    refine v_aload_n (pc := 6) 0 rfl dX11_first_6 ?_
    refine v_ifnonnull_n (pc := 7) dX11_first_7 ?_
    refine v_iconst (pc := 10) dX11_first_10 ?_
    exact hret (po0, m, fa0) _ _ _ _ _ _ trivial (congrArg (fun z => some (ai z)) (by unfold qFirst; (repeat' split) <;> first | rfl | (exfalso; omega) | omega)) rfl (Nat.le_of_ble_eq_true rfl) (Nat.le_of_ble_eq_true rfl) dX11_first_11
theorem c_X11_first {gS : sG} (mo : Nat) (kw : Nat) (pi : Nat) (ta : Nat) (ms : Nat) (pt : Nat) (po : Nat) (hi : Int) (nw : Nat) (pls : Nat) (ins : Nat) (tap : Nat) (e3 : Nat) (e4 : Nat) (e5 : Nat) (e6 : Nat) (e7 : Nat) (e8 : Nat) (bar : Nat) (fa : Nat) (m : Nat → Int) (fa0 : Int → Int) (iv : Int → Option Nat) (hq : Nat) (ns : Int) (us : Int) (sla : Nat) (ena : Nat) (cda : Nat) (cd : Int → Int) (sl : Int → Int) (en : Int → Int) (pv : Int → Option Nat) (pl : Int → Nat) (tu : Int → Nat) (f : Int → Int) (po0 : Int → Int) (player : Int) (tries : Int) (hS : SOK f) (hI : inC f iv bar hq ns us sl en cd) (hpv : ∀ i : Int, 0 ≤ i → i ≤ f 0 - 1 → pv i = some (pl i)) (hb_player : -2147483648 ≤ player ∧ player < 2147483648) (hb_tries : -2147483648 ≤ tries ∧ tries < 2147483648) : Ct gS (S := (Int → Int) × (Nat → Int) × (Int → Int)) yX11_first cX11_first 12 (some .int) 7 240 0 0 [ar mo, ai player, ai tries] [(po, cn 0 36 po0), (pi, co 4 (pO fa m)), (fa, cn 0 6 fa0)] (fun q => q ∈ ([(mo, co 11 [ar nw, ar kw, ar pi, ar ta, ar ms, ar pt, ar po, ai hi]), (nw, co 10 [ar pls, ar ins, ar tap, ar e3, ar e4, ar e5, ar e6, ar e7, ar e8, ai (f 0), ai (f 1), ai (f 4), ai (f 2), ai (f 3), ai (f 6), ar bar]), (pls, cq 3 6 pv), (ins, cq 2 5 iv), (hq, co 3 [ai (kWide f), ai (kPay f), ai ns, ai us, ar sla, ar ena, ar cda]), (cda, cn 0 100 cd), (sla, cn 0 10 sl), (ena, cn 0 10 en)] : aW) ++ zpA ta f pl tu) (fun u => True) (fun u => some (ai (qFirst f player tries))) (fun u => [(po, cn 0 36 u.1), (pi, co 4 (pO fa u.2.1)), (fa, cn 0 6 u.2.2)]) := by
  rcases Classical.em (1 ≤ tries ∧ tries ≤ 3) with ht | ht
  · rcases (show tries = 1 ∨ tries = 2 ∨ tries = 3 by omega) with rfl | rfl | rfl
    · exact c_X11_first_t1 mo kw pi ta ms pt po hi nw pls ins tap e3 e4 e5 e6 e7 e8 bar fa m fa0 iv hq ns us sla ena cda cd sl en pv pl tu f po0 player hS hI hpv hb_player
    · exact c_X11_first_t2 mo kw pi ta ms pt po hi nw pls ins tap e3 e4 e5 e6 e7 e8 bar fa m fa0 iv hq ns us sla ena cda cd sl en pv pl tu f po0 player hS hI hpv hb_player
    · exact c_X11_first_t3 mo kw pi ta ms pt po hi nw pls ins tap e3 e4 e5 e6 e7 e8 bar fa m fa0 iv hq ns us sla ena cda cd sl en pv pl tu f po0 player hS hI hpv hb_player
  · exact c_X11_first_o mo kw pi ta ms pt po hi nw pls ins tap e3 e4 e5 e6 e7 e8 bar fa m fa0 iv hq ns us sla ena cda cd sl en pv pl tu f po0 player tries hS hI hpv ht hb_player hb_tries
set_option maxHeartbeats 4000000 in
set_option maxRecDepth 100000 in
theorem c_X11_more {gS : sG} (mo : Nat) (kw : Nat) (pi : Nat) (ta : Nat) (ms : Nat) (pt : Nat) (po : Nat) (hi : Int) (nw : Nat) (pls : Nat) (ins : Nat) (tap : Nat) (e3 : Nat) (e4 : Nat) (e5 : Nat) (e6 : Nat) (e7 : Nat) (e8 : Nat) (bar : Nat) (fa : Nat) (m : Nat → Int) (fa0 : Int → Int) (iv : Int → Option Nat) (hq : Nat) (ns : Int) (us : Int) (sla : Nat) (ena : Nat) (cda : Nat) (cd : Int → Int) (sl : Int → Int) (en : Int → Int) (pv : Int → Option Nat) (pl : Int → Nat) (tu : Int → Nat) (f : Int → Int) (one : Int) (other : Int) (tries : Int) (part : Int) (hS : SOK f) (hI : inC f iv bar hq ns us sl en cd) (hpv : ∀ i : Int, 0 ≤ i → i ≤ f 0 - 1 → pv i = some (pl i)) (hb_one : -2147483648 ≤ one ∧ one < 2147483648) (hb_other : -2147483648 ≤ other ∧ other < 2147483648) (hb_tries : -2147483648 ≤ tries ∧ tries < 2147483648) (hb_part : -2147483648 ≤ part ∧ part < 2147483648) : Ct gS (S := (Nat → Int) × (Int → Int)) yX11_more cX11_more 10 (some .long) 5 125 0 0 [ar mo, ai one, ai other, ai tries, ai part] [(pi, co 4 (pO fa m)), (fa, cn 0 6 fa0)] (fun q => q ∈ ([(mo, co 11 [ar nw, ar kw, ar pi, ar ta, ar ms, ar pt, ar po, ai hi]), (nw, co 10 [ar pls, ar ins, ar tap, ar e3, ar e4, ar e5, ar e6, ar e7, ar e8, ai (f 0), ai (f 1), ai (f 4), ai (f 2), ai (f 3), ai (f 6), ar bar]), (pls, cq 3 6 pv), (ins, cq 2 5 iv), (hq, co 3 [ai (kWide f), ai (kPay f), ai ns, ai us, ar sla, ar ena, ar cda]), (cda, cn 0 100 cd), (sla, cn 0 10 sl), (ena, cn 0 10 en)] : aW) ++ zpA ta f pl tu) (fun u => True) (fun u => some (al (qMore f one other tries part))) (fun u => [(pi, co 4 (pO fa u.1)), (fa, cn 0 6 u.2)]) := by
  refine ct_L RX11 [(0, ar mo), (1, ai one), (2, ai other), (3, ai tries), (4, ai part)] (by decide) rfl (Nat.le_of_ble_eq_true rfl) rfl (fun x hgS hro hret => ?_)
  subst hgS
  have r0 := hro _ (List.mem_append_left _ (mem_at 0 rfl))
  have r1 := hro _ (List.mem_append_left _ (mem_at 1 rfl))
  have r2 := hro _ (List.mem_append_left _ (mem_at 2 rfl))
  have r3 := hro _ (List.mem_append_left _ (mem_at 3 rfl))
  have r4 := hro _ (List.mem_append_left _ (mem_at 4 rfl))
  have r5 := hro _ (List.mem_append_left _ (mem_at 5 rfl))
  have r6 := hro _ (List.mem_append_left _ (mem_at 6 rfl))
  have r7 := hro _ (List.mem_append_left _ (mem_at 7 rfl))
  have hra : ∀ q, q ∈ zpA ta f pl tu → Ro x q := fun q h => hro _ (List.mem_append_right _ h)
  obtain ⟨⟨hg0, hg1, hg2, hg3, hg4, hg5, hg6, hg7⟩, hSp, hSh, hSs, hSb, hSt, hSw⟩ := id hS
  show V x cX11_more RX11 10 (rmU 5 125 0 0) [(pi, co 4 (pO fa m)), (fa, cn 0 6 fa0)] 0 [(0, ar mo), (1, ai one), (2, ai other), (3, ai tries), (4, ai part)] [] 0 0
  refine v_aload_n (pc := 0) 0 rfl dX11_more_0 ?_
  refine v_iload_n (pc := 1) 1 rfl dX11_more_1 ?_
  rcases Classical.em (0 ≤ one ∧ one ≤ f 0 - 1) with hp | hp
  · skip
    have hpl := hpv one hp.1 hp.2
    have rP := hra _ (zpA_p (ta := ta) (pl := pl) (tu := tu) hp)
    have rQ := hra _ (zpA_t (ta := ta) (pl := pl) (tu := tu) hp)
    have hp6 : 0 ≤ one ∧ one < 6 := by omega
    obtain ⟨hpp, hf1, hf2, hf3, hf4, hf5, hf6, hf7, hf8⟩ := hSp one hp6.1 hp6.2
    refine v_callV (pc := 2) [] [0, 1] [(pi, co 4 (pO fa m)), (fa, cn 0 6 fa0)] (As := [ai one]) (rest := []) (c_X11_find_y mo kw pi ta ms pt po hi nw pls ins tap e3 e4 e5 e6 e7 e8 bar pv (pl one) f one (by assumption) (by exact hpl) (by exact hp)) (c := 11) rfl (Or.inl r0) wl_X11_99 wi_X11_find wv_X11_X11_find_X11_find wk_X11_find wz_X11 md_X11_find rfl (Nat.le_of_ble_eq_true rfl) ⟨Nat.le_of_ble_eq_true rfl, Nat.le_of_ble_eq_true rfl, Nat.le_of_ble_eq_true rfl, Nat.le_of_ble_eq_true rfl⟩ rfl rfl rfl rfl (by decide) (ro_cons (Or.inl r0) (ro_cons (Or.inl r1) (ro_cons (Or.inl r2) ro_nil))) dX11_more_2 (fun u hu => ?_)
    show V x cX11_more RX11 10 (rmU 5 125 0 0) [(pi, co 4 (pO fa m)), (fa, cn 0 6 fa0)] 5 [(0, ar mo), (1, ai one), (2, ai other), (3, ai tries), (4, ai part)] [ar (pl one)] 0 0
    refine v_astore (pc := 5) (L2 := [(5, ar (pl one)), (0, ar mo), (1, ai one), (2, ai other), (3, ai tries), (4, ai part)]) rfl (by decide) dX11_more_5 ?_
    refine v_aload_n (pc := 7) 1 rfl dX11_more_7 ?_
    refine v_iload_n (pc := 8) 3 rfl dX11_more_8 ?_
    rcases Classical.em (0 ≤ other ∧ other ≤ f 0 - 1) with hpq | hpq
    · skip
      have hplb := hpv other hpq.1 hpq.2
      have rPb := hra _ (zpA_p (ta := ta) (pl := pl) (tu := tu) hpq)
      have rQb := hra _ (zpA_t (ta := ta) (pl := pl) (tu := tu) hpq)
      have hp6b : 0 ≤ other ∧ other < 6 := by omega
      obtain ⟨hppb, hf1b, hf2b, hf3b, hf4b, hf5b, hf6b, hf7b, hf8b⟩ := hSp other hp6b.1 hp6b.2
      refine v_callV (pc := 9) [] [0, 1] [(pi, co 4 (pO fa m)), (fa, cn 0 6 fa0)] (As := [ai other]) (rest := []) (c_X11_find_y mo kw pi ta ms pt po hi nw pls ins tap e3 e4 e5 e6 e7 e8 bar pv (pl other) f other (by assumption) (by exact hplb) (by exact hpq)) (c := 11) rfl (Or.inl r0) wl_X11_99 wi_X11_find wv_X11_X11_find_X11_find wk_X11_find wz_X11 md_X11_find rfl (Nat.le_of_ble_eq_true rfl) ⟨Nat.le_of_ble_eq_true rfl, Nat.le_of_ble_eq_true rfl, Nat.le_of_ble_eq_true rfl, Nat.le_of_ble_eq_true rfl⟩ rfl rfl rfl rfl (by decide) (ro_cons (Or.inl r0) (ro_cons (Or.inl r1) (ro_cons (Or.inl r2) ro_nil))) dX11_more_9 (fun u hu => ?_)
      show V x cX11_more RX11 10 (rmU 5 125 0 0) [(pi, co 4 (pO fa m)), (fa, cn 0 6 fa0)] 12 [(5, ar (pl one)), (0, ar mo), (1, ai one), (2, ai other), (3, ai tries), (4, ai part)] [ar (pl other)] 0 0
      refine v_astore (pc := 12) (L2 := [(6, ar (pl other)), (5, ar (pl one)), (0, ar mo), (1, ai one), (2, ai other), (3, ai tries), (4, ai part)]) rfl (by decide) dX11_more_12 ?_
      refine v_aload (pc := 14) 1 rfl dX11_more_14 ?_
      refine v_ifnull_r (pc := 16) dX11_more_16 ?_
      refine v_aload (pc := 19) 0 rfl dX11_more_19 ?_
      refine v_ifnull_r (pc := 21) dX11_more_21 ?_
      refine v_iload_n (pc := 24) 3 rfl dX11_more_24 ?_
      refine v_iload_n (pc := 25) 4 rfl dX11_more_25 ?_
      refine v_icmp_eq (pc := 26) 47 dX11_more_26 (by decide) (by unfold iB; omega) (by unfold iB; omega) (fun c_1 => ?_) (fun c_1 => ?_)
      · skip
        refine v_ldc2 (pc := 47) (z := (-9223372036854775808)) (bw_mem 727 (by decide +kernel) rfl) dX11_more_47 ?_
        exact hret (m, fa0) _ _ _ _ _ _ trivial (congrArg (fun z => some (al z)) (by unfold qMore; (repeat' split) <;> first | rfl | (exfalso; omega) | omega)) rfl (Nat.le_of_ble_eq_true rfl) (Nat.le_of_ble_eq_true rfl) dX11_more_50
      · skip
        refine v_iload_n (pc := 29) 5 rfl dX11_more_29 ?_
        refine v_iconst (pc := 30) dX11_more_30 ?_
        refine v_bipush (pc := 31) dX11_more_31 (by decide) ?_
        refine v_callS (pc := 33) [] [0, 1] [(pi, co 4 (pO fa m)), (fa, cn 0 6 fa0)] (As := [ai tries, ai 1, ai 6]) (rest := []) (c_X11_isOut tries 1 6 (by first | omega | assumption) (by first | omega | assumption) (by first | omega | assumption)) wl_X11_41 ws_X11_isOut wk_X11_isOut wz_X11 md_X11_isOut rfl (Nat.le_of_ble_eq_true rfl) ⟨Nat.le_of_ble_eq_true rfl, Nat.le_of_ble_eq_true rfl, Nat.le_of_ble_eq_true rfl, Nat.le_of_ble_eq_true rfl⟩ rfl rfl rfl rfl (by decide) ro_nil dX11_more_33 (fun u hu => ?_)
        show V x cX11_more RX11 10 (rmU 5 125 0 0) [(pi, co 4 (pO fa m)), (fa, cn 0 6 fa0)] 36 [(6, ar (pl other)), (5, ar (pl one)), (0, ar mo), (1, ai one), (2, ai other), (3, ai tries), (4, ai part)] [ai (if tries < 1 ∨ 6 < tries then 1 else 0)] 0 0
        refine v_ifb_ne (pc := 36) 47 dX11_more_36 (by decide) (fun c_2 => ?_) (fun c_2 => ?_)
        · skip
          refine v_ldc2 (pc := 47) (z := (-9223372036854775808)) (bw_mem 727 (by decide +kernel) rfl) dX11_more_47 ?_
          exact hret (m, fa0) _ _ _ _ _ _ trivial (congrArg (fun z => some (al z)) (by unfold qMore; (repeat' split) <;> first | rfl | (exfalso; omega) | omega)) rfl (Nat.le_of_ble_eq_true rfl) (Nat.le_of_ble_eq_true rfl) dX11_more_50
        · skip
          refine v_iload (pc := 39) 6 rfl dX11_more_39 ?_
          refine v_callS (pc := 41) [] [0, 1] [(pi, co 4 (pO fa m)), (fa, cn 0 6 fa0)] (As := [ai part]) (rest := []) (c_X11_isNoPart part (by first | omega | assumption)) wl_X11_166 ws_X11_isNoPart wk_X11_isNoPart wz_X11 md_X11_isNoPart rfl (Nat.le_of_ble_eq_true rfl) ⟨Nat.le_of_ble_eq_true rfl, Nat.le_of_ble_eq_true rfl, Nat.le_of_ble_eq_true rfl, Nat.le_of_ble_eq_true rfl⟩ rfl rfl rfl rfl (by decide) ro_nil dX11_more_41 (fun u hu => ?_)
          show V x cX11_more RX11 10 (rmU 5 125 0 0) [(pi, co 4 (pO fa m)), (fa, cn 0 6 fa0)] 44 [(6, ar (pl other)), (5, ar (pl one)), (0, ar mo), (1, ai one), (2, ai other), (3, ai tries), (4, ai part)] [ai (if part < 0 ∨ 1 < part then 1 else 0)] 0 0
          refine v_ifb_eq (pc := 44) 51 dX11_more_44 (by decide) (fun c_3 => ?_) (fun c_3 => ?_)
          · skip
            refine v_aload_n (pc := 51) 2 rfl dX11_more_51 ?_
            refine v_aload (pc := 52) 1 rfl dX11_more_52 ?_
            refine v_aload (pc := 54) 0 rfl dX11_more_54 ?_
            refine v_callS (pc := 56) [] [0, 1] [(pi, co 4 (pO fa m)), (fa, cn 0 6 fa0)] (As := [ar (pl other)]) (rest := [ar (pl one), ar mo]) (c_X11_oneMoreThan (pl other) (tu other) ta f other (by assumption) (by first | omega | assumption)) wl_X11_219 ws_X11_oneMoreThan wk_X11_oneMoreThan wz_X11 md_X11_oneMoreThan rfl (Nat.le_of_ble_eq_true rfl) ⟨Nat.le_of_ble_eq_true rfl, Nat.le_of_ble_eq_true rfl, Nat.le_of_ble_eq_true rfl, Nat.le_of_ble_eq_true rfl⟩ rfl rfl rfl rfl (by decide) (ro_cons (Or.inl rPb) ro_nil) dX11_more_56 (fun u hu => ?_)
            show V x cX11_more RX11 10 (rmU 5 125 0 0) [(pi, co 4 (pO fa m)), (fa, cn 0 6 fa0)] 59 [(6, ar (pl other)), (5, ar (pl one)), (0, ar mo), (1, ai one), (2, ai other), (3, ai tries), (4, ai part)] [ai (oneM f other), ar (pl one), ar mo] 0 0
            have hom := oneM_b (hSp other hp6b.1 hp6b.2)
            refine v_callV (pc := 59) [0, 1] [] [] (As := [ar (pl one), ai (oneM f other)]) (rest := []) (c_X11_lay mo kw pi ta ms pt po hi nw pls ins tap e3 e4 e5 e6 e7 e8 bar fa m fa0 iv hq ns us sla ena cda cd sl en (pl one) (tu one) f one (oneM f other) (by assumption) (by assumption) (by first | omega | assumption) (by first | omega | assumption)) (c := 11) rfl (Or.inl r0) wl_X11_142 wi_X11_lay wv_X11_X11_lay_X11_lay wk_X11_lay wz_X11 md_X11_lay rfl (Nat.le_of_ble_eq_true rfl) ⟨Nat.le_of_ble_eq_true rfl, Nat.le_of_ble_eq_true rfl, Nat.le_of_ble_eq_true rfl, Nat.le_of_ble_eq_true rfl⟩ rfl rfl rfl rfl (by decide) (ro_cons (Or.inl r0) (ro_cons (Or.inl r1) (ro_cons (Or.inl r3) (ro_cons (Or.inl r4) (ro_cons (Or.inl r5) (ro_cons (Or.inl r6) (ro_cons (Or.inl r7) (ro_cons (Or.inl rP) (ro_cons (Or.inl rQ) ro_nil))))))))) dX11_more_59 (fun u hu => ?_)
            obtain ⟨fa2_4, rfl⟩ : ∃ z, z = u := ⟨_, rfl⟩
            show V x cX11_more RX11 10 (rmU 5 125 0 0) [(pi, co 4 (pO fa (pMf f one (oneM f other)))), (fa, cn 0 6 fa2_4)] 62 [(6, ar (pl other)), (5, ar (pl one)), (0, ar mo), (1, ai one), (2, ai other), (3, ai tries), (4, ai part)] [] 0 0
            have hbb := fBest_b (f := f) (p := one) (n := oneM f other)
            have hpw := pow_10 tries.toNat (by omega)
            refine v_lconst1 (pc := 62) dX11_more_62 ?_
            refine v_lstore (pc := 63) (L2 := [(7, al 1), (6, ar (pl other)), (5, ar (pl one)), (0, ar mo), (1, ai one), (2, ai other), (3, ai tries), (4, ai part)]) rfl (by decide) dX11_more_63 ?_
            refine v_iconst (pc := 65) dX11_more_65 ?_
            refine v_istore (pc := 66) (L2 := [(9, ai 0), (7, al 1), (6, ar (pl other)), (5, ar (pl one)), (0, ar mo), (1, ai one), (2, ai other), (3, ai tries), (4, ai part)]) rfl (by decide) dX11_more_66 ?_
            have lp68 : ∀ (mm : Nat) (j : Int) (mi : Int), (tries - j).toNat = mm → (0 ≤ j ∧ j ≤ tries) → (mi = ((10 - fBest f one (oneM f other)) ^ j.toNat)) → V x cX11_more RX11 10 (rmU 5 125 0 0) [(pi, co 4 (pO fa (pMf f one (oneM f other)))), (fa, cn 0 6 fa2_4)] 68 [(0, ar mo), (3, ai tries), (4, ai part), (7, al mi), (9, ai j)] [] 0 0 := by
              intro mm
              induction mm using Nat.strongRecOn with
              | _ mm ih =>
                intro j mi hmm hj hmi
                refine v_iload (pc := 68) 4 rfl dX11_more_68 ?_
                refine v_iload_n (pc := 70) 1 rfl dX11_more_70 ?_
                refine v_icmp_ge (pc := 71) 96 dX11_more_71 (by decide) (by unfold iB; omega) (by unfold iB; omega) (fun c_5 => ?_) (fun c_5 => ?_)
                · skip
                  refine v_iload_n (pc := 96) 1 rfl dX11_more_96 ?_
                  refine v_callS (pc := 97) [] [0, 1] [(pi, co 4 (pO fa (pMf f one (oneM f other)))), (fa, cn 0 6 fa2_4)] (As := [ai tries]) (rest := []) (c_X11_tenths tries (by first | omega | assumption)) wl_X11_206 ws_X11_tenths wk_X11_tenths wz_X11 md_X11_tenths rfl (Nat.le_of_ble_eq_true rfl) ⟨Nat.le_of_ble_eq_true rfl, Nat.le_of_ble_eq_true rfl, Nat.le_of_ble_eq_true rfl, Nat.le_of_ble_eq_true rfl⟩ rfl rfl rfl rfl (by decide) ro_nil dX11_more_97 (fun u hu => ?_)
                  show V x cX11_more RX11 10 (rmU 5 125 0 0) [(pi, co 4 (pO fa (pMf f one (oneM f other)))), (fa, cn 0 6 fa2_4)] 100 [(0, ar mo), (3, ai tries), (4, ai part), (7, al mi), (9, ai j)] [al (10 ^ tries.toNat)] 0 0
                  have hpb := pow_b (n := 10 - fBest f one (oneM f other)) (by omega) tries.toNat
                  rw [show j = tries by omega] at hmi
                  refine v_lload (pc := 100) 3 rfl dX11_more_100 ?_
                  refine v_lsub (pc := 102) dX11_more_102 ?_
                  refine v_iload_n (pc := 103) 1 rfl dX11_more_103 ?_
                  refine v_callS (pc := 104) [] [0, 1] [(pi, co 4 (pO fa (pMf f one (oneM f other)))), (fa, cn 0 6 fa2_4)] (As := [ai tries]) (rest := [al ((10 ^ tries.toNat) - mi)]) (c_X11_tenths tries (by first | omega | assumption)) wl_X11_206 ws_X11_tenths wk_X11_tenths wz_X11 md_X11_tenths rfl (Nat.le_of_ble_eq_true rfl) ⟨Nat.le_of_ble_eq_true rfl, Nat.le_of_ble_eq_true rfl, Nat.le_of_ble_eq_true rfl, Nat.le_of_ble_eq_true rfl⟩ rfl rfl rfl rfl (by decide) ro_nil dX11_more_104 (fun u hu => ?_)
                  show V x cX11_more RX11 10 (rmU 5 125 0 0) [(pi, co 4 (pO fa (pMf f one (oneM f other)))), (fa, cn 0 6 fa2_4)] 107 [(0, ar mo), (3, ai tries), (4, ai part), (7, al mi), (9, ai j)] [al (10 ^ tries.toNat), al ((10 ^ tries.toNat) - mi)] 0 0
                  refine v_iload (pc := 107) 2 rfl dX11_more_107 ?_
                  refine v_callS (pc := 109) [] [0, 1] [(pi, co 4 (pO fa (pMf f one (oneM f other)))), (fa, cn 0 6 fa2_4)] (As := [al ((10 ^ tries.toNat) - mi), al (10 ^ tries.toNat), ai part]) (rest := []) (c_X11_lowest ((10 ^ tries.toNat) - mi) (10 ^ tries.toNat) part (by omega) (by omega) (by omega)) wl_X11_176 ws_X11_lowest wk_X11_lowest wz_X11 md_X11_lowest rfl (Nat.le_of_ble_eq_true rfl) ⟨Nat.le_of_ble_eq_true rfl, Nat.le_of_ble_eq_true rfl, Nat.le_of_ble_eq_true rfl, Nat.le_of_ble_eq_true rfl⟩ rfl rfl rfl rfl (by decide) ro_nil dX11_more_109 (fun u hu => ?_)
                  show V x cX11_more RX11 10 (rmU 5 125 0 0) [(pi, co 4 (pO fa (pMf f one (oneM f other)))), (fa, cn 0 6 fa2_4)] 112 [(0, ar mo), (3, ai tries), (4, ai part), (7, al mi), (9, ai j)] [al (kFr ((10 ^ tries.toNat) - mi) (10 ^ tries.toNat) part)] 0 0
                  exact hret ((pMf f one (oneM f other)), fa2_4) _ _ _ _ _ _ trivial (congrArg (fun z => some (al z)) (by rw [hmi]; unfold qMore; rw [if_neg (by omega)])) rfl (Nat.le_of_ble_eq_true rfl) (Nat.le_of_ble_eq_true rfl) dX11_more_112
                · skip
                  refine v_lload (pc := 74) 3 rfl dX11_more_74 ?_
                  refine v_bipush (pc := 76) dX11_more_76 (by decide) ?_
                  refine v_aload_n (pc := 78) 0 rfl dX11_more_78 ?_
                  refine v_get (pc := 79) (v := ar pi) 2 (Or.inl r0) fl_11_24_11 rfl dX11_more_79 ?_
                  refine v_callV (pc := 82) [] [0, 1] [(pi, co 4 (pO fa (pMf f one (oneM f other)))), (fa, cn 0 6 fa2_4)] (As := []) (rest := [ai 10, al mi]) (c_F_bestOdds pi fa f one (oneM f other) (by assumption) (by first | omega | assumption) (by first | omega | assumption)) (c := 4) rfl (Or.inr ⟨0, rfl⟩) wl_X11_184 wi_X4_bestOdds wv_X4_X4_bestOdds_X4_bestOdds wk_X4_bestOdds wz_X4 md_X4_bestOdds rfl (Nat.le_of_ble_eq_true rfl) ⟨Nat.le_of_ble_eq_true rfl, Nat.le_of_ble_eq_true rfl, Nat.le_of_ble_eq_true rfl, Nat.le_of_ble_eq_true rfl⟩ rfl rfl rfl rfl (by decide) (ro_cons (Or.inr ⟨0, rfl, by decide⟩) ro_nil) dX11_more_82 (fun u hu => ?_)
                  show V x cX11_more RX11 10 (rmU 5 125 0 0) [(pi, co 4 (pO fa (pMf f one (oneM f other)))), (fa, cn 0 6 fa2_4)] 85 [(0, ar mo), (3, ai tries), (4, ai part), (7, al mi), (9, ai j)] [ai (fBest f one (oneM f other)), ai 10, al mi] 0 0
                  refine v_isub (pc := 85) dX11_more_85 ?_
                  refine v_i2l (pc := 86) (by unfold iB; omega) dX11_more_86 ?_
                  refine v_lmul (pc := 87) dX11_more_87 ?_
                  refine v_lstore (pc := 88) (L2 := [(7, al (mi * (10 - (fBest f one (oneM f other))))), (0, ar mo), (3, ai tries), (4, ai part), (9, ai j)]) rfl (by decide) dX11_more_88 ?_
                  refine v_iinc (pc := 90) 4 (L2 := [(9, ai (j + 1)), (7, al (mi * (10 - (fBest f one (oneM f other))))), (0, ar mo), (3, ai tries), (4, ai part)]) rfl rfl (by decide) dX11_more_90 ?_
                  refine v_goto (pc := 93) 68 dX11_more_93 (by decide) ?_
                  refine v_sub (L2 := [(0, ar mo), (3, ai tries), (4, ai part), (7, al (mi * (10 - (fBest f one (oneM f other))))), (9, ai (j + 1))]) [2, 3, 4, 1, 0] rfl ?_
                  exact ih _ (by omega) (j + 1) (mi * (10 - (fBest f one (oneM f other)))) rfl (by omega) (by rw [hmi, show (j + 1).toNat = j.toNat + 1 by omega, Int.pow_succ])
            refine v_sub (L2 := [(0, ar mo), (3, ai tries), (4, ai part), (7, al 1), (9, ai 0)]) [4, 7, 8, 1, 0] rfl ?_
            exact lp68 _ 0 1 rfl (by omega) (by rw [show (0 : Int).toNat = 0 from rfl, Int.pow_zero])
          · skip
            refine v_ldc2 (pc := 47) (z := (-9223372036854775808)) (bw_mem 727 (by decide +kernel) rfl) dX11_more_47 ?_
            exact hret (m, fa0) _ _ _ _ _ _ trivial (congrArg (fun z => some (al z)) (by unfold qMore; (repeat' split) <;> first | rfl | (exfalso; omega) | omega)) rfl (Nat.le_of_ble_eq_true rfl) (Nat.le_of_ble_eq_true rfl) dX11_more_50
    · skip
      refine v_callV (pc := 9) [] [0, 1] [(pi, co 4 (pO fa m)), (fa, cn 0 6 fa0)] (As := [ai other]) (rest := []) (c_X11_find_n mo kw pi ta ms pt po hi nw pls ins tap e3 e4 e5 e6 e7 e8 bar pv f other (by assumption) (by exact hpq) (by first | omega | assumption)) (c := 11) rfl (Or.inl r0) wl_X11_99 wi_X11_find wv_X11_X11_find_X11_find wk_X11_find wz_X11 md_X11_find rfl (Nat.le_of_ble_eq_true rfl) ⟨Nat.le_of_ble_eq_true rfl, Nat.le_of_ble_eq_true rfl, Nat.le_of_ble_eq_true rfl, Nat.le_of_ble_eq_true rfl⟩ rfl rfl rfl rfl (by decide) (ro_cons (Or.inl r0) (ro_cons (Or.inl r1) (ro_cons (Or.inl r2) ro_nil))) dX11_more_9 (fun u hu => ?_)
      show V x cX11_more RX11 10 (rmU 5 125 0 0) [(pi, co 4 (pO fa m)), (fa, cn 0 6 fa0)] 12 [(5, ar (pl one)), (0, ar mo), (1, ai one), (2, ai other), (3, ai tries), (4, ai part)] [an] 0 0
      refine v_astore (pc := 12) (L2 := [(6, an), (5, ar (pl one)), (0, ar mo), (1, ai one), (2, ai other), (3, ai tries), (4, ai part)]) rfl (by decide) dX11_more_12 ?_
      refine v_aload (pc := 14) 1 rfl dX11_more_14 ?_
      refine v_ifnull_r (pc := 16) dX11_more_16 ?_
      refine v_aload (pc := 19) 0 rfl dX11_more_19 ?_
      refine v_ifnull_n (pc := 21) 47 dX11_more_21 (by decide) ?_
      refine v_ldc2 (pc := 47) (z := (-9223372036854775808)) (bw_mem 727 (by decide +kernel) rfl) dX11_more_47 ?_
      exact hret (m, fa0) _ _ _ _ _ _ trivial (congrArg (fun z => some (al z)) (by unfold qMore; (repeat' split) <;> first | rfl | (exfalso; omega) | omega)) rfl (Nat.le_of_ble_eq_true rfl) (Nat.le_of_ble_eq_true rfl) dX11_more_50
  · skip
    refine v_callV (pc := 2) [] [0, 1] [(pi, co 4 (pO fa m)), (fa, cn 0 6 fa0)] (As := [ai one]) (rest := []) (c_X11_find_n mo kw pi ta ms pt po hi nw pls ins tap e3 e4 e5 e6 e7 e8 bar pv f one (by assumption) (by exact hp) (by first | omega | assumption)) (c := 11) rfl (Or.inl r0) wl_X11_99 wi_X11_find wv_X11_X11_find_X11_find wk_X11_find wz_X11 md_X11_find rfl (Nat.le_of_ble_eq_true rfl) ⟨Nat.le_of_ble_eq_true rfl, Nat.le_of_ble_eq_true rfl, Nat.le_of_ble_eq_true rfl, Nat.le_of_ble_eq_true rfl⟩ rfl rfl rfl rfl (by decide) (ro_cons (Or.inl r0) (ro_cons (Or.inl r1) (ro_cons (Or.inl r2) ro_nil))) dX11_more_2 (fun u hu => ?_)
    show V x cX11_more RX11 10 (rmU 5 125 0 0) [(pi, co 4 (pO fa m)), (fa, cn 0 6 fa0)] 5 [(0, ar mo), (1, ai one), (2, ai other), (3, ai tries), (4, ai part)] [an] 0 0
    refine v_astore (pc := 5) (L2 := [(5, an), (0, ar mo), (1, ai one), (2, ai other), (3, ai tries), (4, ai part)]) rfl (by decide) dX11_more_5 ?_
    refine v_aload_n (pc := 7) 1 rfl dX11_more_7 ?_
    refine v_iload_n (pc := 8) 3 rfl dX11_more_8 ?_
    rcases Classical.em (0 ≤ other ∧ other ≤ f 0 - 1) with hpq | hpq
    · skip
      have hplb := hpv other hpq.1 hpq.2
      have rPb := hra _ (zpA_p (ta := ta) (pl := pl) (tu := tu) hpq)
      have rQb := hra _ (zpA_t (ta := ta) (pl := pl) (tu := tu) hpq)
      have hp6b : 0 ≤ other ∧ other < 6 := by omega
      obtain ⟨hppb, hf1b, hf2b, hf3b, hf4b, hf5b, hf6b, hf7b, hf8b⟩ := hSp other hp6b.1 hp6b.2
      refine v_callV (pc := 9) [] [0, 1] [(pi, co 4 (pO fa m)), (fa, cn 0 6 fa0)] (As := [ai other]) (rest := []) (c_X11_find_y mo kw pi ta ms pt po hi nw pls ins tap e3 e4 e5 e6 e7 e8 bar pv (pl other) f other (by assumption) (by exact hplb) (by exact hpq)) (c := 11) rfl (Or.inl r0) wl_X11_99 wi_X11_find wv_X11_X11_find_X11_find wk_X11_find wz_X11 md_X11_find rfl (Nat.le_of_ble_eq_true rfl) ⟨Nat.le_of_ble_eq_true rfl, Nat.le_of_ble_eq_true rfl, Nat.le_of_ble_eq_true rfl, Nat.le_of_ble_eq_true rfl⟩ rfl rfl rfl rfl (by decide) (ro_cons (Or.inl r0) (ro_cons (Or.inl r1) (ro_cons (Or.inl r2) ro_nil))) dX11_more_9 (fun u hu => ?_)
      show V x cX11_more RX11 10 (rmU 5 125 0 0) [(pi, co 4 (pO fa m)), (fa, cn 0 6 fa0)] 12 [(5, an), (0, ar mo), (1, ai one), (2, ai other), (3, ai tries), (4, ai part)] [ar (pl other)] 0 0
      refine v_astore (pc := 12) (L2 := [(6, ar (pl other)), (5, an), (0, ar mo), (1, ai one), (2, ai other), (3, ai tries), (4, ai part)]) rfl (by decide) dX11_more_12 ?_
      refine v_aload (pc := 14) 1 rfl dX11_more_14 ?_
      refine v_ifnull_n (pc := 16) 47 dX11_more_16 (by decide) ?_
      refine v_ldc2 (pc := 47) (z := (-9223372036854775808)) (bw_mem 727 (by decide +kernel) rfl) dX11_more_47 ?_
      exact hret (m, fa0) _ _ _ _ _ _ trivial (congrArg (fun z => some (al z)) (by unfold qMore; (repeat' split) <;> first | rfl | (exfalso; omega) | omega)) rfl (Nat.le_of_ble_eq_true rfl) (Nat.le_of_ble_eq_true rfl) dX11_more_50
    · skip
      refine v_callV (pc := 9) [] [0, 1] [(pi, co 4 (pO fa m)), (fa, cn 0 6 fa0)] (As := [ai other]) (rest := []) (c_X11_find_n mo kw pi ta ms pt po hi nw pls ins tap e3 e4 e5 e6 e7 e8 bar pv f other (by assumption) (by exact hpq) (by first | omega | assumption)) (c := 11) rfl (Or.inl r0) wl_X11_99 wi_X11_find wv_X11_X11_find_X11_find wk_X11_find wz_X11 md_X11_find rfl (Nat.le_of_ble_eq_true rfl) ⟨Nat.le_of_ble_eq_true rfl, Nat.le_of_ble_eq_true rfl, Nat.le_of_ble_eq_true rfl, Nat.le_of_ble_eq_true rfl⟩ rfl rfl rfl rfl (by decide) (ro_cons (Or.inl r0) (ro_cons (Or.inl r1) (ro_cons (Or.inl r2) ro_nil))) dX11_more_9 (fun u hu => ?_)
      show V x cX11_more RX11 10 (rmU 5 125 0 0) [(pi, co 4 (pO fa m)), (fa, cn 0 6 fa0)] 12 [(5, an), (0, ar mo), (1, ai one), (2, ai other), (3, ai tries), (4, ai part)] [an] 0 0
      refine v_astore (pc := 12) (L2 := [(6, an), (5, an), (0, ar mo), (1, ai one), (2, ai other), (3, ai tries), (4, ai part)]) rfl (by decide) dX11_more_12 ?_
      refine v_aload (pc := 14) 1 rfl dX11_more_14 ?_
      refine v_ifnull_n (pc := 16) 47 dX11_more_16 (by decide) ?_
      refine v_ldc2 (pc := 47) (z := (-9223372036854775808)) (bw_mem 727 (by decide +kernel) rfl) dX11_more_47 ?_
      exact hret (m, fa0) _ _ _ _ _ _ trivial (congrArg (fun z => some (al z)) (by unfold qMore; (repeat' split) <;> first | rfl | (exfalso; omega) | omega)) rfl (Nat.le_of_ble_eq_true rfl) (Nat.le_of_ble_eq_true rfl) dX11_more_50
set_option maxHeartbeats 4000000 in
set_option maxRecDepth 100000 in
theorem c_X11_wager {gS : sG} (mo : Nat) (kw : Nat) (pi : Nat) (ta : Nat) (ms : Nat) (pt : Nat) (po : Nat) (hi : Int) (nw : Nat) (pls : Nat) (ins : Nat) (tap : Nat) (e3 : Nat) (e4 : Nat) (e5 : Nat) (e6 : Nat) (e7 : Nat) (e8 : Nat) (bar : Nat) (fa : Nat) (m : Nat → Int) (fa0 : Int → Int) (iv : Int → Option Nat) (hq : Nat) (ns : Int) (us : Int) (sla : Nat) (ena : Nat) (cda : Nat) (cd : Int → Int) (sl : Int → Int) (en : Int → Int) (pv : Int → Option Nat) (pl : Int → Nat) (tu : Int → Nat) (f : Int → Int) (one : Int) (other : Int) (stake : Int) (hS : SOK f) (hI : inC f iv bar hq ns us sl en cd) (hpv : ∀ i : Int, 0 ≤ i → i ≤ f 0 - 1 → pv i = some (pl i)) (hb_one : -2147483648 ≤ one ∧ one < 2147483648) (hb_other : -2147483648 ≤ other ∧ other < 2147483648) (hb_stake : -2147483648 ≤ stake ∧ stake < 2147483648) : Ct gS (S := (Nat → Int) × (Int → Int)) yX11_wager cX11_wager 8 (some .int) 5 125 0 0 [ar mo, ai one, ai other, ai stake] [(pi, co 4 (pO fa m)), (fa, cn 0 6 fa0)] (fun q => q ∈ ([(mo, co 11 [ar nw, ar kw, ar pi, ar ta, ar ms, ar pt, ar po, ai hi]), (nw, co 10 [ar pls, ar ins, ar tap, ar e3, ar e4, ar e5, ar e6, ar e7, ar e8, ai (f 0), ai (f 1), ai (f 4), ai (f 2), ai (f 3), ai (f 6), ar bar]), (pls, cq 3 6 pv), (ins, cq 2 5 iv), (hq, co 3 [ai (kWide f), ai (kPay f), ai ns, ai us, ar sla, ar ena, ar cda]), (cda, cn 0 100 cd), (sla, cn 0 10 sl), (ena, cn 0 10 en)] : aW) ++ zpA ta f pl tu) (fun u => True) (fun u => some (ai (qWager f one other stake))) (fun u => [(pi, co 4 (pO fa u.1)), (fa, cn 0 6 u.2)]) := by
  refine ct_I RX11 [(0, ar mo), (1, ai one), (2, ai other), (3, ai stake)] (by decide) rfl (Nat.le_of_ble_eq_true rfl) rfl (fun x hgS hro hret => ?_)
  subst hgS
  have r0 := hro _ (List.mem_append_left _ (mem_at 0 rfl))
  have r1 := hro _ (List.mem_append_left _ (mem_at 1 rfl))
  have r2 := hro _ (List.mem_append_left _ (mem_at 2 rfl))
  have r3 := hro _ (List.mem_append_left _ (mem_at 3 rfl))
  have r4 := hro _ (List.mem_append_left _ (mem_at 4 rfl))
  have r5 := hro _ (List.mem_append_left _ (mem_at 5 rfl))
  have r6 := hro _ (List.mem_append_left _ (mem_at 6 rfl))
  have r7 := hro _ (List.mem_append_left _ (mem_at 7 rfl))
  have hra : ∀ q, q ∈ zpA ta f pl tu → Ro x q := fun q h => hro _ (List.mem_append_right _ h)
  obtain ⟨⟨hg0, hg1, hg2, hg3, hg4, hg5, hg6, hg7⟩, hSp, hSh, hSs, hSb, hSt, hSw⟩ := id hS
  show V x cX11_wager RX11 8 (rmU 5 125 0 0) [(pi, co 4 (pO fa m)), (fa, cn 0 6 fa0)] 0 [(0, ar mo), (1, ai one), (2, ai other), (3, ai stake)] [] 0 0
  refine v_aload_n (pc := 0) 0 rfl dX11_wager_0 ?_
  refine v_iload_n (pc := 1) 1 rfl dX11_wager_1 ?_
  rcases Classical.em (0 ≤ one ∧ one ≤ f 0 - 1) with hp | hp
  · skip
    have hpl := hpv one hp.1 hp.2
    have rP := hra _ (zpA_p (ta := ta) (pl := pl) (tu := tu) hp)
    have rQ := hra _ (zpA_t (ta := ta) (pl := pl) (tu := tu) hp)
    have hp6 : 0 ≤ one ∧ one < 6 := by omega
    obtain ⟨hpp, hf1, hf2, hf3, hf4, hf5, hf6, hf7, hf8⟩ := hSp one hp6.1 hp6.2
    refine v_callV (pc := 2) [] [0, 1] [(pi, co 4 (pO fa m)), (fa, cn 0 6 fa0)] (As := [ai one]) (rest := []) (c_X11_find_y mo kw pi ta ms pt po hi nw pls ins tap e3 e4 e5 e6 e7 e8 bar pv (pl one) f one (by assumption) (by exact hpl) (by exact hp)) (c := 11) rfl (Or.inl r0) wl_X11_99 wi_X11_find wv_X11_X11_find_X11_find wk_X11_find wz_X11 md_X11_find rfl (Nat.le_of_ble_eq_true rfl) ⟨Nat.le_of_ble_eq_true rfl, Nat.le_of_ble_eq_true rfl, Nat.le_of_ble_eq_true rfl, Nat.le_of_ble_eq_true rfl⟩ rfl rfl rfl rfl (by decide) (ro_cons (Or.inl r0) (ro_cons (Or.inl r1) (ro_cons (Or.inl r2) ro_nil))) dX11_wager_2 (fun u hu => ?_)
    show V x cX11_wager RX11 8 (rmU 5 125 0 0) [(pi, co 4 (pO fa m)), (fa, cn 0 6 fa0)] 5 [(0, ar mo), (1, ai one), (2, ai other), (3, ai stake)] [ar (pl one)] 0 0
    refine v_astore (pc := 5) (L2 := [(4, ar (pl one)), (0, ar mo), (1, ai one), (2, ai other), (3, ai stake)]) rfl (by decide) dX11_wager_5 ?_
    refine v_aload_n (pc := 7) 1 rfl dX11_wager_7 ?_
    refine v_iload_n (pc := 8) 3 rfl dX11_wager_8 ?_
    rcases Classical.em (0 ≤ other ∧ other ≤ f 0 - 1) with hpq | hpq
    · skip
      have hplb := hpv other hpq.1 hpq.2
      have rPb := hra _ (zpA_p (ta := ta) (pl := pl) (tu := tu) hpq)
      have rQb := hra _ (zpA_t (ta := ta) (pl := pl) (tu := tu) hpq)
      have hp6b : 0 ≤ other ∧ other < 6 := by omega
      obtain ⟨hppb, hf1b, hf2b, hf3b, hf4b, hf5b, hf6b, hf7b, hf8b⟩ := hSp other hp6b.1 hp6b.2
      refine v_callV (pc := 9) [] [0, 1] [(pi, co 4 (pO fa m)), (fa, cn 0 6 fa0)] (As := [ai other]) (rest := []) (c_X11_find_y mo kw pi ta ms pt po hi nw pls ins tap e3 e4 e5 e6 e7 e8 bar pv (pl other) f other (by assumption) (by exact hplb) (by exact hpq)) (c := 11) rfl (Or.inl r0) wl_X11_99 wi_X11_find wv_X11_X11_find_X11_find wk_X11_find wz_X11 md_X11_find rfl (Nat.le_of_ble_eq_true rfl) ⟨Nat.le_of_ble_eq_true rfl, Nat.le_of_ble_eq_true rfl, Nat.le_of_ble_eq_true rfl, Nat.le_of_ble_eq_true rfl⟩ rfl rfl rfl rfl (by decide) (ro_cons (Or.inl r0) (ro_cons (Or.inl r1) (ro_cons (Or.inl r2) ro_nil))) dX11_wager_9 (fun u hu => ?_)
      show V x cX11_wager RX11 8 (rmU 5 125 0 0) [(pi, co 4 (pO fa m)), (fa, cn 0 6 fa0)] 12 [(4, ar (pl one)), (0, ar mo), (1, ai one), (2, ai other), (3, ai stake)] [ar (pl other)] 0 0
      refine v_astore (pc := 12) (L2 := [(5, ar (pl other)), (4, ar (pl one)), (0, ar mo), (1, ai one), (2, ai other), (3, ai stake)]) rfl (by decide) dX11_wager_12 ?_
      refine v_aload (pc := 14) 1 rfl dX11_wager_14 ?_
      refine v_ifnull_r (pc := 16) dX11_wager_16 ?_
      refine v_aload (pc := 19) 0 rfl dX11_wager_19 ?_
      refine v_ifnonnull_r (pc := 21) 26 dX11_wager_21 (by decide) ?_
      refine v_iload_n (pc := 26) 3 rfl dX11_wager_26 ?_
      refine v_iload_n (pc := 27) 4 rfl dX11_wager_27 ?_
      refine v_icmp_eq (pc := 28) 42 dX11_wager_28 (by decide) (by unfold iB; omega) (by unfold iB; omega) (fun c_1 => ?_) (fun c_1 => ?_)
      · skip
        refine v_bipush (pc := 42) dX11_wager_42 (by decide) ?_
        exact hret (m, fa0) _ _ _ _ _ _ trivial (congrArg (fun z => some (ai z)) (by unfold qWager; (repeat' split) <;> first | rfl | (exfalso; omega) | omega)) rfl (Nat.le_of_ble_eq_true rfl) (Nat.le_of_ble_eq_true rfl) dX11_wager_44
      · skip
        refine v_iload_n (pc := 31) 5 rfl dX11_wager_31 ?_
        refine v_iconst (pc := 32) dX11_wager_32 ?_
        refine v_sipush (pc := 33) dX11_wager_33 (by decide) ?_
        refine v_callS (pc := 36) [] [0, 1] [(pi, co 4 (pO fa m)), (fa, cn 0 6 fa0)] (As := [ai stake, ai 0, ai 999]) (rest := []) (c_X11_isOut stake 0 999 (by first | omega | assumption) (by first | omega | assumption) (by first | omega | assumption)) wl_X11_41 ws_X11_isOut wk_X11_isOut wz_X11 md_X11_isOut rfl (Nat.le_of_ble_eq_true rfl) ⟨Nat.le_of_ble_eq_true rfl, Nat.le_of_ble_eq_true rfl, Nat.le_of_ble_eq_true rfl, Nat.le_of_ble_eq_true rfl⟩ rfl rfl rfl rfl (by decide) ro_nil dX11_wager_36 (fun u hu => ?_)
        show V x cX11_wager RX11 8 (rmU 5 125 0 0) [(pi, co 4 (pO fa m)), (fa, cn 0 6 fa0)] 39 [(5, ar (pl other)), (4, ar (pl one)), (0, ar mo), (1, ai one), (2, ai other), (3, ai stake)] [ai (if stake < 0 ∨ 999 < stake then 1 else 0)] 0 0
        refine v_ifb_eq (pc := 39) 45 dX11_wager_39 (by decide) (fun c_2 => ?_) (fun c_2 => ?_)
        · skip
          refine v_aload_n (pc := 45) 2 rfl dX11_wager_45 ?_
          refine v_aload (pc := 46) 1 rfl dX11_wager_46 ?_
          refine v_aload (pc := 48) 0 rfl dX11_wager_48 ?_
          refine v_callS (pc := 50) [] [0, 1] [(pi, co 4 (pO fa m)), (fa, cn 0 6 fa0)] (As := [ar (pl other)]) (rest := [ar (pl one), ar mo]) (c_X11_oneMoreThan (pl other) (tu other) ta f other (by assumption) (by first | omega | assumption)) wl_X11_219 ws_X11_oneMoreThan wk_X11_oneMoreThan wz_X11 md_X11_oneMoreThan rfl (Nat.le_of_ble_eq_true rfl) ⟨Nat.le_of_ble_eq_true rfl, Nat.le_of_ble_eq_true rfl, Nat.le_of_ble_eq_true rfl, Nat.le_of_ble_eq_true rfl⟩ rfl rfl rfl rfl (by decide) (ro_cons (Or.inl rPb) ro_nil) dX11_wager_50 (fun u hu => ?_)
          show V x cX11_wager RX11 8 (rmU 5 125 0 0) [(pi, co 4 (pO fa m)), (fa, cn 0 6 fa0)] 53 [(5, ar (pl other)), (4, ar (pl one)), (0, ar mo), (1, ai one), (2, ai other), (3, ai stake)] [ai (oneM f other), ar (pl one), ar mo] 0 0
          have hom := oneM_b (hSp other hp6b.1 hp6b.2)
          refine v_callV (pc := 53) [0, 1] [] [] (As := [ar (pl one), ai (oneM f other)]) (rest := []) (c_X11_lay mo kw pi ta ms pt po hi nw pls ins tap e3 e4 e5 e6 e7 e8 bar fa m fa0 iv hq ns us sla ena cda cd sl en (pl one) (tu one) f one (oneM f other) (by assumption) (by assumption) (by first | omega | assumption) (by first | omega | assumption)) (c := 11) rfl (Or.inl r0) wl_X11_142 wi_X11_lay wv_X11_X11_lay_X11_lay wk_X11_lay wz_X11 md_X11_lay rfl (Nat.le_of_ble_eq_true rfl) ⟨Nat.le_of_ble_eq_true rfl, Nat.le_of_ble_eq_true rfl, Nat.le_of_ble_eq_true rfl, Nat.le_of_ble_eq_true rfl⟩ rfl rfl rfl rfl (by decide) (ro_cons (Or.inl r0) (ro_cons (Or.inl r1) (ro_cons (Or.inl r3) (ro_cons (Or.inl r4) (ro_cons (Or.inl r5) (ro_cons (Or.inl r6) (ro_cons (Or.inl r7) (ro_cons (Or.inl rP) (ro_cons (Or.inl rQ) ro_nil))))))))) dX11_wager_53 (fun u hu => ?_)
          obtain ⟨fa2_3, rfl⟩ : ∃ z, z = u := ⟨_, rfl⟩
          show V x cX11_wager RX11 8 (rmU 5 125 0 0) [(pi, co 4 (pO fa (pMf f one (oneM f other)))), (fa, cn 0 6 fa2_3)] 56 [(5, ar (pl other)), (4, ar (pl one)), (0, ar mo), (1, ai one), (2, ai other), (3, ai stake)] [] 0 0
          refine v_aload_n (pc := 56) 2 rfl dX11_wager_56 ?_
          refine v_get (pc := 57) (v := ar pi) 2 (Or.inl r0) fl_11_24_11 rfl dX11_wager_57 ?_
          refine v_callV (pc := 60) [] [0, 1] [(pi, co 4 (pO fa (pMf f one (oneM f other)))), (fa, cn 0 6 fa2_3)] (As := []) (rest := []) (c_F_bestOdds pi fa f one (oneM f other) (by assumption) (by first | omega | assumption) (by first | omega | assumption)) (c := 4) rfl (Or.inr ⟨0, rfl⟩) wl_X11_184 wi_X4_bestOdds wv_X4_X4_bestOdds_X4_bestOdds wk_X4_bestOdds wz_X4 md_X4_bestOdds rfl (Nat.le_of_ble_eq_true rfl) ⟨Nat.le_of_ble_eq_true rfl, Nat.le_of_ble_eq_true rfl, Nat.le_of_ble_eq_true rfl, Nat.le_of_ble_eq_true rfl⟩ rfl rfl rfl rfl (by decide) (ro_cons (Or.inr ⟨0, rfl, by decide⟩) ro_nil) dX11_wager_60 (fun u hu => ?_)
          show V x cX11_wager RX11 8 (rmU 5 125 0 0) [(pi, co 4 (pO fa (pMf f one (oneM f other)))), (fa, cn 0 6 fa2_3)] 63 [(5, ar (pl other)), (4, ar (pl one)), (0, ar mo), (1, ai one), (2, ai other), (3, ai stake)] [ai (fBest f one (oneM f other))] 0 0
          have hbb := fBest_b (f := f) (p := one) (n := oneM f other)
          have hm1 := mul_bnd (a := stake) (b := fBest f one (oneM f other)) (A := 999) (B := 10) (by omega) (by omega)
          have hm2 : stake * (10 - fBest f one (oneM f other)) = stake * 10 - stake * fBest f one (oneM f other) := Int.mul_sub _ _ _
          have hm3 : 0 < stake * fBest f one (oneM f other) - (stake * 10 - stake * fBest f one (oneM f other)) ↔ (0 < stake ∧ 5 < fBest f one (oneM f other)) := by rcases (show fBest f one (oneM f other) = 0 ∨ fBest f one (oneM f other) = 1 ∨ fBest f one (oneM f other) = 2 ∨ fBest f one (oneM f other) = 3 ∨ fBest f one (oneM f other) = 4 ∨ fBest f one (oneM f other) = 5 ∨ fBest f one (oneM f other) = 6 ∨ fBest f one (oneM f other) = 7 ∨ fBest f one (oneM f other) = 8 ∨ fBest f one (oneM f other) = 9 ∨ fBest f one (oneM f other) = 10 by omega) with e | e | e | e | e | e | e | e | e | e | e <;> rw [e] <;> omega
          refine v_istore (pc := 63) (L2 := [(6, ai (fBest f one (oneM f other))), (5, ar (pl other)), (4, ar (pl one)), (0, ar mo), (1, ai one), (2, ai other), (3, ai stake)]) rfl (by decide) dX11_wager_63 ?_
          refine v_iload_n (pc := 65) 6 rfl dX11_wager_65 ?_
          refine v_iload (pc := 66) 0 rfl dX11_wager_66 ?_
          refine v_imul (pc := 68) dX11_wager_68 ?_
          refine v_iload_n (pc := 69) 6 rfl dX11_wager_69 ?_
          refine v_bipush (pc := 70) dX11_wager_70 (by decide) ?_
          refine v_iload (pc := 72) 0 rfl dX11_wager_72 ?_
          refine v_isub (pc := 74) dX11_wager_74 ?_
          refine v_imul (pc := 75) dX11_wager_75 ?_
          refine v_isub (pc := 76) dX11_wager_76 ?_
          refine v_istore (pc := 77) (L2 := [(7, ai ((stake * (fBest f one (oneM f other))) - (stake * (10 - (fBest f one (oneM f other)))))), (6, ai (fBest f one (oneM f other))), (5, ar (pl other)), (4, ar (pl one)), (0, ar mo), (1, ai one), (2, ai other), (3, ai stake)]) rfl (by decide) dX11_wager_77 ?_
          refine v_aload (pc := 79) 3 rfl dX11_wager_79 ?_
          refine v_get (pc := 81) (v := ai (f (43 + one))) 8 (Or.inl rP) (flP_11_92 (by omega)) rfl dX11_wager_81 ?_
          refine v_iload_n (pc := 84) 7 rfl dX11_wager_84 ?_
          refine v_icmp_lt (pc := 85) 97 dX11_wager_85 (by decide) (by unfold iB; omega) (by unfold iB; omega) (fun c_4 => ?_) (fun c_4 => ?_)
          · skip
            refine v_iconst (pc := 97) dX11_wager_97 ?_
            exact hret ((pMf f one (oneM f other)), fa2_3) _ _ _ _ _ _ trivial (congrArg (fun z => some (ai z)) (by unfold qWager; (repeat' split) <;> first | rfl | (exfalso; omega) | omega)) rfl (Nat.le_of_ble_eq_true rfl) (Nat.le_of_ble_eq_true rfl) dX11_wager_98
          · skip
            refine v_iload (pc := 88) 0 rfl dX11_wager_88 ?_
            refine v_if_le (pc := 90) 97 dX11_wager_90 (by decide) (by unfold iB; omega) (fun c_5 => ?_) (fun c_5 => ?_)
            · skip
              refine v_iconst (pc := 97) dX11_wager_97 ?_
              exact hret ((pMf f one (oneM f other)), fa2_3) _ _ _ _ _ _ trivial (congrArg (fun z => some (ai z)) (by unfold qWager; (repeat' split) <;> first | rfl | (exfalso; omega) | omega)) rfl (Nat.le_of_ble_eq_true rfl) (Nat.le_of_ble_eq_true rfl) dX11_wager_98
            · skip
              refine v_iconst (pc := 93) dX11_wager_93 ?_
              refine v_goto (pc := 94) 98 dX11_wager_94 (by decide) ?_
              exact hret ((pMf f one (oneM f other)), fa2_3) _ _ _ _ _ _ trivial (congrArg (fun z => some (ai z)) (by unfold qWager; (repeat' split) <;> first | rfl | (exfalso; omega) | omega)) rfl (Nat.le_of_ble_eq_true rfl) (Nat.le_of_ble_eq_true rfl) dX11_wager_98
        · skip
          refine v_bipush (pc := 42) dX11_wager_42 (by decide) ?_
          exact hret (m, fa0) _ _ _ _ _ _ trivial (congrArg (fun z => some (ai z)) (by unfold qWager; (repeat' split) <;> first | rfl | (exfalso; omega) | omega)) rfl (Nat.le_of_ble_eq_true rfl) (Nat.le_of_ble_eq_true rfl) dX11_wager_44
    · skip
      refine v_callV (pc := 9) [] [0, 1] [(pi, co 4 (pO fa m)), (fa, cn 0 6 fa0)] (As := [ai other]) (rest := []) (c_X11_find_n mo kw pi ta ms pt po hi nw pls ins tap e3 e4 e5 e6 e7 e8 bar pv f other (by assumption) (by exact hpq) (by first | omega | assumption)) (c := 11) rfl (Or.inl r0) wl_X11_99 wi_X11_find wv_X11_X11_find_X11_find wk_X11_find wz_X11 md_X11_find rfl (Nat.le_of_ble_eq_true rfl) ⟨Nat.le_of_ble_eq_true rfl, Nat.le_of_ble_eq_true rfl, Nat.le_of_ble_eq_true rfl, Nat.le_of_ble_eq_true rfl⟩ rfl rfl rfl rfl (by decide) (ro_cons (Or.inl r0) (ro_cons (Or.inl r1) (ro_cons (Or.inl r2) ro_nil))) dX11_wager_9 (fun u hu => ?_)
      show V x cX11_wager RX11 8 (rmU 5 125 0 0) [(pi, co 4 (pO fa m)), (fa, cn 0 6 fa0)] 12 [(4, ar (pl one)), (0, ar mo), (1, ai one), (2, ai other), (3, ai stake)] [an] 0 0
      refine v_astore (pc := 12) (L2 := [(5, an), (4, ar (pl one)), (0, ar mo), (1, ai one), (2, ai other), (3, ai stake)]) rfl (by decide) dX11_wager_12 ?_
      refine v_aload (pc := 14) 1 rfl dX11_wager_14 ?_
      refine v_ifnull_r (pc := 16) dX11_wager_16 ?_
      refine v_aload (pc := 19) 0 rfl dX11_wager_19 ?_
      refine v_ifnonnull_n (pc := 21) dX11_wager_21 ?_
      refine v_iconst (pc := 24) dX11_wager_24 ?_
      exact hret (m, fa0) _ _ _ _ _ _ trivial (congrArg (fun z => some (ai z)) (by unfold qWager; (repeat' split) <;> first | rfl | (exfalso; omega) | omega)) rfl (Nat.le_of_ble_eq_true rfl) (Nat.le_of_ble_eq_true rfl) dX11_wager_25
  · skip
    refine v_callV (pc := 2) [] [0, 1] [(pi, co 4 (pO fa m)), (fa, cn 0 6 fa0)] (As := [ai one]) (rest := []) (c_X11_find_n mo kw pi ta ms pt po hi nw pls ins tap e3 e4 e5 e6 e7 e8 bar pv f one (by assumption) (by exact hp) (by first | omega | assumption)) (c := 11) rfl (Or.inl r0) wl_X11_99 wi_X11_find wv_X11_X11_find_X11_find wk_X11_find wz_X11 md_X11_find rfl (Nat.le_of_ble_eq_true rfl) ⟨Nat.le_of_ble_eq_true rfl, Nat.le_of_ble_eq_true rfl, Nat.le_of_ble_eq_true rfl, Nat.le_of_ble_eq_true rfl⟩ rfl rfl rfl rfl (by decide) (ro_cons (Or.inl r0) (ro_cons (Or.inl r1) (ro_cons (Or.inl r2) ro_nil))) dX11_wager_2 (fun u hu => ?_)
    show V x cX11_wager RX11 8 (rmU 5 125 0 0) [(pi, co 4 (pO fa m)), (fa, cn 0 6 fa0)] 5 [(0, ar mo), (1, ai one), (2, ai other), (3, ai stake)] [an] 0 0
    refine v_astore (pc := 5) (L2 := [(4, an), (0, ar mo), (1, ai one), (2, ai other), (3, ai stake)]) rfl (by decide) dX11_wager_5 ?_
    refine v_aload_n (pc := 7) 1 rfl dX11_wager_7 ?_
    refine v_iload_n (pc := 8) 3 rfl dX11_wager_8 ?_
    rcases Classical.em (0 ≤ other ∧ other ≤ f 0 - 1) with hpq | hpq
    · skip
      have hplb := hpv other hpq.1 hpq.2
      have rPb := hra _ (zpA_p (ta := ta) (pl := pl) (tu := tu) hpq)
      have rQb := hra _ (zpA_t (ta := ta) (pl := pl) (tu := tu) hpq)
      have hp6b : 0 ≤ other ∧ other < 6 := by omega
      obtain ⟨hppb, hf1b, hf2b, hf3b, hf4b, hf5b, hf6b, hf7b, hf8b⟩ := hSp other hp6b.1 hp6b.2
      refine v_callV (pc := 9) [] [0, 1] [(pi, co 4 (pO fa m)), (fa, cn 0 6 fa0)] (As := [ai other]) (rest := []) (c_X11_find_y mo kw pi ta ms pt po hi nw pls ins tap e3 e4 e5 e6 e7 e8 bar pv (pl other) f other (by assumption) (by exact hplb) (by exact hpq)) (c := 11) rfl (Or.inl r0) wl_X11_99 wi_X11_find wv_X11_X11_find_X11_find wk_X11_find wz_X11 md_X11_find rfl (Nat.le_of_ble_eq_true rfl) ⟨Nat.le_of_ble_eq_true rfl, Nat.le_of_ble_eq_true rfl, Nat.le_of_ble_eq_true rfl, Nat.le_of_ble_eq_true rfl⟩ rfl rfl rfl rfl (by decide) (ro_cons (Or.inl r0) (ro_cons (Or.inl r1) (ro_cons (Or.inl r2) ro_nil))) dX11_wager_9 (fun u hu => ?_)
      show V x cX11_wager RX11 8 (rmU 5 125 0 0) [(pi, co 4 (pO fa m)), (fa, cn 0 6 fa0)] 12 [(4, an), (0, ar mo), (1, ai one), (2, ai other), (3, ai stake)] [ar (pl other)] 0 0
      refine v_astore (pc := 12) (L2 := [(5, ar (pl other)), (4, an), (0, ar mo), (1, ai one), (2, ai other), (3, ai stake)]) rfl (by decide) dX11_wager_12 ?_
      refine v_aload (pc := 14) 1 rfl dX11_wager_14 ?_
      refine v_ifnull_n (pc := 16) 24 dX11_wager_16 (by decide) ?_
      refine v_iconst (pc := 24) dX11_wager_24 ?_
      exact hret (m, fa0) _ _ _ _ _ _ trivial (congrArg (fun z => some (ai z)) (by unfold qWager; (repeat' split) <;> first | rfl | (exfalso; omega) | omega)) rfl (Nat.le_of_ble_eq_true rfl) (Nat.le_of_ble_eq_true rfl) dX11_wager_25
    · skip
      refine v_callV (pc := 9) [] [0, 1] [(pi, co 4 (pO fa m)), (fa, cn 0 6 fa0)] (As := [ai other]) (rest := []) (c_X11_find_n mo kw pi ta ms pt po hi nw pls ins tap e3 e4 e5 e6 e7 e8 bar pv f other (by assumption) (by exact hpq) (by first | omega | assumption)) (c := 11) rfl (Or.inl r0) wl_X11_99 wi_X11_find wv_X11_X11_find_X11_find wk_X11_find wz_X11 md_X11_find rfl (Nat.le_of_ble_eq_true rfl) ⟨Nat.le_of_ble_eq_true rfl, Nat.le_of_ble_eq_true rfl, Nat.le_of_ble_eq_true rfl, Nat.le_of_ble_eq_true rfl⟩ rfl rfl rfl rfl (by decide) (ro_cons (Or.inl r0) (ro_cons (Or.inl r1) (ro_cons (Or.inl r2) ro_nil))) dX11_wager_9 (fun u hu => ?_)
      show V x cX11_wager RX11 8 (rmU 5 125 0 0) [(pi, co 4 (pO fa m)), (fa, cn 0 6 fa0)] 12 [(4, an), (0, ar mo), (1, ai one), (2, ai other), (3, ai stake)] [an] 0 0
      refine v_astore (pc := 12) (L2 := [(5, an), (4, an), (0, ar mo), (1, ai one), (2, ai other), (3, ai stake)]) rfl (by decide) dX11_wager_12 ?_
      refine v_aload (pc := 14) 1 rfl dX11_wager_14 ?_
      refine v_ifnull_n (pc := 16) 24 dX11_wager_16 (by decide) ?_
      refine v_iconst (pc := 24) dX11_wager_24 ?_
      exact hret (m, fa0) _ _ _ _ _ _ trivial (congrArg (fun z => some (ai z)) (by unfold qWager; (repeat' split) <;> first | rfl | (exfalso; omega) | omega)) rfl (Nat.le_of_ble_eq_true rfl) (Nat.le_of_ble_eq_true rfl) dX11_wager_25
set_option maxHeartbeats 4000000 in
set_option maxRecDepth 100000 in
theorem c_X11_raised {gS : sG} (mo : Nat) (kw : Nat) (pi : Nat) (ta : Nat) (ms : Nat) (pt : Nat) (po : Nat) (hi : Int) (nw : Nat) (pls : Nat) (ins : Nat) (tap : Nat) (e3 : Nat) (e4 : Nat) (e5 : Nat) (e6 : Nat) (e7 : Nat) (e8 : Nat) (bar : Nat) (fa : Nat) (m : Nat → Int) (fa0 : Int → Int) (iv : Int → Option Nat) (hq : Nat) (ns : Int) (us : Int) (sla : Nat) (ena : Nat) (cda : Nat) (cd : Int → Int) (sl : Int → Int) (en : Int → Int) (q1 : Nat) (t1 : Nat) (q2 : Nat) (t2 : Nat) (f : Int → Int) (a : Int) (b : Int) (n : Int) (tries : Int) (what : Int) (hS : SOK f) (hI : inC f iv bar hq ns us sl en cd) (ha : 0 ≤ a ∧ a < 6) (hb : 0 ≤ b ∧ b < 6) (hn : 1 ≤ n ∧ n ≤ 99) (ht : 1 ≤ tries ∧ tries ≤ 8) (hw : 0 ≤ what ∧ what ≤ 1) : Ct gS (S := (Nat → Int) × (Int → Int)) yX11_raised cX11_raised 14 (some .long) 4 103 0 0 [ar mo, ar q1, ar q2, ai n, ai tries, ai what] [(pi, co 4 (pO fa m)), (fa, cn 0 6 fa0)] (fun q => q ∈ ([(mo, co 11 [ar nw, ar kw, ar pi, ar ta, ar ms, ar pt, ar po, ai hi]), (nw, co 10 [ar pls, ar ins, ar tap, ar e3, ar e4, ar e5, ar e6, ar e7, ar e8, ai (f 0), ai (f 1), ai (f 4), ai (f 2), ai (f 3), ai (f 6), ar bar]), (ins, cq 2 5 iv), (hq, co 3 [ai (kWide f), ai (kPay f), ai ns, ai us, ar sla, ar ena, ar cda]), (cda, cn 0 100 cd), (sla, cn 0 10 sl), (ena, cn 0 10 en), (q1, zpO ta f a t1), tqC ta f a q1 t1, (q2, zpO ta f b t2), tqC ta f b q2 t2] : aW)) (fun u => True) (fun u => some (al (if what = 0 then (rs (rsG f a b n) tries.toNat).1 else (rs (rsG f a b n) tries.toNat).2))) (fun u => [(pi, co 4 (pO fa u.1)), (fa, cn 0 6 u.2)]) := by
  refine ct_L RX11 [(0, ar mo), (1, ar q1), (2, ar q2), (3, ai n), (4, ai tries), (5, ai what)] (by decide) rfl (Nat.le_of_ble_eq_true rfl) rfl (fun x hgS hro hret => ?_)
  subst hgS
  have r0 := hro _ (mem_at 0 rfl)
  have r1 := hro _ (mem_at 1 rfl)
  have r2 := hro _ (mem_at 2 rfl)
  have r3 := hro _ (mem_at 3 rfl)
  have r4 := hro _ (mem_at 4 rfl)
  have r5 := hro _ (mem_at 5 rfl)
  have r6 := hro _ (mem_at 6 rfl)
  have r7 := hro _ (mem_at 7 rfl)
  have r8 := hro _ (mem_at 8 rfl)
  have r9 := hro _ (mem_at 9 rfl)
  have r10 := hro _ (mem_at 10 rfl)
  obtain ⟨⟨hg0, hg1, hg2, hg3, hg4, hg5, hg6, hg7⟩, hSp, hSh, hSs, hSb, hSt, hSw⟩ := id hS
  obtain ⟨hpp, hf1, hf2, hf3, hf4, hf5, hf6, hf7, hf8⟩ := hSp a ha.1 ha.2
  obtain ⟨hppb, hf1b, hf2b, hf3b, hf4b, hf5b, hf6b, hf7b, hf8b⟩ := hSp b hb.1 hb.2
  show V x cX11_raised RX11 14 (rmU 4 103 0 0) [(pi, co 4 (pO fa m)), (fa, cn 0 6 fa0)] 0 [(0, ar mo), (1, ar q1), (2, ar q2), (3, ai n), (4, ai tries), (5, ai what)] [] 0 0
  refine v_lconst1 (pc := 0) dX11_raised_0 ?_
  refine v_lstore (pc := 1) (L2 := [(6, al 1), (0, ar mo), (1, ar q1), (2, ar q2), (3, ai n), (4, ai tries), (5, ai what)]) rfl (by decide) dX11_raised_1 ?_
  refine v_lconst0 (pc := 3) dX11_raised_3 ?_
  refine v_lstore (pc := 4) (L2 := [(8, al 0), (6, al 1), (0, ar mo), (1, ar q1), (2, ar q2), (3, ai n), (4, ai tries), (5, ai what)]) rfl (by decide) dX11_raised_4 ?_
  refine v_iconst (pc := 6) dX11_raised_6 ?_
  refine v_istore (pc := 7) (L2 := [(10, ai 0), (8, al 0), (6, al 1), (0, ar mo), (1, ar q1), (2, ar q2), (3, ai n), (4, ai tries), (5, ai what)]) rfl (by decide) dX11_raised_7 ?_
  have lp9 : ∀ (mm : Nat) (j : Int) (nb : Int) (wn : Int) (m1 : Nat → Int) (fa1 : Int → Int), (tries - j).toNat = mm → (0 ≤ j ∧ j ≤ tries) → (wn = (rs (rsG f a b n) j.toNat).1) → (nb = (rs (rsG f a b n) j.toNat).2) → V x cX11_raised RX11 14 (rmU 4 103 0 0) [(pi, co 4 (pO fa m1)), (fa, cn 0 6 fa1)] 9 [(0, ar mo), (1, ar q1), (2, ar q2), (3, ai n), (4, ai tries), (5, ai what), (6, al nb), (8, al wn), (10, ai j)] [] 0 0 := by
    intro mm
    induction mm using Nat.strongRecOn with
    | _ mm ih =>
      intro j nb wn m1 fa1 hmm hj hwn hnb
      refine v_iload (pc := 9) 8 rfl dX11_raised_9 ?_
      refine v_iload (pc := 11) 4 rfl dX11_raised_11 ?_
      refine v_icmp_ge (pc := 13) 124 dX11_raised_13 (by decide) (by unfold iB; omega) (by unfold iB; omega) (fun c_1 => ?_) (fun c_1 => ?_)
      · skip
        refine v_iload (pc := 124) 5 rfl dX11_raised_124 ?_
        refine v_if_ne (pc := 126) 134 dX11_raised_126 (by decide) (by unfold iB; omega) (fun c_2 => ?_) (fun c_2 => ?_)
        · skip
          refine v_lload (pc := 134) 6 rfl dX11_raised_134 ?_
          exact hret (m1, fa1) _ _ _ _ _ _ trivial (congrArg (fun z => some (al z)) (by rw [show tries = j by omega]; first | (rw [if_pos (by omega)]; exact hwn.symm) | (rw [if_neg (by omega)]; exact hnb.symm))) rfl (Nat.le_of_ble_eq_true rfl) (Nat.le_of_ble_eq_true rfl) dX11_raised_136
        · skip
          refine v_lload (pc := 129) 7 rfl dX11_raised_129 ?_
          refine v_goto (pc := 131) 136 dX11_raised_131 (by decide) ?_
          exact hret (m1, fa1) _ _ _ _ _ _ trivial (congrArg (fun z => some (al z)) (by rw [show tries = j by omega]; first | (rw [if_pos (by omega)]; exact hwn.symm) | (rw [if_neg (by omega)]; exact hnb.symm))) rfl (Nat.le_of_ble_eq_true rfl) (Nat.le_of_ble_eq_true rfl) dX11_raised_136
      · skip
        refine v_iload (pc := 16) 8 rfl dX11_raised_16 ?_
        refine v_iconst (pc := 18) dX11_raised_18 ?_
        refine v_irem (pc := 19) (by omega) (by omega) (by unfold iB; omega) (by unfold iB; omega) dX11_raised_19 ?_
        refine v_if_ne (pc := 20) 27 dX11_raised_20 (by decide) (by unfold iB; omega) (fun c_3 => ?_) (fun c_3 => ?_)
        · skip
          refine v_iconst (pc := 27) dX11_raised_27 ?_
          refine v_istore (pc := 28) (L2 := [(11, ai 0), (0, ar mo), (1, ar q1), (2, ar q2), (3, ai n), (4, ai tries), (5, ai what), (6, al nb), (8, al wn), (10, ai j)]) rfl (by decide) dX11_raised_28 ?_
          refine v_iload (pc := 30) 0 rfl dX11_raised_30 ?_
          refine v_if_eq (pc := 32) 39 dX11_raised_32 (by decide) (by unfold iB; omega) (fun c_4 => ?_) (fun c_4 => by exfalso; omega)
          refine v_aload_n (pc := 39) 3 rfl dX11_raised_39 ?_
          refine v_astore (pc := 40) (L2 := [(12, ar q2), (11, ai 0), (0, ar mo), (1, ar q1), (2, ar q2), (3, ai n), (4, ai tries), (5, ai what), (6, al nb), (8, al wn), (10, ai j)]) rfl (by decide) dX11_raised_40 ?_
          refine v_aload_n (pc := 42) 2 rfl dX11_raised_42 ?_
          refine v_get (pc := 43) (v := ar pi) 2 (Or.inl r0) fl_11_24_11 rfl dX11_raised_43 ?_
          refine v_aload_n (pc := 46) 2 rfl dX11_raised_46 ?_
          refine v_get (pc := 47) (v := ar nw) 0 (Or.inl r0) fl_11_12_11 rfl dX11_raised_47 ?_
          refine v_aload (pc := 50) 0 rfl dX11_raised_50 ?_
          refine v_bipush (pc := 52) dX11_raised_52 (by decide) ?_
          refine v_iload_n (pc := 54) 5 rfl dX11_raised_54 ?_
          refine v_iload (pc := 55) 10 rfl dX11_raised_55 ?_
          refine v_iadd (pc := 57) dX11_raised_57 ?_
          refine v_callS (pc := 58) [] [0, 1] [(pi, co 4 (pO fa m1)), (fa, cn 0 6 fa1)] (As := [ai 99, ai (n + j)]) (rest := [ar q2, ar nw, ar pi]) (c_J9_min_7cf53 99 (n + j) (by first | omega | assumption) (by first | omega | assumption)) wl_X11_196 ws_J9_min_7cf53 wk_J9_min_7cf53 wz_J9 md_J9_min_7cf53 rfl (Nat.le_of_ble_eq_true rfl) ⟨Nat.le_of_ble_eq_true rfl, Nat.le_of_ble_eq_true rfl, Nat.le_of_ble_eq_true rfl, Nat.le_of_ble_eq_true rfl⟩ rfl rfl rfl rfl (by decide) ro_nil dX11_raised_58 (fun u hu => ?_)
          show V x cX11_raised RX11 14 (rmU 4 103 0 0) [(pi, co 4 (pO fa m1)), (fa, cn 0 6 fa1)] 61 [(12, ar q2), (11, ai 0), (0, ar mo), (1, ar q1), (2, ar q2), (3, ai n), (4, ai tries), (5, ai what), (6, al nb), (8, al wn), (10, ai j)] [ai (if (n + j) < 99 then (n + j) else 99), ar q2, ar nw, ar pi] 0 0
          refine v_aload (pc := 61) 0 rfl dX11_raised_61 ?_
          refine v_get (pc := 63) (v := ai (f (19 + b))) 4 (Or.inl r9) (flP_11_86 (by omega)) rfl dX11_raised_63 ?_
          refine v_aload (pc := 66) 0 rfl dX11_raised_66 ?_
          refine v_get (pc := 68) (v := ai (f (31 + b))) 6 (Or.inl r9) (flP_11_106 (by omega)) rfl dX11_raised_68 ?_
          refine v_callV (pc := 71) [0, 1] [] [] (As := [ar nw, ar q2, ai (if (n + j) < 99 then (n + j) else 99), ai (f (19 + b)), ai (f (31 + b))]) (rest := []) (c_X4_layF pi fa m1 fa1 nw pls ins tap e3 e4 e5 e6 e7 e8 bar iv hq ns us sla ena cda cd sl en ta q2 t2 f b (if (n + j) < 99 then (n + j) else 99) (f (19 + b)) (f (31 + b)) (by assumption) (by assumption) (by first | omega | assumption) (by omega) (by first | omega | assumption) (by first | omega | assumption)) (c := 4) rfl (Or.inr ⟨0, rfl⟩) wl_X11_290 wi_X4_layFor wv_X4_X4_layFor_X4_layFor wk_X4_layFor wz_X4 md_X4_layFor rfl (Nat.le_of_ble_eq_true rfl) ⟨Nat.le_of_ble_eq_true rfl, Nat.le_of_ble_eq_true rfl, Nat.le_of_ble_eq_true rfl, Nat.le_of_ble_eq_true rfl⟩ rfl rfl rfl rfl (by decide) (ro_cons (Or.inl r1) (ro_cons (Or.inl r2) (ro_cons (Or.inl r3) (ro_cons (Or.inl r4) (ro_cons (Or.inl r5) (ro_cons (Or.inl r6) (ro_cons (Or.inl r9) (ro_cons (Or.inl r10) ro_nil)))))))) dX11_raised_71 (fun u hu => ?_)
          obtain ⟨fa2_5, rfl⟩ : ∃ z, z = u := ⟨_, rfl⟩
          show V x cX11_raised RX11 14 (rmU 4 103 0 0) [(pi, co 4 (pO fa (pMf (fS f b (f (19 + b)) (f (31 + b))) b (if (n + j) < 99 then (n + j) else 99)))), (fa, cn 0 6 fa2_5)] 74 [(12, ar q2), (11, ai 0), (0, ar mo), (1, ar q1), (2, ar q2), (3, ai n), (4, ai tries), (5, ai what), (6, al nb), (8, al wn), (10, ai j)] [] 0 0
          refine v_ws (ws2 := [(pi, co 4 (pO fa (pMf f b (if n + j < 99 then n + j else 99)))), (fa, cn 0 6 fa2_5)]) (by rw [fS_id]) ?_
          refine v_aload_n (pc := 74) 2 rfl dX11_raised_74 ?_
          refine v_get (pc := 75) (v := ar pi) 2 (Or.inl r0) fl_11_24_11 rfl dX11_raised_75 ?_
          refine v_callV (pc := 78) [] [0, 1] [(pi, co 4 (pO fa (pMf f b (if n + j < 99 then n + j else 99)))), (fa, cn 0 6 fa2_5)] (As := []) (rest := []) (c_F_bestOdds pi fa f b (if n + j < 99 then n + j else 99) (by assumption) (by first | omega | assumption) (by first | omega | assumption)) (c := 4) rfl (Or.inr ⟨0, rfl⟩) wl_X11_184 wi_X4_bestOdds wv_X4_X4_bestOdds_X4_bestOdds wk_X4_bestOdds wz_X4 md_X4_bestOdds rfl (Nat.le_of_ble_eq_true rfl) ⟨Nat.le_of_ble_eq_true rfl, Nat.le_of_ble_eq_true rfl, Nat.le_of_ble_eq_true rfl, Nat.le_of_ble_eq_true rfl⟩ rfl rfl rfl rfl (by decide) (ro_cons (Or.inr ⟨0, rfl, by decide⟩) ro_nil) dX11_raised_78 (fun u hu => ?_)
          show V x cX11_raised RX11 14 (rmU 4 103 0 0) [(pi, co 4 (pO fa (pMf f b (if n + j < 99 then n + j else 99)))), (fa, cn 0 6 fa2_5)] 81 [(12, ar q2), (11, ai 0), (0, ar mo), (1, ar q1), (2, ar q2), (3, ai n), (4, ai tries), (5, ai what), (6, al nb), (8, al wn), (10, ai j)] [ai (fBest f b (if n + j < 99 then n + j else 99))] 0 0
          have hbb := fBest_b (f := f) (p := b) (n := (if n + j < 99 then n + j else 99))
          have hrb := rs_b (G := rsG f a b n) (fun _ => fBest_b) j.toNat
          have hpw := pow_10 j.toNat (by omega)
          have hrs := rs_at (G := rsG f a b n) hj.1
          have hrg := rsG_at (f := f) (a := a) (b := b) (n := n) hj.1
          have hwo : rsG f a b n j.toNat = fBest f b (if n + j < 99 then n + j else 99) := by rw [hrg, if_neg (by omega)]
          rw [hwo] at hrs
          have hpar : ∀ X : Int, (if j % 2 = 1 then X else 0) = X := fun X => if_pos (by omega)
          rw [hpar] at hrs
          refine v_istore (pc := 81) (L2 := [(13, ai (fBest f b (if n + j < 99 then n + j else 99))), (12, ar q2), (11, ai 0), (0, ar mo), (1, ar q1), (2, ar q2), (3, ai n), (4, ai tries), (5, ai what), (6, al nb), (8, al wn), (10, ai j)]) rfl (by decide) dX11_raised_81 ?_
          refine v_lload (pc := 83) 10 rfl dX11_raised_83 ?_
          refine v_ldc2 (pc := 85) (z := 10) (bw_mem 733 (by decide +kernel) rfl) dX11_raised_85 ?_
          refine v_lmul (pc := 88) dX11_raised_88 ?_
          refine v_lstore (pc := 89) (L2 := [(8, al (wn * 10)), (13, ai (fBest f b (if n + j < 99 then n + j else 99))), (12, ar q2), (11, ai 0), (0, ar mo), (1, ar q1), (2, ar q2), (3, ai n), (4, ai tries), (5, ai what), (6, al nb), (10, ai j)]) rfl (by decide) dX11_raised_89 ?_
          refine v_iload (pc := 91) 3 rfl dX11_raised_91 ?_
          refine v_if_ne (pc := 93) 110 dX11_raised_93 (by decide) (by unfold iB; omega) (fun c_6 => by exfalso; omega) (fun c_6 => ?_)
          refine v_lload (pc := 96) 0 rfl dX11_raised_96 ?_
          refine v_lload (pc := 98) 10 rfl dX11_raised_98 ?_
          refine v_bipush (pc := 100) dX11_raised_100 (by decide) ?_
          refine v_iload (pc := 102) 1 rfl dX11_raised_102 ?_
          refine v_isub (pc := 104) dX11_raised_104 ?_
          refine v_i2l (pc := 105) (by unfold iB; omega) dX11_raised_105 ?_
          refine v_lmul (pc := 106) dX11_raised_106 ?_
          refine v_ladd (pc := 107) dX11_raised_107 ?_
          refine v_lstore (pc := 108) (L2 := [(8, al ((wn * 10) + (nb * (10 - (fBest f b (if n + j < 99 then n + j else 99)))))), (13, ai (fBest f b (if n + j < 99 then n + j else 99))), (12, ar q2), (11, ai 0), (0, ar mo), (1, ar q1), (2, ar q2), (3, ai n), (4, ai tries), (5, ai what), (6, al nb), (10, ai j)]) rfl (by decide) dX11_raised_108 ?_
          refine v_lload (pc := 110) 10 rfl dX11_raised_110 ?_
          refine v_iload (pc := 112) 1 rfl dX11_raised_112 ?_
          refine v_i2l (pc := 114) (by unfold iB; omega) dX11_raised_114 ?_
          refine v_lmul (pc := 115) dX11_raised_115 ?_
          refine v_lstore (pc := 116) (L2 := [(6, al (nb * (fBest f b (if n + j < 99 then n + j else 99)))), (8, al ((wn * 10) + (nb * (10 - (fBest f b (if n + j < 99 then n + j else 99)))))), (13, ai (fBest f b (if n + j < 99 then n + j else 99))), (12, ar q2), (11, ai 0), (0, ar mo), (1, ar q1), (2, ar q2), (3, ai n), (4, ai tries), (5, ai what), (10, ai j)]) rfl (by decide) dX11_raised_116 ?_
          refine v_iinc (pc := 118) 11 (L2 := [(10, ai (j + 1)), (6, al (nb * (fBest f b (if n + j < 99 then n + j else 99)))), (8, al ((wn * 10) + (nb * (10 - (fBest f b (if n + j < 99 then n + j else 99)))))), (13, ai (fBest f b (if n + j < 99 then n + j else 99))), (12, ar q2), (11, ai 0), (0, ar mo), (1, ar q1), (2, ar q2), (3, ai n), (4, ai tries), (5, ai what)]) rfl rfl (by decide) dX11_raised_118 ?_
          refine v_goto (pc := 121) 9 dX11_raised_121 (by decide) ?_
          refine v_sub (L2 := [(0, ar mo), (1, ar q1), (2, ar q2), (3, ai n), (4, ai tries), (5, ai what), (6, al (nb * (fBest f b (if n + j < 99 then n + j else 99)))), (8, al ((wn * 10) + (nb * (10 - (fBest f b (if n + j < 99 then n + j else 99)))))), (10, ai (j + 1))]) [6, 7, 8, 9, 10, 11, 1, 2, 0] rfl ?_
          exact ih _ (by omega) (j + 1) (nb * (fBest f b (if n + j < 99 then n + j else 99))) ((wn * 10) + (nb * (10 - (fBest f b (if n + j < 99 then n + j else 99))))) (pMf f b (if n + j < 99 then n + j else 99)) fa2_5 rfl (by omega) (by rw [hrs]; dsimp only; rw [hwn]; (try rw [hnb]); first | omega | (rw [Int.mul_comm 10]; done)) (by rw [hrs, hnb])
        · skip
          refine v_iconst (pc := 23) dX11_raised_23 ?_
          refine v_goto (pc := 24) 28 dX11_raised_24 (by decide) ?_
          refine v_istore (pc := 28) (L2 := [(11, ai 1), (0, ar mo), (1, ar q1), (2, ar q2), (3, ai n), (4, ai tries), (5, ai what), (6, al nb), (8, al wn), (10, ai j)]) rfl (by decide) dX11_raised_28 ?_
          refine v_iload (pc := 30) 0 rfl dX11_raised_30 ?_
          refine v_if_eq (pc := 32) 39 dX11_raised_32 (by decide) (by unfold iB; omega) (fun c_7 => by exfalso; omega) (fun c_7 => ?_)
          refine v_aload_n (pc := 35) 2 rfl dX11_raised_35 ?_
          refine v_goto (pc := 36) 40 dX11_raised_36 (by decide) ?_
          refine v_astore (pc := 40) (L2 := [(12, ar q1), (11, ai 1), (0, ar mo), (1, ar q1), (2, ar q2), (3, ai n), (4, ai tries), (5, ai what), (6, al nb), (8, al wn), (10, ai j)]) rfl (by decide) dX11_raised_40 ?_
          refine v_aload_n (pc := 42) 2 rfl dX11_raised_42 ?_
          refine v_get (pc := 43) (v := ar pi) 2 (Or.inl r0) fl_11_24_11 rfl dX11_raised_43 ?_
          refine v_aload_n (pc := 46) 2 rfl dX11_raised_46 ?_
          refine v_get (pc := 47) (v := ar nw) 0 (Or.inl r0) fl_11_12_11 rfl dX11_raised_47 ?_
          refine v_aload (pc := 50) 0 rfl dX11_raised_50 ?_
          refine v_bipush (pc := 52) dX11_raised_52 (by decide) ?_
          refine v_iload_n (pc := 54) 5 rfl dX11_raised_54 ?_
          refine v_iload (pc := 55) 10 rfl dX11_raised_55 ?_
          refine v_iadd (pc := 57) dX11_raised_57 ?_
          refine v_callS (pc := 58) [] [0, 1] [(pi, co 4 (pO fa m1)), (fa, cn 0 6 fa1)] (As := [ai 99, ai (n + j)]) (rest := [ar q1, ar nw, ar pi]) (c_J9_min_7cf53 99 (n + j) (by first | omega | assumption) (by first | omega | assumption)) wl_X11_196 ws_J9_min_7cf53 wk_J9_min_7cf53 wz_J9 md_J9_min_7cf53 rfl (Nat.le_of_ble_eq_true rfl) ⟨Nat.le_of_ble_eq_true rfl, Nat.le_of_ble_eq_true rfl, Nat.le_of_ble_eq_true rfl, Nat.le_of_ble_eq_true rfl⟩ rfl rfl rfl rfl (by decide) ro_nil dX11_raised_58 (fun u hu => ?_)
          show V x cX11_raised RX11 14 (rmU 4 103 0 0) [(pi, co 4 (pO fa m1)), (fa, cn 0 6 fa1)] 61 [(12, ar q1), (11, ai 1), (0, ar mo), (1, ar q1), (2, ar q2), (3, ai n), (4, ai tries), (5, ai what), (6, al nb), (8, al wn), (10, ai j)] [ai (if (n + j) < 99 then (n + j) else 99), ar q1, ar nw, ar pi] 0 0
          refine v_aload (pc := 61) 0 rfl dX11_raised_61 ?_
          refine v_get (pc := 63) (v := ai (f (19 + a))) 4 (Or.inl r7) (flP_11_86 (by omega)) rfl dX11_raised_63 ?_
          refine v_aload (pc := 66) 0 rfl dX11_raised_66 ?_
          refine v_get (pc := 68) (v := ai (f (31 + a))) 6 (Or.inl r7) (flP_11_106 (by omega)) rfl dX11_raised_68 ?_
          refine v_callV (pc := 71) [0, 1] [] [] (As := [ar nw, ar q1, ai (if (n + j) < 99 then (n + j) else 99), ai (f (19 + a)), ai (f (31 + a))]) (rest := []) (c_X4_layF pi fa m1 fa1 nw pls ins tap e3 e4 e5 e6 e7 e8 bar iv hq ns us sla ena cda cd sl en ta q1 t1 f a (if (n + j) < 99 then (n + j) else 99) (f (19 + a)) (f (31 + a)) (by assumption) (by assumption) (by first | omega | assumption) (by omega) (by first | omega | assumption) (by first | omega | assumption)) (c := 4) rfl (Or.inr ⟨0, rfl⟩) wl_X11_290 wi_X4_layFor wv_X4_X4_layFor_X4_layFor wk_X4_layFor wz_X4 md_X4_layFor rfl (Nat.le_of_ble_eq_true rfl) ⟨Nat.le_of_ble_eq_true rfl, Nat.le_of_ble_eq_true rfl, Nat.le_of_ble_eq_true rfl, Nat.le_of_ble_eq_true rfl⟩ rfl rfl rfl rfl (by decide) (ro_cons (Or.inl r1) (ro_cons (Or.inl r2) (ro_cons (Or.inl r3) (ro_cons (Or.inl r4) (ro_cons (Or.inl r5) (ro_cons (Or.inl r6) (ro_cons (Or.inl r7) (ro_cons (Or.inl r8) ro_nil)))))))) dX11_raised_71 (fun u hu => ?_)
          obtain ⟨fa2_8, rfl⟩ : ∃ z, z = u := ⟨_, rfl⟩
          show V x cX11_raised RX11 14 (rmU 4 103 0 0) [(pi, co 4 (pO fa (pMf (fS f a (f (19 + a)) (f (31 + a))) a (if (n + j) < 99 then (n + j) else 99)))), (fa, cn 0 6 fa2_8)] 74 [(12, ar q1), (11, ai 1), (0, ar mo), (1, ar q1), (2, ar q2), (3, ai n), (4, ai tries), (5, ai what), (6, al nb), (8, al wn), (10, ai j)] [] 0 0
          refine v_ws (ws2 := [(pi, co 4 (pO fa (pMf f a (if n + j < 99 then n + j else 99)))), (fa, cn 0 6 fa2_8)]) (by rw [fS_id]) ?_
          refine v_aload_n (pc := 74) 2 rfl dX11_raised_74 ?_
          refine v_get (pc := 75) (v := ar pi) 2 (Or.inl r0) fl_11_24_11 rfl dX11_raised_75 ?_
          refine v_callV (pc := 78) [] [0, 1] [(pi, co 4 (pO fa (pMf f a (if n + j < 99 then n + j else 99)))), (fa, cn 0 6 fa2_8)] (As := []) (rest := []) (c_F_bestOdds pi fa f a (if n + j < 99 then n + j else 99) (by assumption) (by first | omega | assumption) (by first | omega | assumption)) (c := 4) rfl (Or.inr ⟨0, rfl⟩) wl_X11_184 wi_X4_bestOdds wv_X4_X4_bestOdds_X4_bestOdds wk_X4_bestOdds wz_X4 md_X4_bestOdds rfl (Nat.le_of_ble_eq_true rfl) ⟨Nat.le_of_ble_eq_true rfl, Nat.le_of_ble_eq_true rfl, Nat.le_of_ble_eq_true rfl, Nat.le_of_ble_eq_true rfl⟩ rfl rfl rfl rfl (by decide) (ro_cons (Or.inr ⟨0, rfl, by decide⟩) ro_nil) dX11_raised_78 (fun u hu => ?_)
          show V x cX11_raised RX11 14 (rmU 4 103 0 0) [(pi, co 4 (pO fa (pMf f a (if n + j < 99 then n + j else 99)))), (fa, cn 0 6 fa2_8)] 81 [(12, ar q1), (11, ai 1), (0, ar mo), (1, ar q1), (2, ar q2), (3, ai n), (4, ai tries), (5, ai what), (6, al nb), (8, al wn), (10, ai j)] [ai (fBest f a (if n + j < 99 then n + j else 99))] 0 0
          have hbb := fBest_b (f := f) (p := a) (n := (if n + j < 99 then n + j else 99))
          have hrb := rs_b (G := rsG f a b n) (fun _ => fBest_b) j.toNat
          have hpw := pow_10 j.toNat (by omega)
          have hrs := rs_at (G := rsG f a b n) hj.1
          have hrg := rsG_at (f := f) (a := a) (b := b) (n := n) hj.1
          have hwo : rsG f a b n j.toNat = fBest f a (if n + j < 99 then n + j else 99) := by rw [hrg, if_pos (by omega)]
          rw [hwo] at hrs
          have hpar : ∀ X : Int, (if j % 2 = 1 then X else 0) = 0 := fun X => if_neg (by omega)
          rw [hpar] at hrs
          refine v_istore (pc := 81) (L2 := [(13, ai (fBest f a (if n + j < 99 then n + j else 99))), (12, ar q1), (11, ai 1), (0, ar mo), (1, ar q1), (2, ar q2), (3, ai n), (4, ai tries), (5, ai what), (6, al nb), (8, al wn), (10, ai j)]) rfl (by decide) dX11_raised_81 ?_
          refine v_lload (pc := 83) 10 rfl dX11_raised_83 ?_
          refine v_ldc2 (pc := 85) (z := 10) (bw_mem 733 (by decide +kernel) rfl) dX11_raised_85 ?_
          refine v_lmul (pc := 88) dX11_raised_88 ?_
          refine v_lstore (pc := 89) (L2 := [(8, al (wn * 10)), (13, ai (fBest f a (if n + j < 99 then n + j else 99))), (12, ar q1), (11, ai 1), (0, ar mo), (1, ar q1), (2, ar q2), (3, ai n), (4, ai tries), (5, ai what), (6, al nb), (10, ai j)]) rfl (by decide) dX11_raised_89 ?_
          refine v_iload (pc := 91) 3 rfl dX11_raised_91 ?_
          refine v_if_ne (pc := 93) 110 dX11_raised_93 (by decide) (by unfold iB; omega) (fun c_9 => ?_) (fun c_9 => by exfalso; omega)
          refine v_lload (pc := 110) 10 rfl dX11_raised_110 ?_
          refine v_iload (pc := 112) 1 rfl dX11_raised_112 ?_
          refine v_i2l (pc := 114) (by unfold iB; omega) dX11_raised_114 ?_
          refine v_lmul (pc := 115) dX11_raised_115 ?_
          refine v_lstore (pc := 116) (L2 := [(6, al (nb * (fBest f a (if n + j < 99 then n + j else 99)))), (8, al (wn * 10)), (13, ai (fBest f a (if n + j < 99 then n + j else 99))), (12, ar q1), (11, ai 1), (0, ar mo), (1, ar q1), (2, ar q2), (3, ai n), (4, ai tries), (5, ai what), (10, ai j)]) rfl (by decide) dX11_raised_116 ?_
          refine v_iinc (pc := 118) 11 (L2 := [(10, ai (j + 1)), (6, al (nb * (fBest f a (if n + j < 99 then n + j else 99)))), (8, al (wn * 10)), (13, ai (fBest f a (if n + j < 99 then n + j else 99))), (12, ar q1), (11, ai 1), (0, ar mo), (1, ar q1), (2, ar q2), (3, ai n), (4, ai tries), (5, ai what)]) rfl rfl (by decide) dX11_raised_118 ?_
          refine v_goto (pc := 121) 9 dX11_raised_121 (by decide) ?_
          refine v_sub (L2 := [(0, ar mo), (1, ar q1), (2, ar q2), (3, ai n), (4, ai tries), (5, ai what), (6, al (nb * (fBest f a (if n + j < 99 then n + j else 99)))), (8, al (wn * 10)), (10, ai (j + 1))]) [6, 7, 8, 9, 10, 11, 1, 2, 0] rfl ?_
          exact ih _ (by omega) (j + 1) (nb * (fBest f a (if n + j < 99 then n + j else 99))) (wn * 10) (pMf f a (if n + j < 99 then n + j else 99)) fa2_8 rfl (by omega) (by rw [hrs]; dsimp only; rw [hwn]; (try rw [hnb]); first | omega | (rw [Int.mul_comm 10]; done)) (by rw [hrs, hnb])
  refine v_sub (L2 := [(0, ar mo), (1, ar q1), (2, ar q2), (3, ai n), (4, ai tries), (5, ai what), (6, al 1), (8, al 0), (10, ai 0)]) [3, 4, 5, 6, 7, 8, 2, 1, 0] rfl ?_
  exact lp9 _ 0 1 0 m fa0 rfl (by omega) (by rfl) (by rfl)
set_option maxHeartbeats 4000000 in
set_option maxRecDepth 100000 in
theorem c_X11_raise {gS : sG} (mo : Nat) (kw : Nat) (pi : Nat) (ta : Nat) (ms : Nat) (pt : Nat) (po : Nat) (hi : Int) (nw : Nat) (pls : Nat) (ins : Nat) (tap : Nat) (e3 : Nat) (e4 : Nat) (e5 : Nat) (e6 : Nat) (e7 : Nat) (e8 : Nat) (bar : Nat) (fa : Nat) (m : Nat → Int) (fa0 : Int → Int) (iv : Int → Option Nat) (hq : Nat) (ns : Int) (us : Int) (sla : Nat) (ena : Nat) (cda : Nat) (cd : Int → Int) (sl : Int → Int) (en : Int → Int) (pv : Int → Option Nat) (pl : Int → Nat) (tu : Int → Nat) (f : Int → Int) (one : Int) (other : Int) (n : Int) (tries : Int) (what : Int) (part : Int) (hS : SOK f) (hI : inC f iv bar hq ns us sl en cd) (hpv : ∀ i : Int, 0 ≤ i → i ≤ f 0 - 1 → pv i = some (pl i)) (hb_one : -2147483648 ≤ one ∧ one < 2147483648) (hb_other : -2147483648 ≤ other ∧ other < 2147483648) (hb_n : -2147483648 ≤ n ∧ n < 2147483648) (hb_tries : -2147483648 ≤ tries ∧ tries < 2147483648) (hb_what : -2147483648 ≤ what ∧ what < 2147483648) (hb_part : -2147483648 ≤ part ∧ part < 2147483648) : Ct gS (S := (Nat → Int) × (Int → Int)) yX11_raise cX11_raise 9 (some .long) 5 136 0 0 [ar mo, ai one, ai other, ai n, ai tries, ai what, ai part] [(pi, co 4 (pO fa m)), (fa, cn 0 6 fa0)] (fun q => q ∈ ([(mo, co 11 [ar nw, ar kw, ar pi, ar ta, ar ms, ar pt, ar po, ai hi]), (nw, co 10 [ar pls, ar ins, ar tap, ar e3, ar e4, ar e5, ar e6, ar e7, ar e8, ai (f 0), ai (f 1), ai (f 4), ai (f 2), ai (f 3), ai (f 6), ar bar]), (pls, cq 3 6 pv), (ins, cq 2 5 iv), (hq, co 3 [ai (kWide f), ai (kPay f), ai ns, ai us, ar sla, ar ena, ar cda]), (cda, cn 0 100 cd), (sla, cn 0 10 sl), (ena, cn 0 10 en)] : aW) ++ zpA ta f pl tu) (fun u => True) (fun u => some (al (qRaise f one other n tries what part))) (fun u => [(pi, co 4 (pO fa u.1)), (fa, cn 0 6 u.2)]) := by
  refine ct_L RX11 [(0, ar mo), (1, ai one), (2, ai other), (3, ai n), (4, ai tries), (5, ai what), (6, ai part)] (by decide) rfl (Nat.le_of_ble_eq_true rfl) rfl (fun x hgS hro hret => ?_)
  subst hgS
  have r0 := hro _ (List.mem_append_left _ (mem_at 0 rfl))
  have r1 := hro _ (List.mem_append_left _ (mem_at 1 rfl))
  have r2 := hro _ (List.mem_append_left _ (mem_at 2 rfl))
  have r3 := hro _ (List.mem_append_left _ (mem_at 3 rfl))
  have r4 := hro _ (List.mem_append_left _ (mem_at 4 rfl))
  have r5 := hro _ (List.mem_append_left _ (mem_at 5 rfl))
  have r6 := hro _ (List.mem_append_left _ (mem_at 6 rfl))
  have r7 := hro _ (List.mem_append_left _ (mem_at 7 rfl))
  have hra : ∀ q, q ∈ zpA ta f pl tu → Ro x q := fun q h => hro _ (List.mem_append_right _ h)
  obtain ⟨⟨hg0, hg1, hg2, hg3, hg4, hg5, hg6, hg7⟩, hSp, hSh, hSs, hSb, hSt, hSw⟩ := id hS
  show V x cX11_raise RX11 9 (rmU 5 136 0 0) [(pi, co 4 (pO fa m)), (fa, cn 0 6 fa0)] 0 [(0, ar mo), (1, ai one), (2, ai other), (3, ai n), (4, ai tries), (5, ai what), (6, ai part)] [] 0 0
  refine v_aload_n (pc := 0) 0 rfl dX11_raise_0 ?_
  refine v_iload_n (pc := 1) 1 rfl dX11_raise_1 ?_
  rcases Classical.em (0 ≤ one ∧ one ≤ f 0 - 1) with hp | hp
  · skip
    have hpl := hpv one hp.1 hp.2
    have rP := hra _ (zpA_p (ta := ta) (pl := pl) (tu := tu) hp)
    have rQ := hra _ (zpA_t (ta := ta) (pl := pl) (tu := tu) hp)
    have hp6 : 0 ≤ one ∧ one < 6 := by omega
    obtain ⟨hpp, hf1, hf2, hf3, hf4, hf5, hf6, hf7, hf8⟩ := hSp one hp6.1 hp6.2
    refine v_callV (pc := 2) [] [0, 1] [(pi, co 4 (pO fa m)), (fa, cn 0 6 fa0)] (As := [ai one]) (rest := []) (c_X11_find_y mo kw pi ta ms pt po hi nw pls ins tap e3 e4 e5 e6 e7 e8 bar pv (pl one) f one (by assumption) (by exact hpl) (by exact hp)) (c := 11) rfl (Or.inl r0) wl_X11_99 wi_X11_find wv_X11_X11_find_X11_find wk_X11_find wz_X11 md_X11_find rfl (Nat.le_of_ble_eq_true rfl) ⟨Nat.le_of_ble_eq_true rfl, Nat.le_of_ble_eq_true rfl, Nat.le_of_ble_eq_true rfl, Nat.le_of_ble_eq_true rfl⟩ rfl rfl rfl rfl (by decide) (ro_cons (Or.inl r0) (ro_cons (Or.inl r1) (ro_cons (Or.inl r2) ro_nil))) dX11_raise_2 (fun u hu => ?_)
    show V x cX11_raise RX11 9 (rmU 5 136 0 0) [(pi, co 4 (pO fa m)), (fa, cn 0 6 fa0)] 5 [(0, ar mo), (1, ai one), (2, ai other), (3, ai n), (4, ai tries), (5, ai what), (6, ai part)] [ar (pl one)] 0 0
    refine v_astore (pc := 5) (L2 := [(7, ar (pl one)), (0, ar mo), (1, ai one), (2, ai other), (3, ai n), (4, ai tries), (5, ai what), (6, ai part)]) rfl (by decide) dX11_raise_5 ?_
    refine v_aload_n (pc := 7) 1 rfl dX11_raise_7 ?_
    refine v_iload_n (pc := 8) 3 rfl dX11_raise_8 ?_
    rcases Classical.em (0 ≤ other ∧ other ≤ f 0 - 1) with hpq | hpq
    · skip
      have hplb := hpv other hpq.1 hpq.2
      have rPb := hra _ (zpA_p (ta := ta) (pl := pl) (tu := tu) hpq)
      have rQb := hra _ (zpA_t (ta := ta) (pl := pl) (tu := tu) hpq)
      have hp6b : 0 ≤ other ∧ other < 6 := by omega
      obtain ⟨hppb, hf1b, hf2b, hf3b, hf4b, hf5b, hf6b, hf7b, hf8b⟩ := hSp other hp6b.1 hp6b.2
      refine v_callV (pc := 9) [] [0, 1] [(pi, co 4 (pO fa m)), (fa, cn 0 6 fa0)] (As := [ai other]) (rest := []) (c_X11_find_y mo kw pi ta ms pt po hi nw pls ins tap e3 e4 e5 e6 e7 e8 bar pv (pl other) f other (by assumption) (by exact hplb) (by exact hpq)) (c := 11) rfl (Or.inl r0) wl_X11_99 wi_X11_find wv_X11_X11_find_X11_find wk_X11_find wz_X11 md_X11_find rfl (Nat.le_of_ble_eq_true rfl) ⟨Nat.le_of_ble_eq_true rfl, Nat.le_of_ble_eq_true rfl, Nat.le_of_ble_eq_true rfl, Nat.le_of_ble_eq_true rfl⟩ rfl rfl rfl rfl (by decide) (ro_cons (Or.inl r0) (ro_cons (Or.inl r1) (ro_cons (Or.inl r2) ro_nil))) dX11_raise_9 (fun u hu => ?_)
      show V x cX11_raise RX11 9 (rmU 5 136 0 0) [(pi, co 4 (pO fa m)), (fa, cn 0 6 fa0)] 12 [(7, ar (pl one)), (0, ar mo), (1, ai one), (2, ai other), (3, ai n), (4, ai tries), (5, ai what), (6, ai part)] [ar (pl other)] 0 0
      refine v_astore (pc := 12) (L2 := [(8, ar (pl other)), (7, ar (pl one)), (0, ar mo), (1, ai one), (2, ai other), (3, ai n), (4, ai tries), (5, ai what), (6, ai part)]) rfl (by decide) dX11_raise_12 ?_
      refine v_aload (pc := 14) 1 rfl dX11_raise_14 ?_
      refine v_ifnull_r (pc := 16) dX11_raise_16 ?_
      refine v_aload (pc := 19) 0 rfl dX11_raise_19 ?_
      refine v_ifnull_r (pc := 21) dX11_raise_21 ?_
      refine v_iload_n (pc := 24) 3 rfl dX11_raise_24 ?_
      refine v_iload_n (pc := 25) 4 rfl dX11_raise_25 ?_
      refine v_icmp_ne (pc := 26) 33 dX11_raise_26 (by decide) (by unfold iB; omega) (by unfold iB; omega) (fun c_1 => ?_) (fun c_1 => ?_)
      · skip
        refine v_iload_n (pc := 33) 5 rfl dX11_raise_33 ?_
        refine v_callS (pc := 34) [] [0, 1] [(pi, co 4 (pO fa m)), (fa, cn 0 6 fa0)] (As := [ai n]) (rest := []) (c_X11_isNoPile n (by first | omega | assumption)) wl_X11_135 ws_X11_isNoPile wk_X11_isNoPile wz_X11 md_X11_isNoPile rfl (Nat.le_of_ble_eq_true rfl) ⟨Nat.le_of_ble_eq_true rfl, Nat.le_of_ble_eq_true rfl, Nat.le_of_ble_eq_true rfl, Nat.le_of_ble_eq_true rfl⟩ rfl rfl rfl rfl (by decide) ro_nil dX11_raise_34 (fun u hu => ?_)
        show V x cX11_raise RX11 9 (rmU 5 136 0 0) [(pi, co 4 (pO fa m)), (fa, cn 0 6 fa0)] 37 [(8, ar (pl other)), (7, ar (pl one)), (0, ar mo), (1, ai one), (2, ai other), (3, ai n), (4, ai tries), (5, ai what), (6, ai part)] [ai (if n < 1 ∨ 99 < n then 1 else 0)] 0 0
        refine v_ifb_ne (pc := 37) 69 dX11_raise_37 (by decide) (fun c_2 => ?_) (fun c_2 => ?_)
        · skip
          refine v_ldc2 (pc := 69) (z := (-9223372036854775808)) (bw_mem 727 (by decide +kernel) rfl) dX11_raise_69 ?_
          exact hret (m, fa0) _ _ _ _ _ _ trivial (congrArg (fun z => some (al z)) (by unfold qRaise; (repeat' split) <;> first | rfl | (exfalso; omega) | omega)) rfl (Nat.le_of_ble_eq_true rfl) (Nat.le_of_ble_eq_true rfl) dX11_raise_72
        · skip
          refine v_iload (pc := 40) 6 rfl dX11_raise_40 ?_
          refine v_iconst (pc := 42) dX11_raise_42 ?_
          refine v_bipush (pc := 43) dX11_raise_43 (by decide) ?_
          refine v_callS (pc := 45) [] [0, 1] [(pi, co 4 (pO fa m)), (fa, cn 0 6 fa0)] (As := [ai tries, ai 1, ai 8]) (rest := []) (c_X11_isOut tries 1 8 (by first | omega | assumption) (by first | omega | assumption) (by first | omega | assumption)) wl_X11_41 ws_X11_isOut wk_X11_isOut wz_X11 md_X11_isOut rfl (Nat.le_of_ble_eq_true rfl) ⟨Nat.le_of_ble_eq_true rfl, Nat.le_of_ble_eq_true rfl, Nat.le_of_ble_eq_true rfl, Nat.le_of_ble_eq_true rfl⟩ rfl rfl rfl rfl (by decide) ro_nil dX11_raise_45 (fun u hu => ?_)
          show V x cX11_raise RX11 9 (rmU 5 136 0 0) [(pi, co 4 (pO fa m)), (fa, cn 0 6 fa0)] 48 [(8, ar (pl other)), (7, ar (pl one)), (0, ar mo), (1, ai one), (2, ai other), (3, ai n), (4, ai tries), (5, ai what), (6, ai part)] [ai (if tries < 1 ∨ 8 < tries then 1 else 0)] 0 0
          refine v_ifb_ne (pc := 48) 69 dX11_raise_48 (by decide) (fun c_3 => ?_) (fun c_3 => ?_)
          · skip
            refine v_ldc2 (pc := 69) (z := (-9223372036854775808)) (bw_mem 727 (by decide +kernel) rfl) dX11_raise_69 ?_
            exact hret (m, fa0) _ _ _ _ _ _ trivial (congrArg (fun z => some (al z)) (by unfold qRaise; (repeat' split) <;> first | rfl | (exfalso; omega) | omega)) rfl (Nat.le_of_ble_eq_true rfl) (Nat.le_of_ble_eq_true rfl) dX11_raise_72
          · skip
            refine v_iload (pc := 51) 7 rfl dX11_raise_51 ?_
            refine v_iconst (pc := 53) dX11_raise_53 ?_
            refine v_iconst (pc := 54) dX11_raise_54 ?_
            refine v_callS (pc := 55) [] [0, 1] [(pi, co 4 (pO fa m)), (fa, cn 0 6 fa0)] (As := [ai what, ai 0, ai 1]) (rest := []) (c_X11_isOut what 0 1 (by first | omega | assumption) (by first | omega | assumption) (by first | omega | assumption)) wl_X11_41 ws_X11_isOut wk_X11_isOut wz_X11 md_X11_isOut rfl (Nat.le_of_ble_eq_true rfl) ⟨Nat.le_of_ble_eq_true rfl, Nat.le_of_ble_eq_true rfl, Nat.le_of_ble_eq_true rfl, Nat.le_of_ble_eq_true rfl⟩ rfl rfl rfl rfl (by decide) ro_nil dX11_raise_55 (fun u hu => ?_)
            show V x cX11_raise RX11 9 (rmU 5 136 0 0) [(pi, co 4 (pO fa m)), (fa, cn 0 6 fa0)] 58 [(8, ar (pl other)), (7, ar (pl one)), (0, ar mo), (1, ai one), (2, ai other), (3, ai n), (4, ai tries), (5, ai what), (6, ai part)] [ai (if what < 0 ∨ 1 < what then 1 else 0)] 0 0
            refine v_ifb_ne (pc := 58) 69 dX11_raise_58 (by decide) (fun c_4 => ?_) (fun c_4 => ?_)
            · skip
              refine v_ldc2 (pc := 69) (z := (-9223372036854775808)) (bw_mem 727 (by decide +kernel) rfl) dX11_raise_69 ?_
              exact hret (m, fa0) _ _ _ _ _ _ trivial (congrArg (fun z => some (al z)) (by unfold qRaise; (repeat' split) <;> first | rfl | (exfalso; omega) | omega)) rfl (Nat.le_of_ble_eq_true rfl) (Nat.le_of_ble_eq_true rfl) dX11_raise_72
            · skip
              refine v_iload (pc := 61) 8 rfl dX11_raise_61 ?_
              refine v_callS (pc := 63) [] [0, 1] [(pi, co 4 (pO fa m)), (fa, cn 0 6 fa0)] (As := [ai part]) (rest := []) (c_X11_isNoPart part (by first | omega | assumption)) wl_X11_166 ws_X11_isNoPart wk_X11_isNoPart wz_X11 md_X11_isNoPart rfl (Nat.le_of_ble_eq_true rfl) ⟨Nat.le_of_ble_eq_true rfl, Nat.le_of_ble_eq_true rfl, Nat.le_of_ble_eq_true rfl, Nat.le_of_ble_eq_true rfl⟩ rfl rfl rfl rfl (by decide) ro_nil dX11_raise_63 (fun u hu => ?_)
              show V x cX11_raise RX11 9 (rmU 5 136 0 0) [(pi, co 4 (pO fa m)), (fa, cn 0 6 fa0)] 66 [(8, ar (pl other)), (7, ar (pl one)), (0, ar mo), (1, ai one), (2, ai other), (3, ai n), (4, ai tries), (5, ai what), (6, ai part)] [ai (if part < 0 ∨ 1 < part then 1 else 0)] 0 0
              refine v_ifb_eq (pc := 66) 73 dX11_raise_66 (by decide) (fun c_5 => ?_) (fun c_5 => ?_)
              · skip
                refine v_aload_n (pc := 73) 2 rfl dX11_raise_73 ?_
                refine v_aload (pc := 74) 1 rfl dX11_raise_74 ?_
                refine v_aload (pc := 76) 0 rfl dX11_raise_76 ?_
                refine v_iload_n (pc := 78) 5 rfl dX11_raise_78 ?_
                refine v_iload (pc := 79) 6 rfl dX11_raise_79 ?_
                refine v_iload (pc := 81) 7 rfl dX11_raise_81 ?_
                refine v_callV (pc := 83) [0, 1] [] [] (As := [ar (pl one), ar (pl other), ai n, ai tries, ai what]) (rest := []) (c_X11_raised mo kw pi ta ms pt po hi nw pls ins tap e3 e4 e5 e6 e7 e8 bar fa m fa0 iv hq ns us sla ena cda cd sl en (pl one) (tu one) (pl other) (tu other) f one other n tries what (by assumption) (by assumption) (by first | omega | assumption) (by first | omega | assumption) (by first | omega | assumption) (by first | omega | assumption) (by first | omega | assumption)) (c := 11) rfl (Or.inl r0) wl_X11_225 wi_X11_raised wv_X11_X11_raised_X11_raised wk_X11_raised wz_X11 md_X11_raised rfl (Nat.le_of_ble_eq_true rfl) ⟨Nat.le_of_ble_eq_true rfl, Nat.le_of_ble_eq_true rfl, Nat.le_of_ble_eq_true rfl, Nat.le_of_ble_eq_true rfl⟩ rfl rfl rfl rfl (by decide) (ro_cons (Or.inl r0) (ro_cons (Or.inl r1) (ro_cons (Or.inl r3) (ro_cons (Or.inl r4) (ro_cons (Or.inl r5) (ro_cons (Or.inl r6) (ro_cons (Or.inl r7) (ro_cons (Or.inl rP) (ro_cons (Or.inl rQ) (ro_cons (Or.inl rPb) (ro_cons (Or.inl rQb) ro_nil))))))))))) dX11_raise_83 (fun u hu => ?_)
                obtain ⟨m2_6, fa2_7⟩ := u
                show V x cX11_raise RX11 9 (rmU 5 136 0 0) [(pi, co 4 (pO fa m2_6)), (fa, cn 0 6 fa2_7)] 86 [(8, ar (pl other)), (7, ar (pl one)), (0, ar mo), (1, ai one), (2, ai other), (3, ai n), (4, ai tries), (5, ai what), (6, ai part)] [al (if what = 0 then (rs (rsG f one other n) tries.toNat).1 else (rs (rsG f one other n) tries.toNat).2)] 0 0
                have hrb := rs_b (G := rsG f one other n) (fun _ => fBest_b) tries.toNat
                have hpw := pow_10 tries.toNat (by omega)
                have hup : 0 ≤ (if what = 0 then (rs (rsG f one other n) tries.toNat).1 else (rs (rsG f one other n) tries.toNat).2) ∧ (if what = 0 then (rs (rsG f one other n) tries.toNat).1 else (rs (rsG f one other n) tries.toNat).2) ≤ 1000000000000 := by split <;> omega
                refine v_iload (pc := 86) 6 rfl dX11_raise_86 ?_
                refine v_callS (pc := 88) [] [0, 1] [(pi, co 4 (pO fa m2_6)), (fa, cn 0 6 fa2_7)] (As := [ai tries]) (rest := [al (if what = 0 then (rs (rsG f one other n) tries.toNat).1 else (rs (rsG f one other n) tries.toNat).2)]) (c_X11_tenths tries (by first | omega | assumption)) wl_X11_206 ws_X11_tenths wk_X11_tenths wz_X11 md_X11_tenths rfl (Nat.le_of_ble_eq_true rfl) ⟨Nat.le_of_ble_eq_true rfl, Nat.le_of_ble_eq_true rfl, Nat.le_of_ble_eq_true rfl, Nat.le_of_ble_eq_true rfl⟩ rfl rfl rfl rfl (by decide) ro_nil dX11_raise_88 (fun u hu => ?_)
                show V x cX11_raise RX11 9 (rmU 5 136 0 0) [(pi, co 4 (pO fa m2_6)), (fa, cn 0 6 fa2_7)] 91 [(8, ar (pl other)), (7, ar (pl one)), (0, ar mo), (1, ai one), (2, ai other), (3, ai n), (4, ai tries), (5, ai what), (6, ai part)] [al (10 ^ tries.toNat), al (if what = 0 then (rs (rsG f one other n) tries.toNat).1 else (rs (rsG f one other n) tries.toNat).2)] 0 0
                refine v_iload (pc := 91) 8 rfl dX11_raise_91 ?_
                refine v_callS (pc := 93) [] [0, 1] [(pi, co 4 (pO fa m2_6)), (fa, cn 0 6 fa2_7)] (As := [al (if what = 0 then (rs (rsG f one other n) tries.toNat).1 else (rs (rsG f one other n) tries.toNat).2), al (10 ^ tries.toNat), ai part]) (rest := []) (c_X11_lowest (if what = 0 then (rs (rsG f one other n) tries.toNat).1 else (rs (rsG f one other n) tries.toNat).2) (10 ^ tries.toNat) part (by first | omega | assumption) (by first | omega | assumption) (by first | omega | assumption)) wl_X11_176 ws_X11_lowest wk_X11_lowest wz_X11 md_X11_lowest rfl (Nat.le_of_ble_eq_true rfl) ⟨Nat.le_of_ble_eq_true rfl, Nat.le_of_ble_eq_true rfl, Nat.le_of_ble_eq_true rfl, Nat.le_of_ble_eq_true rfl⟩ rfl rfl rfl rfl (by decide) ro_nil dX11_raise_93 (fun u hu => ?_)
                show V x cX11_raise RX11 9 (rmU 5 136 0 0) [(pi, co 4 (pO fa m2_6)), (fa, cn 0 6 fa2_7)] 96 [(8, ar (pl other)), (7, ar (pl one)), (0, ar mo), (1, ai one), (2, ai other), (3, ai n), (4, ai tries), (5, ai what), (6, ai part)] [al (kFr (if what = 0 then (rs (rsG f one other n) tries.toNat).1 else (rs (rsG f one other n) tries.toNat).2) (10 ^ tries.toNat) part)] 0 0
                exact hret (m2_6, fa2_7) _ _ _ _ _ _ trivial (congrArg (fun z => some (al z)) (by unfold qRaise; rw [if_neg (by omega)])) rfl (Nat.le_of_ble_eq_true rfl) (Nat.le_of_ble_eq_true rfl) dX11_raise_96
              · skip
                refine v_ldc2 (pc := 69) (z := (-9223372036854775808)) (bw_mem 727 (by decide +kernel) rfl) dX11_raise_69 ?_
                exact hret (m, fa0) _ _ _ _ _ _ trivial (congrArg (fun z => some (al z)) (by unfold qRaise; (repeat' split) <;> first | rfl | (exfalso; omega) | omega)) rfl (Nat.le_of_ble_eq_true rfl) (Nat.le_of_ble_eq_true rfl) dX11_raise_72
      · skip
        refine v_ldc2 (pc := 29) (z := (-9223372036854775808)) (bw_mem 727 (by decide +kernel) rfl) dX11_raise_29 ?_
        exact hret (m, fa0) _ _ _ _ _ _ trivial (congrArg (fun z => some (al z)) (by unfold qRaise; (repeat' split) <;> first | rfl | (exfalso; omega) | omega)) rfl (Nat.le_of_ble_eq_true rfl) (Nat.le_of_ble_eq_true rfl) dX11_raise_32
    · skip
      refine v_callV (pc := 9) [] [0, 1] [(pi, co 4 (pO fa m)), (fa, cn 0 6 fa0)] (As := [ai other]) (rest := []) (c_X11_find_n mo kw pi ta ms pt po hi nw pls ins tap e3 e4 e5 e6 e7 e8 bar pv f other (by assumption) (by exact hpq) (by first | omega | assumption)) (c := 11) rfl (Or.inl r0) wl_X11_99 wi_X11_find wv_X11_X11_find_X11_find wk_X11_find wz_X11 md_X11_find rfl (Nat.le_of_ble_eq_true rfl) ⟨Nat.le_of_ble_eq_true rfl, Nat.le_of_ble_eq_true rfl, Nat.le_of_ble_eq_true rfl, Nat.le_of_ble_eq_true rfl⟩ rfl rfl rfl rfl (by decide) (ro_cons (Or.inl r0) (ro_cons (Or.inl r1) (ro_cons (Or.inl r2) ro_nil))) dX11_raise_9 (fun u hu => ?_)
      show V x cX11_raise RX11 9 (rmU 5 136 0 0) [(pi, co 4 (pO fa m)), (fa, cn 0 6 fa0)] 12 [(7, ar (pl one)), (0, ar mo), (1, ai one), (2, ai other), (3, ai n), (4, ai tries), (5, ai what), (6, ai part)] [an] 0 0
      refine v_astore (pc := 12) (L2 := [(8, an), (7, ar (pl one)), (0, ar mo), (1, ai one), (2, ai other), (3, ai n), (4, ai tries), (5, ai what), (6, ai part)]) rfl (by decide) dX11_raise_12 ?_
      refine v_aload (pc := 14) 1 rfl dX11_raise_14 ?_
      refine v_ifnull_r (pc := 16) dX11_raise_16 ?_
      refine v_aload (pc := 19) 0 rfl dX11_raise_19 ?_
      refine v_ifnull_n (pc := 21) 29 dX11_raise_21 (by decide) ?_
      refine v_ldc2 (pc := 29) (z := (-9223372036854775808)) (bw_mem 727 (by decide +kernel) rfl) dX11_raise_29 ?_
      exact hret (m, fa0) _ _ _ _ _ _ trivial (congrArg (fun z => some (al z)) (by unfold qRaise; (repeat' split) <;> first | rfl | (exfalso; omega) | omega)) rfl (Nat.le_of_ble_eq_true rfl) (Nat.le_of_ble_eq_true rfl) dX11_raise_32
  · skip
    refine v_callV (pc := 2) [] [0, 1] [(pi, co 4 (pO fa m)), (fa, cn 0 6 fa0)] (As := [ai one]) (rest := []) (c_X11_find_n mo kw pi ta ms pt po hi nw pls ins tap e3 e4 e5 e6 e7 e8 bar pv f one (by assumption) (by exact hp) (by first | omega | assumption)) (c := 11) rfl (Or.inl r0) wl_X11_99 wi_X11_find wv_X11_X11_find_X11_find wk_X11_find wz_X11 md_X11_find rfl (Nat.le_of_ble_eq_true rfl) ⟨Nat.le_of_ble_eq_true rfl, Nat.le_of_ble_eq_true rfl, Nat.le_of_ble_eq_true rfl, Nat.le_of_ble_eq_true rfl⟩ rfl rfl rfl rfl (by decide) (ro_cons (Or.inl r0) (ro_cons (Or.inl r1) (ro_cons (Or.inl r2) ro_nil))) dX11_raise_2 (fun u hu => ?_)
    show V x cX11_raise RX11 9 (rmU 5 136 0 0) [(pi, co 4 (pO fa m)), (fa, cn 0 6 fa0)] 5 [(0, ar mo), (1, ai one), (2, ai other), (3, ai n), (4, ai tries), (5, ai what), (6, ai part)] [an] 0 0
    refine v_astore (pc := 5) (L2 := [(7, an), (0, ar mo), (1, ai one), (2, ai other), (3, ai n), (4, ai tries), (5, ai what), (6, ai part)]) rfl (by decide) dX11_raise_5 ?_
    refine v_aload_n (pc := 7) 1 rfl dX11_raise_7 ?_
    refine v_iload_n (pc := 8) 3 rfl dX11_raise_8 ?_
    rcases Classical.em (0 ≤ other ∧ other ≤ f 0 - 1) with hpq | hpq
    · skip
      have hplb := hpv other hpq.1 hpq.2
      have rPb := hra _ (zpA_p (ta := ta) (pl := pl) (tu := tu) hpq)
      have rQb := hra _ (zpA_t (ta := ta) (pl := pl) (tu := tu) hpq)
      have hp6b : 0 ≤ other ∧ other < 6 := by omega
      obtain ⟨hppb, hf1b, hf2b, hf3b, hf4b, hf5b, hf6b, hf7b, hf8b⟩ := hSp other hp6b.1 hp6b.2
      refine v_callV (pc := 9) [] [0, 1] [(pi, co 4 (pO fa m)), (fa, cn 0 6 fa0)] (As := [ai other]) (rest := []) (c_X11_find_y mo kw pi ta ms pt po hi nw pls ins tap e3 e4 e5 e6 e7 e8 bar pv (pl other) f other (by assumption) (by exact hplb) (by exact hpq)) (c := 11) rfl (Or.inl r0) wl_X11_99 wi_X11_find wv_X11_X11_find_X11_find wk_X11_find wz_X11 md_X11_find rfl (Nat.le_of_ble_eq_true rfl) ⟨Nat.le_of_ble_eq_true rfl, Nat.le_of_ble_eq_true rfl, Nat.le_of_ble_eq_true rfl, Nat.le_of_ble_eq_true rfl⟩ rfl rfl rfl rfl (by decide) (ro_cons (Or.inl r0) (ro_cons (Or.inl r1) (ro_cons (Or.inl r2) ro_nil))) dX11_raise_9 (fun u hu => ?_)
      show V x cX11_raise RX11 9 (rmU 5 136 0 0) [(pi, co 4 (pO fa m)), (fa, cn 0 6 fa0)] 12 [(7, an), (0, ar mo), (1, ai one), (2, ai other), (3, ai n), (4, ai tries), (5, ai what), (6, ai part)] [ar (pl other)] 0 0
      refine v_astore (pc := 12) (L2 := [(8, ar (pl other)), (7, an), (0, ar mo), (1, ai one), (2, ai other), (3, ai n), (4, ai tries), (5, ai what), (6, ai part)]) rfl (by decide) dX11_raise_12 ?_
      refine v_aload (pc := 14) 1 rfl dX11_raise_14 ?_
      refine v_ifnull_n (pc := 16) 29 dX11_raise_16 (by decide) ?_
      refine v_ldc2 (pc := 29) (z := (-9223372036854775808)) (bw_mem 727 (by decide +kernel) rfl) dX11_raise_29 ?_
      exact hret (m, fa0) _ _ _ _ _ _ trivial (congrArg (fun z => some (al z)) (by unfold qRaise; (repeat' split) <;> first | rfl | (exfalso; omega) | omega)) rfl (Nat.le_of_ble_eq_true rfl) (Nat.le_of_ble_eq_true rfl) dX11_raise_32
    · skip
      refine v_callV (pc := 9) [] [0, 1] [(pi, co 4 (pO fa m)), (fa, cn 0 6 fa0)] (As := [ai other]) (rest := []) (c_X11_find_n mo kw pi ta ms pt po hi nw pls ins tap e3 e4 e5 e6 e7 e8 bar pv f other (by assumption) (by exact hpq) (by first | omega | assumption)) (c := 11) rfl (Or.inl r0) wl_X11_99 wi_X11_find wv_X11_X11_find_X11_find wk_X11_find wz_X11 md_X11_find rfl (Nat.le_of_ble_eq_true rfl) ⟨Nat.le_of_ble_eq_true rfl, Nat.le_of_ble_eq_true rfl, Nat.le_of_ble_eq_true rfl, Nat.le_of_ble_eq_true rfl⟩ rfl rfl rfl rfl (by decide) (ro_cons (Or.inl r0) (ro_cons (Or.inl r1) (ro_cons (Or.inl r2) ro_nil))) dX11_raise_9 (fun u hu => ?_)
      show V x cX11_raise RX11 9 (rmU 5 136 0 0) [(pi, co 4 (pO fa m)), (fa, cn 0 6 fa0)] 12 [(7, an), (0, ar mo), (1, ai one), (2, ai other), (3, ai n), (4, ai tries), (5, ai what), (6, ai part)] [an] 0 0
      refine v_astore (pc := 12) (L2 := [(8, an), (7, an), (0, ar mo), (1, ai one), (2, ai other), (3, ai n), (4, ai tries), (5, ai what), (6, ai part)]) rfl (by decide) dX11_raise_12 ?_
      refine v_aload (pc := 14) 1 rfl dX11_raise_14 ?_
      refine v_ifnull_n (pc := 16) 29 dX11_raise_16 (by decide) ?_
      refine v_ldc2 (pc := 29) (z := (-9223372036854775808)) (bw_mem 727 (by decide +kernel) rfl) dX11_raise_29 ?_
      exact hret (m, fa0) _ _ _ _ _ _ trivial (congrArg (fun z => some (al z)) (by unfold qRaise; (repeat' split) <;> first | rfl | (exfalso; omega) | omega)) rfl (Nat.le_of_ble_eq_true rfl) (Nat.le_of_ble_eq_true rfl) dX11_raise_32
