theorem flP_11_89 {kd : Int} (h : 0 ≤ kd ∧ kd ≤ 6) : FL RX11 89 (kC kd) 5 := by
  rcases (show kd = 0 ∨ kd = 1 ∨ kd = 2 ∨ kd = 3 ∨ kd = 4 ∨ kd = 5 ∨ kd = 6 by omega) with rfl | rfl | rfl | rfl | rfl | rfl | rfl
  · exact fl_11_89_5
  · exact fl_11_89_8
  · exact fl_11_89_0
  · exact fl_11_89_7
  · exact fl_11_89_1
  · exact fl_11_89_2
  · exact fl_11_89_9
set_option maxHeartbeats 4000000 in
set_option maxRecDepth 100000 in
theorem c_X11_would {gS : sG} (mo : Nat) (kw : Nat) (pi : Nat) (ta : Nat) (ms : Nat) (pt : Nat) (po : Nat) (hi : Int) (nw : Nat) (pls : Nat) (ins : Nat) (tap : Nat) (e3 : Nat) (e4 : Nat) (e5 : Nat) (e6 : Nat) (e7 : Nat) (e8 : Nat) (bar : Nat) (fa : Nat) (m : Nat → Int) (fa0 : Int → Int) (iv : Int → Option Nat) (hq : Nat) (ns : Int) (us : Int) (sla : Nat) (ena : Nat) (cda : Nat) (cd : Int → Int) (sl : Int → Int) (en : Int → Int) (pv : Int → Option Nat) (pl : Int → Nat) (tu : Int → Nat) (f : Int → Int) (player : Int) (n : Int) (force : Int) (draw : Int) (hS : SOK f) (hI : inC f iv bar hq ns us sl en cd) (hpv : ∀ i : Int, 0 ≤ i → i ≤ f 0 - 1 → pv i = some (pl i)) (hb_player : -2147483648 ≤ player ∧ player < 2147483648) (hb_n : -2147483648 ≤ n ∧ n < 2147483648) (hb_force : -2147483648 ≤ force ∧ force < 2147483648) (hb_draw : -2147483648 ≤ draw ∧ draw < 2147483648) : Ct gS (S := (Nat → Int) × (Int → Int)) yX11_would cX11_would 6 (some .int) 5 125 0 0 [ar mo, ai player, ai n, ai force, ai draw] [(pi, co 4 (pO fa m)), (fa, cn 0 6 fa0)] (fun q => q ∈ ([(mo, co 11 [ar nw, ar kw, ar pi, ar ta, ar ms, ar pt, ar po, ai hi]), (nw, co 10 [ar pls, ar ins, ar tap, ar e3, ar e4, ar e5, ar e6, ar e7, ar e8, ai (f 0), ai (f 1), ai (f 4), ai (f 2), ai (f 3), ai (f 6), ar bar]), (pls, cq 3 6 pv), (ins, cq 2 5 iv), (hq, co 3 [ai (kWide f), ai (kPay f), ai ns, ai us, ar sla, ar ena, ar cda]), (cda, cn 0 100 cd), (sla, cn 0 10 sl), (ena, cn 0 10 en)] : aW) ++ zpA ta f pl tu) (fun u => True) (fun u => some (ai (qWould f player n force draw))) (fun u => [(pi, co 4 (pO fa u.1)), (fa, cn 0 6 u.2)]) := by
  refine ct_I RX11 [(0, ar mo), (1, ai player), (2, ai n), (3, ai force), (4, ai draw)] (by decide) rfl (Nat.le_of_ble_eq_true rfl) rfl (fun x hgS hro hret => ?_)
  subst hgS
  have r0 := hro _ (List.mem_append_left _ (mem_at 0 rfl))
  have r1 := hro _ (List.mem_append_left _ (mem_at 1 rfl))
  have r2 := hro _ (List.mem_append_left _ (mem_at 2 rfl))
  have r3 := hro _ (List.mem_append_left _ (mem_at 3 rfl))
  have r4 := hro _ (List.mem_append_left _ (mem_at 4 rfl))
  have r5 := hro _ (List.mem_append_left _ (mem_at 5 rfl))
  have r6 := hro _ (List.mem_append_left _ (mem_at 6 rfl))
  have r7 := hro _ (List.mem_append_left _ (mem_at 7 rfl))
  have hra : ∀ q, q ∈ zpA ta f pl tu → Ro x q := fun q h => hro _ (List.mem_append_right _ h)
  obtain ⟨⟨hg0, hg1, hg2, hg3, hg4, hg5, hg6, hg7⟩, hSp, hSh, hSs, hSb, hSt, hSw⟩ := id hS
  show V x cX11_would RX11 6 (rmU 5 125 0 0) [(pi, co 4 (pO fa m)), (fa, cn 0 6 fa0)] 0 [(0, ar mo), (1, ai player), (2, ai n), (3, ai force), (4, ai draw)] [] 0 0
  refine v_aload_n (pc := 0) 0 rfl dX11_would_0 ?_
  refine v_iload_n (pc := 1) 1 rfl dX11_would_1 ?_
  rcases Classical.em (0 ≤ player ∧ player ≤ f 0 - 1) with hp | hp
  · skip
    have hpl := hpv player hp.1 hp.2
    have rP := hra _ (zpA_p (ta := ta) (pl := pl) (tu := tu) hp)
    have rQ := hra _ (zpA_t (ta := ta) (pl := pl) (tu := tu) hp)
    have hp6 : 0 ≤ player ∧ player < 6 := by omega
    obtain ⟨hpp, hf1, hf2, hf3, hf4, hf5, hf6, hf7, hf8⟩ := hSp player hp6.1 hp6.2
    refine v_callV (pc := 2) [] [0, 1] [(pi, co 4 (pO fa m)), (fa, cn 0 6 fa0)] (As := [ai player]) (rest := []) (c_X11_find_y mo kw pi ta ms pt po hi nw pls ins tap e3 e4 e5 e6 e7 e8 bar pv (pl player) f player (by assumption) (by exact hpl) (by exact hp)) (c := 11) rfl (Or.inl r0) wl_X11_99 wi_X11_find wv_X11_X11_find_X11_find wk_X11_find wz_X11 md_X11_find rfl (Nat.le_of_ble_eq_true rfl) ⟨Nat.le_of_ble_eq_true rfl, Nat.le_of_ble_eq_true rfl, Nat.le_of_ble_eq_true rfl, Nat.le_of_ble_eq_true rfl⟩ rfl rfl rfl rfl (by decide) (ro_cons (Or.inl r0) (ro_cons (Or.inl r1) (ro_cons (Or.inl r2) ro_nil))) dX11_would_2 (fun u hu => ?_)
    show V x cX11_would RX11 6 (rmU 5 125 0 0) [(pi, co 4 (pO fa m)), (fa, cn 0 6 fa0)] 5 [(0, ar mo), (1, ai player), (2, ai n), (3, ai force), (4, ai draw)] [ar (pl player)] 0 0
    refine v_astore (pc := 5) (L2 := [(5, ar (pl player)), (0, ar mo), (1, ai player), (2, ai n), (3, ai force), (4, ai draw)]) rfl (by decide) dX11_would_5 ?_
    refine v_aload (pc := 7) 0 rfl dX11_would_7 ?_
    refine v_ifnonnull_r (pc := 9) 14 dX11_would_9 (by decide) ?_
    refine v_iload_n (pc := 14) 3 rfl dX11_would_14 ?_
    refine v_callS (pc := 15) [] [0, 1] [(pi, co 4 (pO fa m)), (fa, cn 0 6 fa0)] (As := [ai n]) (rest := []) (c_X11_isNoPile n (by first | omega | assumption)) wl_X11_135 ws_X11_isNoPile wk_X11_isNoPile wz_X11 md_X11_isNoPile rfl (Nat.le_of_ble_eq_true rfl) ⟨Nat.le_of_ble_eq_true rfl, Nat.le_of_ble_eq_true rfl, Nat.le_of_ble_eq_true rfl, Nat.le_of_ble_eq_true rfl⟩ rfl rfl rfl rfl (by decide) ro_nil dX11_would_15 (fun u hu => ?_)
    show V x cX11_would RX11 6 (rmU 5 125 0 0) [(pi, co 4 (pO fa m)), (fa, cn 0 6 fa0)] 18 [(5, ar (pl player)), (0, ar mo), (1, ai player), (2, ai n), (3, ai force), (4, ai draw)] [ai (if n < 1 ∨ 99 < n then 1 else 0)] 0 0
    refine v_ifb_ne (pc := 18) 36 dX11_would_18 (by decide) (fun c_1 => ?_) (fun c_1 => ?_)
    · skip
      refine v_bipush (pc := 36) dX11_would_36 (by decide) ?_
      exact hret (m, fa0) _ _ _ _ _ _ trivial (congrArg (fun z => some (ai z)) (by unfold qWould; (repeat' split) <;> first | rfl | (exfalso; omega) | omega)) rfl (Nat.le_of_ble_eq_true rfl) (Nat.le_of_ble_eq_true rfl) dX11_would_38
    · skip
      refine v_iload_n (pc := 21) 4 rfl dX11_would_21 ?_
      refine v_callS (pc := 22) [] [0, 1] [(pi, co 4 (pO fa m)), (fa, cn 0 6 fa0)] (As := [ai force]) (rest := []) (c_X11_isNoForce force (by first | omega | assumption)) wl_X11_139 ws_X11_isNoForce wk_X11_isNoForce wz_X11 md_X11_isNoForce rfl (Nat.le_of_ble_eq_true rfl) ⟨Nat.le_of_ble_eq_true rfl, Nat.le_of_ble_eq_true rfl, Nat.le_of_ble_eq_true rfl, Nat.le_of_ble_eq_true rfl⟩ rfl rfl rfl rfl (by decide) ro_nil dX11_would_22 (fun u hu => ?_)
      show V x cX11_would RX11 6 (rmU 5 125 0 0) [(pi, co 4 (pO fa m)), (fa, cn 0 6 fa0)] 25 [(5, ar (pl player)), (0, ar mo), (1, ai player), (2, ai n), (3, ai force), (4, ai draw)] [ai (if force < 0 ∨ 20 < force then 1 else 0)] 0 0
      refine v_ifb_ne (pc := 25) 36 dX11_would_25 (by decide) (fun c_2 => ?_) (fun c_2 => ?_)
      · skip
        refine v_bipush (pc := 36) dX11_would_36 (by decide) ?_
        exact hret (m, fa0) _ _ _ _ _ _ trivial (congrArg (fun z => some (ai z)) (by unfold qWould; (repeat' split) <;> first | rfl | (exfalso; omega) | omega)) rfl (Nat.le_of_ble_eq_true rfl) (Nat.le_of_ble_eq_true rfl) dX11_would_38
      · skip
        refine v_iload (pc := 28) 5 rfl dX11_would_28 ?_
        refine v_callS (pc := 30) [] [0, 1] [(pi, co 4 (pO fa m)), (fa, cn 0 6 fa0)] (As := [ai draw]) (rest := []) (c_X11_isNoDraw draw (by first | omega | assumption)) wl_X11_153 ws_X11_isNoDraw wk_X11_isNoDraw wz_X11 md_X11_isNoDraw rfl (Nat.le_of_ble_eq_true rfl) ⟨Nat.le_of_ble_eq_true rfl, Nat.le_of_ble_eq_true rfl, Nat.le_of_ble_eq_true rfl, Nat.le_of_ble_eq_true rfl⟩ rfl rfl rfl rfl (by decide) ro_nil dX11_would_30 (fun u hu => ?_)
        show V x cX11_would RX11 6 (rmU 5 125 0 0) [(pi, co 4 (pO fa m)), (fa, cn 0 6 fa0)] 33 [(5, ar (pl player)), (0, ar mo), (1, ai player), (2, ai n), (3, ai force), (4, ai draw)] [ai (if draw < 0 ∨ 9 < draw then 1 else 0)] 0 0
        refine v_ifb_eq (pc := 33) 39 dX11_would_33 (by decide) (fun c_3 => ?_) (fun c_3 => ?_)
        · skip
          refine v_aload_n (pc := 39) 1 rfl dX11_would_39 ?_
          refine v_aload (pc := 40) 0 rfl dX11_would_40 ?_
          refine v_iload_n (pc := 42) 3 rfl dX11_would_42 ?_
          refine v_callV (pc := 43) [0, 1] [] [] (As := [ar (pl player), ai n]) (rest := []) (c_X11_lay mo kw pi ta ms pt po hi nw pls ins tap e3 e4 e5 e6 e7 e8 bar fa m fa0 iv hq ns us sla ena cda cd sl en (pl player) (tu player) f player n (by assumption) (by assumption) (by first | omega | assumption) (by first | omega | assumption)) (c := 11) rfl (Or.inl r0) wl_X11_142 wi_X11_lay wv_X11_X11_lay_X11_lay wk_X11_lay wz_X11 md_X11_lay rfl (Nat.le_of_ble_eq_true rfl) ⟨Nat.le_of_ble_eq_true rfl, Nat.le_of_ble_eq_true rfl, Nat.le_of_ble_eq_true rfl, Nat.le_of_ble_eq_true rfl⟩ rfl rfl rfl rfl (by decide) (ro_cons (Or.inl r0) (ro_cons (Or.inl r1) (ro_cons (Or.inl r3) (ro_cons (Or.inl r4) (ro_cons (Or.inl r5) (ro_cons (Or.inl r6) (ro_cons (Or.inl r7) (ro_cons (Or.inl rP) (ro_cons (Or.inl rQ) ro_nil))))))))) dX11_would_43 (fun u hu => ?_)
          obtain ⟨fa2_4, rfl⟩ : ∃ z, z = u := ⟨_, rfl⟩
          show V x cX11_would RX11 6 (rmU 5 125 0 0) [(pi, co 4 (pO fa (pMf f player n))), (fa, cn 0 6 fa2_4)] 46 [(5, ar (pl player)), (0, ar mo), (1, ai player), (2, ai n), (3, ai force), (4, ai draw)] [] 0 0
          refine v_aload_n (pc := 46) 1 rfl dX11_would_46 ?_
          refine v_get (pc := 47) (v := ar pi) 2 (Or.inl r0) fl_11_24_11 rfl dX11_would_47 ?_
          refine v_iload_n (pc := 50) 4 rfl dX11_would_50 ?_
          refine v_iload (pc := 51) 5 rfl dX11_would_51 ?_
          refine v_callV (pc := 53) [] [0, 1] [(pi, co 4 (pO fa (pMf f player n))), (fa, cn 0 6 fa2_4)] (As := [ai force, ai draw]) (rest := []) (c_F_caughtBy pi fa f player n force draw (by assumption) (by first | omega | assumption) (by first | omega | assumption) (by first | omega | assumption) (by first | omega | assumption)) (c := 4) rfl (Or.inr ⟨0, rfl⟩) wl_X11_156 wi_X4_caughtBy wv_X4_X4_caughtBy_X4_caughtBy wk_X4_caughtBy wz_X4 md_X4_caughtBy rfl (Nat.le_of_ble_eq_true rfl) ⟨Nat.le_of_ble_eq_true rfl, Nat.le_of_ble_eq_true rfl, Nat.le_of_ble_eq_true rfl, Nat.le_of_ble_eq_true rfl⟩ rfl rfl rfl rfl (by decide) (ro_cons (Or.inr ⟨0, rfl, by decide⟩) ro_nil) dX11_would_53 (fun u hu => ?_)
          show V x cX11_would RX11 6 (rmU 5 125 0 0) [(pi, co 4 (pO fa (pMf f player n))), (fa, cn 0 6 fa2_4)] 56 [(5, ar (pl player)), (0, ar mo), (1, ai player), (2, ai n), (3, ai force), (4, ai draw)] [ai (fCat f player n force draw (kOp f player n 0))] 0 0
          exact hret ((pMf f player n), fa2_4) _ _ _ _ _ _ trivial (congrArg (fun z => some (ai z)) (by unfold qWould; (repeat' split) <;> first | rfl | (exfalso; omega) | omega)) rfl (Nat.le_of_ble_eq_true rfl) (Nat.le_of_ble_eq_true rfl) dX11_would_56
        · skip
          refine v_bipush (pc := 36) dX11_would_36 (by decide) ?_
          exact hret (m, fa0) _ _ _ _ _ _ trivial (congrArg (fun z => some (ai z)) (by unfold qWould; (repeat' split) <;> first | rfl | (exfalso; omega) | omega)) rfl (Nat.le_of_ble_eq_true rfl) (Nat.le_of_ble_eq_true rfl) dX11_would_38
  · skip
    refine v_callV (pc := 2) [] [0, 1] [(pi, co 4 (pO fa m)), (fa, cn 0 6 fa0)] (As := [ai player]) (rest := []) (c_X11_find_n mo kw pi ta ms pt po hi nw pls ins tap e3 e4 e5 e6 e7 e8 bar pv f player (by assumption) (by exact hp) (by first | omega | assumption)) (c := 11) rfl (Or.inl r0) wl_X11_99 wi_X11_find wv_X11_X11_find_X11_find wk_X11_find wz_X11 md_X11_find rfl (Nat.le_of_ble_eq_true rfl) ⟨Nat.le_of_ble_eq_true rfl, Nat.le_of_ble_eq_true rfl, Nat.le_of_ble_eq_true rfl, Nat.le_of_ble_eq_true rfl⟩ rfl rfl rfl rfl (by decide) (ro_cons (Or.inl r0) (ro_cons (Or.inl r1) (ro_cons (Or.inl r2) ro_nil))) dX11_would_2 (fun u hu => ?_)
    show V x cX11_would RX11 6 (rmU 5 125 0 0) [(pi, co 4 (pO fa m)), (fa, cn 0 6 fa0)] 5 [(0, ar mo), (1, ai player), (2, ai n), (3, ai force), (4, ai draw)] [an] 0 0
    refine v_astore (pc := 5) (L2 := [(5, an), (0, ar mo), (1, ai player), (2, ai n), (3, ai force), (4, ai draw)]) rfl (by decide) dX11_would_5 ?_
    refine v_aload (pc := 7) 0 rfl dX11_would_7 ?_
    refine v_ifnonnull_n (pc := 9) dX11_would_9 ?_
    refine v_iconst (pc := 12) dX11_would_12 ?_
    exact hret (m, fa0) _ _ _ _ _ _ trivial (congrArg (fun z => some (ai z)) (by unfold qWould; (repeat' split) <;> first | rfl | (exfalso; omega) | omega)) rfl (Nat.le_of_ble_eq_true rfl) (Nat.le_of_ble_eq_true rfl) dX11_would_13
set_option maxHeartbeats 4000000 in
set_option maxRecDepth 100000 in
theorem c_X11_odds {gS : sG} (mo : Nat) (kw : Nat) (pi : Nat) (ta : Nat) (ms : Nat) (pt : Nat) (po : Nat) (hi : Int) (nw : Nat) (pls : Nat) (ins : Nat) (tap : Nat) (e3 : Nat) (e4 : Nat) (e5 : Nat) (e6 : Nat) (e7 : Nat) (e8 : Nat) (bar : Nat) (fa : Nat) (m : Nat → Int) (fa0 : Int → Int) (iv : Int → Option Nat) (hq : Nat) (ns : Int) (us : Int) (sla : Nat) (ena : Nat) (cda : Nat) (cd : Int → Int) (sl : Int → Int) (en : Int → Int) (pv : Int → Option Nat) (pl : Int → Nat) (tu : Int → Nat) (f : Int → Int) (player : Int) (n : Int) (force : Int) (hS : SOK f) (hI : inC f iv bar hq ns us sl en cd) (hpv : ∀ i : Int, 0 ≤ i → i ≤ f 0 - 1 → pv i = some (pl i)) (hb_player : -2147483648 ≤ player ∧ player < 2147483648) (hb_n : -2147483648 ≤ n ∧ n < 2147483648) (hb_force : -2147483648 ≤ force ∧ force < 2147483648) : Ct gS (S := (Nat → Int) × (Int → Int)) yX11_odds cX11_odds 5 (some .int) 5 125 0 0 [ar mo, ai player, ai n, ai force] [(pi, co 4 (pO fa m)), (fa, cn 0 6 fa0)] (fun q => q ∈ ([(mo, co 11 [ar nw, ar kw, ar pi, ar ta, ar ms, ar pt, ar po, ai hi]), (nw, co 10 [ar pls, ar ins, ar tap, ar e3, ar e4, ar e5, ar e6, ar e7, ar e8, ai (f 0), ai (f 1), ai (f 4), ai (f 2), ai (f 3), ai (f 6), ar bar]), (pls, cq 3 6 pv), (ins, cq 2 5 iv), (hq, co 3 [ai (kWide f), ai (kPay f), ai ns, ai us, ar sla, ar ena, ar cda]), (cda, cn 0 100 cd), (sla, cn 0 10 sl), (ena, cn 0 10 en)] : aW) ++ zpA ta f pl tu) (fun u => True) (fun u => some (ai (qOdds f player n force))) (fun u => [(pi, co 4 (pO fa u.1)), (fa, cn 0 6 u.2)]) := by
  refine ct_I RX11 [(0, ar mo), (1, ai player), (2, ai n), (3, ai force)] (by decide) rfl (Nat.le_of_ble_eq_true rfl) rfl (fun x hgS hro hret => ?_)
  subst hgS
  have r0 := hro _ (List.mem_append_left _ (mem_at 0 rfl))
  have r1 := hro _ (List.mem_append_left _ (mem_at 1 rfl))
  have r2 := hro _ (List.mem_append_left _ (mem_at 2 rfl))
  have r3 := hro _ (List.mem_append_left _ (mem_at 3 rfl))
  have r4 := hro _ (List.mem_append_left _ (mem_at 4 rfl))
  have r5 := hro _ (List.mem_append_left _ (mem_at 5 rfl))
  have r6 := hro _ (List.mem_append_left _ (mem_at 6 rfl))
  have r7 := hro _ (List.mem_append_left _ (mem_at 7 rfl))
  have hra : ∀ q, q ∈ zpA ta f pl tu → Ro x q := fun q h => hro _ (List.mem_append_right _ h)
  obtain ⟨⟨hg0, hg1, hg2, hg3, hg4, hg5, hg6, hg7⟩, hSp, hSh, hSs, hSb, hSt, hSw⟩ := id hS
  show V x cX11_odds RX11 5 (rmU 5 125 0 0) [(pi, co 4 (pO fa m)), (fa, cn 0 6 fa0)] 0 [(0, ar mo), (1, ai player), (2, ai n), (3, ai force)] [] 0 0
  refine v_aload_n (pc := 0) 0 rfl dX11_odds_0 ?_
  refine v_iload_n (pc := 1) 1 rfl dX11_odds_1 ?_
  rcases Classical.em (0 ≤ player ∧ player ≤ f 0 - 1) with hp | hp
  · skip
    have hpl := hpv player hp.1 hp.2
    have rP := hra _ (zpA_p (ta := ta) (pl := pl) (tu := tu) hp)
    have rQ := hra _ (zpA_t (ta := ta) (pl := pl) (tu := tu) hp)
    have hp6 : 0 ≤ player ∧ player < 6 := by omega
    obtain ⟨hpp, hf1, hf2, hf3, hf4, hf5, hf6, hf7, hf8⟩ := hSp player hp6.1 hp6.2
    refine v_callV (pc := 2) [] [0, 1] [(pi, co 4 (pO fa m)), (fa, cn 0 6 fa0)] (As := [ai player]) (rest := []) (c_X11_find_y mo kw pi ta ms pt po hi nw pls ins tap e3 e4 e5 e6 e7 e8 bar pv (pl player) f player (by assumption) (by exact hpl) (by exact hp)) (c := 11) rfl (Or.inl r0) wl_X11_99 wi_X11_find wv_X11_X11_find_X11_find wk_X11_find wz_X11 md_X11_find rfl (Nat.le_of_ble_eq_true rfl) ⟨Nat.le_of_ble_eq_true rfl, Nat.le_of_ble_eq_true rfl, Nat.le_of_ble_eq_true rfl, Nat.le_of_ble_eq_true rfl⟩ rfl rfl rfl rfl (by decide) (ro_cons (Or.inl r0) (ro_cons (Or.inl r1) (ro_cons (Or.inl r2) ro_nil))) dX11_odds_2 (fun u hu => ?_)
    show V x cX11_odds RX11 5 (rmU 5 125 0 0) [(pi, co 4 (pO fa m)), (fa, cn 0 6 fa0)] 5 [(0, ar mo), (1, ai player), (2, ai n), (3, ai force)] [ar (pl player)] 0 0
    refine v_astore (pc := 5) (L2 := [(4, ar (pl player)), (0, ar mo), (1, ai player), (2, ai n), (3, ai force)]) rfl (by decide) dX11_odds_5 ?_
    refine v_aload (pc := 7) 0 rfl dX11_odds_7 ?_
    refine v_ifnonnull_r (pc := 9) 14 dX11_odds_9 (by decide) ?_
    refine v_iload_n (pc := 14) 3 rfl dX11_odds_14 ?_
    refine v_callS (pc := 15) [] [0, 1] [(pi, co 4 (pO fa m)), (fa, cn 0 6 fa0)] (As := [ai n]) (rest := []) (c_X11_isNoPile n (by first | omega | assumption)) wl_X11_135 ws_X11_isNoPile wk_X11_isNoPile wz_X11 md_X11_isNoPile rfl (Nat.le_of_ble_eq_true rfl) ⟨Nat.le_of_ble_eq_true rfl, Nat.le_of_ble_eq_true rfl, Nat.le_of_ble_eq_true rfl, Nat.le_of_ble_eq_true rfl⟩ rfl rfl rfl rfl (by decide) ro_nil dX11_odds_15 (fun u hu => ?_)
    show V x cX11_odds RX11 5 (rmU 5 125 0 0) [(pi, co 4 (pO fa m)), (fa, cn 0 6 fa0)] 18 [(4, ar (pl player)), (0, ar mo), (1, ai player), (2, ai n), (3, ai force)] [ai (if n < 1 ∨ 99 < n then 1 else 0)] 0 0
    refine v_ifb_ne (pc := 18) 28 dX11_odds_18 (by decide) (fun c_1 => ?_) (fun c_1 => ?_)
    · skip
      refine v_bipush (pc := 28) dX11_odds_28 (by decide) ?_
      exact hret (m, fa0) _ _ _ _ _ _ trivial (congrArg (fun z => some (ai z)) (by unfold qOdds; (repeat' split) <;> first | rfl | (exfalso; omega) | omega)) rfl (Nat.le_of_ble_eq_true rfl) (Nat.le_of_ble_eq_true rfl) dX11_odds_30
    · skip
      refine v_iload_n (pc := 21) 4 rfl dX11_odds_21 ?_
      refine v_callS (pc := 22) [] [0, 1] [(pi, co 4 (pO fa m)), (fa, cn 0 6 fa0)] (As := [ai force]) (rest := []) (c_X11_isNoForce force (by first | omega | assumption)) wl_X11_139 ws_X11_isNoForce wk_X11_isNoForce wz_X11 md_X11_isNoForce rfl (Nat.le_of_ble_eq_true rfl) ⟨Nat.le_of_ble_eq_true rfl, Nat.le_of_ble_eq_true rfl, Nat.le_of_ble_eq_true rfl, Nat.le_of_ble_eq_true rfl⟩ rfl rfl rfl rfl (by decide) ro_nil dX11_odds_22 (fun u hu => ?_)
      show V x cX11_odds RX11 5 (rmU 5 125 0 0) [(pi, co 4 (pO fa m)), (fa, cn 0 6 fa0)] 25 [(4, ar (pl player)), (0, ar mo), (1, ai player), (2, ai n), (3, ai force)] [ai (if force < 0 ∨ 20 < force then 1 else 0)] 0 0
      refine v_ifb_eq (pc := 25) 31 dX11_odds_25 (by decide) (fun c_2 => ?_) (fun c_2 => ?_)
      · skip
        refine v_aload_n (pc := 31) 1 rfl dX11_odds_31 ?_
        refine v_aload (pc := 32) 0 rfl dX11_odds_32 ?_
        refine v_iload_n (pc := 34) 3 rfl dX11_odds_34 ?_
        refine v_callV (pc := 35) [0, 1] [] [] (As := [ar (pl player), ai n]) (rest := []) (c_X11_lay mo kw pi ta ms pt po hi nw pls ins tap e3 e4 e5 e6 e7 e8 bar fa m fa0 iv hq ns us sla ena cda cd sl en (pl player) (tu player) f player n (by assumption) (by assumption) (by first | omega | assumption) (by first | omega | assumption)) (c := 11) rfl (Or.inl r0) wl_X11_142 wi_X11_lay wv_X11_X11_lay_X11_lay wk_X11_lay wz_X11 md_X11_lay rfl (Nat.le_of_ble_eq_true rfl) ⟨Nat.le_of_ble_eq_true rfl, Nat.le_of_ble_eq_true rfl, Nat.le_of_ble_eq_true rfl, Nat.le_of_ble_eq_true rfl⟩ rfl rfl rfl rfl (by decide) (ro_cons (Or.inl r0) (ro_cons (Or.inl r1) (ro_cons (Or.inl r3) (ro_cons (Or.inl r4) (ro_cons (Or.inl r5) (ro_cons (Or.inl r6) (ro_cons (Or.inl r7) (ro_cons (Or.inl rP) (ro_cons (Or.inl rQ) ro_nil))))))))) dX11_odds_35 (fun u hu => ?_)
        obtain ⟨fa2_3, rfl⟩ : ∃ z, z = u := ⟨_, rfl⟩
        show V x cX11_odds RX11 5 (rmU 5 125 0 0) [(pi, co 4 (pO fa (pMf f player n))), (fa, cn 0 6 fa2_3)] 38 [(4, ar (pl player)), (0, ar mo), (1, ai player), (2, ai n), (3, ai force)] [] 0 0
        refine v_aload_n (pc := 38) 1 rfl dX11_odds_38 ?_
        refine v_get (pc := 39) (v := ar pi) 2 (Or.inl r0) fl_11_24_11 rfl dX11_odds_39 ?_
        refine v_iload_n (pc := 42) 4 rfl dX11_odds_42 ?_
        refine v_callV (pc := 43) [] [0, 1] [(pi, co 4 (pO fa (pMf f player n))), (fa, cn 0 6 fa2_3)] (As := [ai force]) (rest := []) (c_F_oddsBy pi fa f player n force (by assumption) (by first | omega | assumption) (by first | omega | assumption) (by first | omega | assumption)) (c := 4) rfl (Or.inr ⟨0, rfl⟩) wl_X11_163 wi_X4_oddsBy wv_X4_X4_oddsBy_X4_oddsBy wk_X4_oddsBy wz_X4 md_X4_oddsBy rfl (Nat.le_of_ble_eq_true rfl) ⟨Nat.le_of_ble_eq_true rfl, Nat.le_of_ble_eq_true rfl, Nat.le_of_ble_eq_true rfl, Nat.le_of_ble_eq_true rfl⟩ rfl rfl rfl rfl (by decide) (ro_cons (Or.inr ⟨0, rfl, by decide⟩) ro_nil) dX11_odds_43 (fun u hu => ?_)
        show V x cX11_odds RX11 5 (rmU 5 125 0 0) [(pi, co 4 (pO fa (pMf f player n))), (fa, cn 0 6 fa2_3)] 46 [(4, ar (pl player)), (0, ar mo), (1, ai player), (2, ai n), (3, ai force)] [ai (fAll f player n force (kOp f player n 0))] 0 0
        exact hret ((pMf f player n), fa2_3) _ _ _ _ _ _ trivial (congrArg (fun z => some (ai z)) (by unfold qOdds; (repeat' split) <;> first | rfl | (exfalso; omega) | omega)) rfl (Nat.le_of_ble_eq_true rfl) (Nat.le_of_ble_eq_true rfl) dX11_odds_46
      · skip
        refine v_bipush (pc := 28) dX11_odds_28 (by decide) ?_
        exact hret (m, fa0) _ _ _ _ _ _ trivial (congrArg (fun z => some (ai z)) (by unfold qOdds; (repeat' split) <;> first | rfl | (exfalso; omega) | omega)) rfl (Nat.le_of_ble_eq_true rfl) (Nat.le_of_ble_eq_true rfl) dX11_odds_30
  · skip
    refine v_callV (pc := 2) [] [0, 1] [(pi, co 4 (pO fa m)), (fa, cn 0 6 fa0)] (As := [ai player]) (rest := []) (c_X11_find_n mo kw pi ta ms pt po hi nw pls ins tap e3 e4 e5 e6 e7 e8 bar pv f player (by assumption) (by exact hp) (by first | omega | assumption)) (c := 11) rfl (Or.inl r0) wl_X11_99 wi_X11_find wv_X11_X11_find_X11_find wk_X11_find wz_X11 md_X11_find rfl (Nat.le_of_ble_eq_true rfl) ⟨Nat.le_of_ble_eq_true rfl, Nat.le_of_ble_eq_true rfl, Nat.le_of_ble_eq_true rfl, Nat.le_of_ble_eq_true rfl⟩ rfl rfl rfl rfl (by decide) (ro_cons (Or.inl r0) (ro_cons (Or.inl r1) (ro_cons (Or.inl r2) ro_nil))) dX11_odds_2 (fun u hu => ?_)
    show V x cX11_odds RX11 5 (rmU 5 125 0 0) [(pi, co 4 (pO fa m)), (fa, cn 0 6 fa0)] 5 [(0, ar mo), (1, ai player), (2, ai n), (3, ai force)] [an] 0 0
    refine v_astore (pc := 5) (L2 := [(4, an), (0, ar mo), (1, ai player), (2, ai n), (3, ai force)]) rfl (by decide) dX11_odds_5 ?_
    refine v_aload (pc := 7) 0 rfl dX11_odds_7 ?_
    refine v_ifnonnull_n (pc := 9) dX11_odds_9 ?_
    refine v_iconst (pc := 12) dX11_odds_12 ?_
    exact hret (m, fa0) _ _ _ _ _ _ trivial (congrArg (fun z => some (ai z)) (by unfold qOdds; (repeat' split) <;> first | rfl | (exfalso; omega) | omega)) rfl (Nat.le_of_ble_eq_true rfl) (Nat.le_of_ble_eq_true rfl) dX11_odds_13
set_option maxHeartbeats 4000000 in
set_option maxRecDepth 100000 in
theorem c_X11_mean {gS : sG} (mo : Nat) (kw : Nat) (pi : Nat) (ta : Nat) (ms : Nat) (pt : Nat) (po : Nat) (hi : Int) (nw : Nat) (pls : Nat) (ins : Nat) (tap : Nat) (e3 : Nat) (e4 : Nat) (e5 : Nat) (e6 : Nat) (e7 : Nat) (e8 : Nat) (bar : Nat) (fa : Nat) (m : Nat → Int) (fa0 : Int → Int) (iv : Int → Option Nat) (hq : Nat) (ns : Int) (us : Int) (sla : Nat) (ena : Nat) (cda : Nat) (cd : Int → Int) (sl : Int → Int) (en : Int → Int) (pv : Int → Option Nat) (pl : Int → Nat) (tu : Int → Nat) (f : Int → Int) (player : Int) (n : Int) (force : Int) (part : Int) (hS : SOK f) (hI : inC f iv bar hq ns us sl en cd) (hpv : ∀ i : Int, 0 ≤ i → i ≤ f 0 - 1 → pv i = some (pl i)) (hb_player : -2147483648 ≤ player ∧ player < 2147483648) (hb_n : -2147483648 ≤ n ∧ n < 2147483648) (hb_force : -2147483648 ≤ force ∧ force < 2147483648) (hb_part : -2147483648 ≤ part ∧ part < 2147483648) : Ct gS (S := (Nat → Int) × (Int → Int)) yX11_mean cX11_mean 6 (some .long) 5 125 0 0 [ar mo, ai player, ai n, ai force, ai part] [(pi, co 4 (pO fa m)), (fa, cn 0 6 fa0)] (fun q => q ∈ ([(mo, co 11 [ar nw, ar kw, ar pi, ar ta, ar ms, ar pt, ar po, ai hi]), (nw, co 10 [ar pls, ar ins, ar tap, ar e3, ar e4, ar e5, ar e6, ar e7, ar e8, ai (f 0), ai (f 1), ai (f 4), ai (f 2), ai (f 3), ai (f 6), ar bar]), (pls, cq 3 6 pv), (ins, cq 2 5 iv), (hq, co 3 [ai (kWide f), ai (kPay f), ai ns, ai us, ar sla, ar ena, ar cda]), (cda, cn 0 100 cd), (sla, cn 0 10 sl), (ena, cn 0 10 en)] : aW) ++ zpA ta f pl tu) (fun u => True) (fun u => some (al (qMean f player n force part))) (fun u => [(pi, co 4 (pO fa u.1)), (fa, cn 0 6 u.2)]) := by
  refine ct_L RX11 [(0, ar mo), (1, ai player), (2, ai n), (3, ai force), (4, ai part)] (by decide) rfl (Nat.le_of_ble_eq_true rfl) rfl (fun x hgS hro hret => ?_)
  subst hgS
  have r0 := hro _ (List.mem_append_left _ (mem_at 0 rfl))
  have r1 := hro _ (List.mem_append_left _ (mem_at 1 rfl))
  have r2 := hro _ (List.mem_append_left _ (mem_at 2 rfl))
  have r3 := hro _ (List.mem_append_left _ (mem_at 3 rfl))
  have r4 := hro _ (List.mem_append_left _ (mem_at 4 rfl))
  have r5 := hro _ (List.mem_append_left _ (mem_at 5 rfl))
  have r6 := hro _ (List.mem_append_left _ (mem_at 6 rfl))
  have r7 := hro _ (List.mem_append_left _ (mem_at 7 rfl))
  have hra : ∀ q, q ∈ zpA ta f pl tu → Ro x q := fun q h => hro _ (List.mem_append_right _ h)
  obtain ⟨⟨hg0, hg1, hg2, hg3, hg4, hg5, hg6, hg7⟩, hSp, hSh, hSs, hSb, hSt, hSw⟩ := id hS
  show V x cX11_mean RX11 6 (rmU 5 125 0 0) [(pi, co 4 (pO fa m)), (fa, cn 0 6 fa0)] 0 [(0, ar mo), (1, ai player), (2, ai n), (3, ai force), (4, ai part)] [] 0 0
  refine v_aload_n (pc := 0) 0 rfl dX11_mean_0 ?_
  refine v_iload_n (pc := 1) 1 rfl dX11_mean_1 ?_
  rcases Classical.em (0 ≤ player ∧ player ≤ f 0 - 1) with hp | hp
  · skip
    have hpl := hpv player hp.1 hp.2
    have rP := hra _ (zpA_p (ta := ta) (pl := pl) (tu := tu) hp)
    have rQ := hra _ (zpA_t (ta := ta) (pl := pl) (tu := tu) hp)
    have hp6 : 0 ≤ player ∧ player < 6 := by omega
    obtain ⟨hpp, hf1, hf2, hf3, hf4, hf5, hf6, hf7, hf8⟩ := hSp player hp6.1 hp6.2
    refine v_callV (pc := 2) [] [0, 1] [(pi, co 4 (pO fa m)), (fa, cn 0 6 fa0)] (As := [ai player]) (rest := []) (c_X11_find_y mo kw pi ta ms pt po hi nw pls ins tap e3 e4 e5 e6 e7 e8 bar pv (pl player) f player (by assumption) (by exact hpl) (by exact hp)) (c := 11) rfl (Or.inl r0) wl_X11_99 wi_X11_find wv_X11_X11_find_X11_find wk_X11_find wz_X11 md_X11_find rfl (Nat.le_of_ble_eq_true rfl) ⟨Nat.le_of_ble_eq_true rfl, Nat.le_of_ble_eq_true rfl, Nat.le_of_ble_eq_true rfl, Nat.le_of_ble_eq_true rfl⟩ rfl rfl rfl rfl (by decide) (ro_cons (Or.inl r0) (ro_cons (Or.inl r1) (ro_cons (Or.inl r2) ro_nil))) dX11_mean_2 (fun u hu => ?_)
    show V x cX11_mean RX11 6 (rmU 5 125 0 0) [(pi, co 4 (pO fa m)), (fa, cn 0 6 fa0)] 5 [(0, ar mo), (1, ai player), (2, ai n), (3, ai force), (4, ai part)] [ar (pl player)] 0 0
    refine v_astore (pc := 5) (L2 := [(5, ar (pl player)), (0, ar mo), (1, ai player), (2, ai n), (3, ai force), (4, ai part)]) rfl (by decide) dX11_mean_5 ?_
    refine v_aload (pc := 7) 0 rfl dX11_mean_7 ?_
    refine v_ifnull_r (pc := 9) dX11_mean_9 ?_
    refine v_iload_n (pc := 12) 3 rfl dX11_mean_12 ?_
    refine v_callS (pc := 13) [] [0, 1] [(pi, co 4 (pO fa m)), (fa, cn 0 6 fa0)] (As := [ai n]) (rest := []) (c_X11_isNoPile n (by first | omega | assumption)) wl_X11_135 ws_X11_isNoPile wk_X11_isNoPile wz_X11 md_X11_isNoPile rfl (Nat.le_of_ble_eq_true rfl) ⟨Nat.le_of_ble_eq_true rfl, Nat.le_of_ble_eq_true rfl, Nat.le_of_ble_eq_true rfl, Nat.le_of_ble_eq_true rfl⟩ rfl rfl rfl rfl (by decide) ro_nil dX11_mean_13 (fun u hu => ?_)
    show V x cX11_mean RX11 6 (rmU 5 125 0 0) [(pi, co 4 (pO fa m)), (fa, cn 0 6 fa0)] 16 [(5, ar (pl player)), (0, ar mo), (1, ai player), (2, ai n), (3, ai force), (4, ai part)] [ai (if n < 1 ∨ 99 < n then 1 else 0)] 0 0
    refine v_ifb_ne (pc := 16) 34 dX11_mean_16 (by decide) (fun c_1 => ?_) (fun c_1 => ?_)
    · skip
      refine v_ldc2 (pc := 34) (z := (-9223372036854775808)) (bw_mem 727 (by decide +kernel) rfl) dX11_mean_34 ?_
      exact hret (m, fa0) _ _ _ _ _ _ trivial (congrArg (fun z => some (al z)) (by unfold qMean; (repeat' split) <;> first | rfl | (exfalso; omega) | omega)) rfl (Nat.le_of_ble_eq_true rfl) (Nat.le_of_ble_eq_true rfl) dX11_mean_37
    · skip
      refine v_iload_n (pc := 19) 4 rfl dX11_mean_19 ?_
      refine v_callS (pc := 20) [] [0, 1] [(pi, co 4 (pO fa m)), (fa, cn 0 6 fa0)] (As := [ai force]) (rest := []) (c_X11_isNoForce force (by first | omega | assumption)) wl_X11_139 ws_X11_isNoForce wk_X11_isNoForce wz_X11 md_X11_isNoForce rfl (Nat.le_of_ble_eq_true rfl) ⟨Nat.le_of_ble_eq_true rfl, Nat.le_of_ble_eq_true rfl, Nat.le_of_ble_eq_true rfl, Nat.le_of_ble_eq_true rfl⟩ rfl rfl rfl rfl (by decide) ro_nil dX11_mean_20 (fun u hu => ?_)
      show V x cX11_mean RX11 6 (rmU 5 125 0 0) [(pi, co 4 (pO fa m)), (fa, cn 0 6 fa0)] 23 [(5, ar (pl player)), (0, ar mo), (1, ai player), (2, ai n), (3, ai force), (4, ai part)] [ai (if force < 0 ∨ 20 < force then 1 else 0)] 0 0
      refine v_ifb_ne (pc := 23) 34 dX11_mean_23 (by decide) (fun c_2 => ?_) (fun c_2 => ?_)
      · skip
        refine v_ldc2 (pc := 34) (z := (-9223372036854775808)) (bw_mem 727 (by decide +kernel) rfl) dX11_mean_34 ?_
        exact hret (m, fa0) _ _ _ _ _ _ trivial (congrArg (fun z => some (al z)) (by unfold qMean; (repeat' split) <;> first | rfl | (exfalso; omega) | omega)) rfl (Nat.le_of_ble_eq_true rfl) (Nat.le_of_ble_eq_true rfl) dX11_mean_37
      · skip
        refine v_iload (pc := 26) 5 rfl dX11_mean_26 ?_
        refine v_callS (pc := 28) [] [0, 1] [(pi, co 4 (pO fa m)), (fa, cn 0 6 fa0)] (As := [ai part]) (rest := []) (c_X11_isNoPart part (by first | omega | assumption)) wl_X11_166 ws_X11_isNoPart wk_X11_isNoPart wz_X11 md_X11_isNoPart rfl (Nat.le_of_ble_eq_true rfl) ⟨Nat.le_of_ble_eq_true rfl, Nat.le_of_ble_eq_true rfl, Nat.le_of_ble_eq_true rfl, Nat.le_of_ble_eq_true rfl⟩ rfl rfl rfl rfl (by decide) ro_nil dX11_mean_28 (fun u hu => ?_)
        show V x cX11_mean RX11 6 (rmU 5 125 0 0) [(pi, co 4 (pO fa m)), (fa, cn 0 6 fa0)] 31 [(5, ar (pl player)), (0, ar mo), (1, ai player), (2, ai n), (3, ai force), (4, ai part)] [ai (if part < 0 ∨ 1 < part then 1 else 0)] 0 0
        refine v_ifb_eq (pc := 31) 38 dX11_mean_31 (by decide) (fun c_3 => ?_) (fun c_3 => ?_)
        · skip
          refine v_aload_n (pc := 38) 1 rfl dX11_mean_38 ?_
          refine v_aload (pc := 39) 0 rfl dX11_mean_39 ?_
          refine v_iload_n (pc := 41) 3 rfl dX11_mean_41 ?_
          refine v_callV (pc := 42) [0, 1] [] [] (As := [ar (pl player), ai n]) (rest := []) (c_X11_lay mo kw pi ta ms pt po hi nw pls ins tap e3 e4 e5 e6 e7 e8 bar fa m fa0 iv hq ns us sla ena cda cd sl en (pl player) (tu player) f player n (by assumption) (by assumption) (by first | omega | assumption) (by first | omega | assumption)) (c := 11) rfl (Or.inl r0) wl_X11_142 wi_X11_lay wv_X11_X11_lay_X11_lay wk_X11_lay wz_X11 md_X11_lay rfl (Nat.le_of_ble_eq_true rfl) ⟨Nat.le_of_ble_eq_true rfl, Nat.le_of_ble_eq_true rfl, Nat.le_of_ble_eq_true rfl, Nat.le_of_ble_eq_true rfl⟩ rfl rfl rfl rfl (by decide) (ro_cons (Or.inl r0) (ro_cons (Or.inl r1) (ro_cons (Or.inl r3) (ro_cons (Or.inl r4) (ro_cons (Or.inl r5) (ro_cons (Or.inl r6) (ro_cons (Or.inl r7) (ro_cons (Or.inl rP) (ro_cons (Or.inl rQ) ro_nil))))))))) dX11_mean_42 (fun u hu => ?_)
          obtain ⟨fa2_4, rfl⟩ : ∃ z, z = u := ⟨_, rfl⟩
          show V x cX11_mean RX11 6 (rmU 5 125 0 0) [(pi, co 4 (pO fa (pMf f player n))), (fa, cn 0 6 fa2_4)] 45 [(5, ar (pl player)), (0, ar mo), (1, ai player), (2, ai n), (3, ai force), (4, ai part)] [] 0 0
          refine v_aload_n (pc := 45) 1 rfl dX11_mean_45 ?_
          refine v_get (pc := 46) (v := ar pi) 2 (Or.inl r0) fl_11_24_11 rfl dX11_mean_46 ?_
          refine v_iload_n (pc := 49) 4 rfl dX11_mean_49 ?_
          refine v_callV (pc := 50) [] [0, 1] [(pi, co 4 (pO fa (pMf f player n))), (fa, cn 0 6 fa2_4)] (As := [ai force]) (rest := []) (c_F_caughtByAllDraws pi fa f player n force (by assumption) (by first | omega | assumption) (by first | omega | assumption) (by first | omega | assumption)) (c := 4) rfl (Or.inr ⟨0, rfl⟩) wl_X11_171 wi_X4_caughtByAllDraws wv_X4_X4_caughtByAllDraws_X4_caughtByAllDraws wk_X4_caughtByAllDraws wz_X4 md_X4_caughtByAllDraws rfl (Nat.le_of_ble_eq_true rfl) ⟨Nat.le_of_ble_eq_true rfl, Nat.le_of_ble_eq_true rfl, Nat.le_of_ble_eq_true rfl, Nat.le_of_ble_eq_true rfl⟩ rfl rfl rfl rfl (by decide) (ro_cons (Or.inr ⟨0, rfl, by decide⟩) ro_nil) dX11_mean_50 (fun u hu => ?_)
          show V x cX11_mean RX11 6 (rmU 5 125 0 0) [(pi, co 4 (pO fa (pMf f player n))), (fa, cn 0 6 fa2_4)] 53 [(5, ar (pl player)), (0, ar mo), (1, ai player), (2, ai n), (3, ai force), (4, ai part)] [ai (fSum f player n force 10)] 0 0
          have hsb := fSum_b (f := f) (p := player) (n := n) (force := force) (by omega) 10
          refine v_i2l (pc := 53) (by unfold iB; omega) dX11_mean_53 ?_
          refine v_ldc2 (pc := 54) (z := 10) (bw_mem 733 (by decide +kernel) rfl) dX11_mean_54 ?_
          refine v_iload (pc := 57) 5 rfl dX11_mean_57 ?_
          refine v_callS (pc := 59) [] [0, 1] [(pi, co 4 (pO fa (pMf f player n))), (fa, cn 0 6 fa2_4)] (As := [al (fSum f player n force 10), al 10, ai part]) (rest := []) (c_X11_lowest (fSum f player n force 10) 10 part (by first | omega | assumption) (by first | omega | assumption) (by first | omega | assumption)) wl_X11_176 ws_X11_lowest wk_X11_lowest wz_X11 md_X11_lowest rfl (Nat.le_of_ble_eq_true rfl) ⟨Nat.le_of_ble_eq_true rfl, Nat.le_of_ble_eq_true rfl, Nat.le_of_ble_eq_true rfl, Nat.le_of_ble_eq_true rfl⟩ rfl rfl rfl rfl (by decide) ro_nil dX11_mean_59 (fun u hu => ?_)
          show V x cX11_mean RX11 6 (rmU 5 125 0 0) [(pi, co 4 (pO fa (pMf f player n))), (fa, cn 0 6 fa2_4)] 62 [(5, ar (pl player)), (0, ar mo), (1, ai player), (2, ai n), (3, ai force), (4, ai part)] [al (kFr (fSum f player n force 10) 10 part)] 0 0
          exact hret ((pMf f player n), fa2_4) _ _ _ _ _ _ trivial (congrArg (fun z => some (al z)) (by unfold qMean; (repeat' split) <;> first | rfl | (exfalso; omega) | omega)) rfl (Nat.le_of_ble_eq_true rfl) (Nat.le_of_ble_eq_true rfl) dX11_mean_62
        · skip
          refine v_ldc2 (pc := 34) (z := (-9223372036854775808)) (bw_mem 727 (by decide +kernel) rfl) dX11_mean_34 ?_
          exact hret (m, fa0) _ _ _ _ _ _ trivial (congrArg (fun z => some (al z)) (by unfold qMean; (repeat' split) <;> first | rfl | (exfalso; omega) | omega)) rfl (Nat.le_of_ble_eq_true rfl) (Nat.le_of_ble_eq_true rfl) dX11_mean_37
  · skip
    refine v_callV (pc := 2) [] [0, 1] [(pi, co 4 (pO fa m)), (fa, cn 0 6 fa0)] (As := [ai player]) (rest := []) (c_X11_find_n mo kw pi ta ms pt po hi nw pls ins tap e3 e4 e5 e6 e7 e8 bar pv f player (by assumption) (by exact hp) (by first | omega | assumption)) (c := 11) rfl (Or.inl r0) wl_X11_99 wi_X11_find wv_X11_X11_find_X11_find wk_X11_find wz_X11 md_X11_find rfl (Nat.le_of_ble_eq_true rfl) ⟨Nat.le_of_ble_eq_true rfl, Nat.le_of_ble_eq_true rfl, Nat.le_of_ble_eq_true rfl, Nat.le_of_ble_eq_true rfl⟩ rfl rfl rfl rfl (by decide) (ro_cons (Or.inl r0) (ro_cons (Or.inl r1) (ro_cons (Or.inl r2) ro_nil))) dX11_mean_2 (fun u hu => ?_)
    show V x cX11_mean RX11 6 (rmU 5 125 0 0) [(pi, co 4 (pO fa m)), (fa, cn 0 6 fa0)] 5 [(0, ar mo), (1, ai player), (2, ai n), (3, ai force), (4, ai part)] [an] 0 0
    refine v_astore (pc := 5) (L2 := [(5, an), (0, ar mo), (1, ai player), (2, ai n), (3, ai force), (4, ai part)]) rfl (by decide) dX11_mean_5 ?_
    refine v_aload (pc := 7) 0 rfl dX11_mean_7 ?_
    refine v_ifnull_n (pc := 9) 34 dX11_mean_9 (by decide) ?_
    refine v_ldc2 (pc := 34) (z := (-9223372036854775808)) (bw_mem 727 (by decide +kernel) rfl) dX11_mean_34 ?_
    exact hret (m, fa0) _ _ _ _ _ _ trivial (congrArg (fun z => some (al z)) (by unfold qMean; (repeat' split) <;> first | rfl | (exfalso; omega) | omega)) rfl (Nat.le_of_ble_eq_true rfl) (Nat.le_of_ble_eq_true rfl) dX11_mean_37
set_option maxHeartbeats 4000000 in
set_option maxRecDepth 100000 in
theorem c_X11_pile {gS : sG} (mo : Nat) (kw : Nat) (pi : Nat) (ta : Nat) (ms : Nat) (pt : Nat) (po : Nat) (hi : Int) (nw : Nat) (pls : Nat) (ins : Nat) (tap : Nat) (e3 : Nat) (e4 : Nat) (e5 : Nat) (e6 : Nat) (e7 : Nat) (e8 : Nat) (bar : Nat) (fa : Nat) (m : Nat → Int) (fa0 : Int → Int) (iv : Int → Option Nat) (hq : Nat) (ns : Int) (us : Int) (sla : Nat) (ena : Nat) (cda : Nat) (cd : Int → Int) (sl : Int → Int) (en : Int → Int) (pv : Int → Option Nat) (pl : Int → Nat) (tu : Int → Nat) (f : Int → Int) (player : Int) (n : Int) (force : Int) (what : Int) (hS : SOK f) (hI : inC f iv bar hq ns us sl en cd) (hpv : ∀ i : Int, 0 ≤ i → i ≤ f 0 - 1 → pv i = some (pl i)) (hb_player : -2147483648 ≤ player ∧ player < 2147483648) (hb_n : -2147483648 ≤ n ∧ n < 2147483648) (hb_force : -2147483648 ≤ force ∧ force < 2147483648) (hb_what : -2147483648 ≤ what ∧ what < 2147483648) : Ct gS (S := (Nat → Int) × (Int → Int)) yX11_pile cX11_pile 6 (some .int) 5 125 0 0 [ar mo, ai player, ai n, ai force, ai what] [(pi, co 4 (pO fa m)), (fa, cn 0 6 fa0)] (fun q => q ∈ ([(mo, co 11 [ar nw, ar kw, ar pi, ar ta, ar ms, ar pt, ar po, ai hi]), (nw, co 10 [ar pls, ar ins, ar tap, ar e3, ar e4, ar e5, ar e6, ar e7, ar e8, ai (f 0), ai (f 1), ai (f 4), ai (f 2), ai (f 3), ai (f 6), ar bar]), (pls, cq 3 6 pv), (ins, cq 2 5 iv), (hq, co 3 [ai (kWide f), ai (kPay f), ai ns, ai us, ar sla, ar ena, ar cda]), (cda, cn 0 100 cd), (sla, cn 0 10 sl), (ena, cn 0 10 en)] : aW) ++ zpA ta f pl tu) (fun u => True) (fun u => some (ai (qPile f player n force what))) (fun u => [(pi, co 4 (pO fa u.1)), (fa, cn 0 6 u.2)]) := by
  refine ct_I RX11 [(0, ar mo), (1, ai player), (2, ai n), (3, ai force), (4, ai what)] (by decide) rfl (Nat.le_of_ble_eq_true rfl) rfl (fun x hgS hro hret => ?_)
  subst hgS
  have r0 := hro _ (List.mem_append_left _ (mem_at 0 rfl))
  have r1 := hro _ (List.mem_append_left _ (mem_at 1 rfl))
  have r2 := hro _ (List.mem_append_left _ (mem_at 2 rfl))
  have r3 := hro _ (List.mem_append_left _ (mem_at 3 rfl))
  have r4 := hro _ (List.mem_append_left _ (mem_at 4 rfl))
  have r5 := hro _ (List.mem_append_left _ (mem_at 5 rfl))
  have r6 := hro _ (List.mem_append_left _ (mem_at 6 rfl))
  have r7 := hro _ (List.mem_append_left _ (mem_at 7 rfl))
  have hra : ∀ q, q ∈ zpA ta f pl tu → Ro x q := fun q h => hro _ (List.mem_append_right _ h)
  obtain ⟨⟨hg0, hg1, hg2, hg3, hg4, hg5, hg6, hg7⟩, hSp, hSh, hSs, hSb, hSt, hSw⟩ := id hS
  show V x cX11_pile RX11 6 (rmU 5 125 0 0) [(pi, co 4 (pO fa m)), (fa, cn 0 6 fa0)] 0 [(0, ar mo), (1, ai player), (2, ai n), (3, ai force), (4, ai what)] [] 0 0
  refine v_aload_n (pc := 0) 0 rfl dX11_pile_0 ?_
  refine v_iload_n (pc := 1) 1 rfl dX11_pile_1 ?_
  rcases Classical.em (0 ≤ player ∧ player ≤ f 0 - 1) with hp | hp
  · skip
    have hpl := hpv player hp.1 hp.2
    have rP := hra _ (zpA_p (ta := ta) (pl := pl) (tu := tu) hp)
    have rQ := hra _ (zpA_t (ta := ta) (pl := pl) (tu := tu) hp)
    have hp6 : 0 ≤ player ∧ player < 6 := by omega
    obtain ⟨hpp, hf1, hf2, hf3, hf4, hf5, hf6, hf7, hf8⟩ := hSp player hp6.1 hp6.2
    refine v_callV (pc := 2) [] [0, 1] [(pi, co 4 (pO fa m)), (fa, cn 0 6 fa0)] (As := [ai player]) (rest := []) (c_X11_find_y mo kw pi ta ms pt po hi nw pls ins tap e3 e4 e5 e6 e7 e8 bar pv (pl player) f player (by assumption) (by exact hpl) (by exact hp)) (c := 11) rfl (Or.inl r0) wl_X11_99 wi_X11_find wv_X11_X11_find_X11_find wk_X11_find wz_X11 md_X11_find rfl (Nat.le_of_ble_eq_true rfl) ⟨Nat.le_of_ble_eq_true rfl, Nat.le_of_ble_eq_true rfl, Nat.le_of_ble_eq_true rfl, Nat.le_of_ble_eq_true rfl⟩ rfl rfl rfl rfl (by decide) (ro_cons (Or.inl r0) (ro_cons (Or.inl r1) (ro_cons (Or.inl r2) ro_nil))) dX11_pile_2 (fun u hu => ?_)
    show V x cX11_pile RX11 6 (rmU 5 125 0 0) [(pi, co 4 (pO fa m)), (fa, cn 0 6 fa0)] 5 [(0, ar mo), (1, ai player), (2, ai n), (3, ai force), (4, ai what)] [ar (pl player)] 0 0
    refine v_astore (pc := 5) (L2 := [(5, ar (pl player)), (0, ar mo), (1, ai player), (2, ai n), (3, ai force), (4, ai what)]) rfl (by decide) dX11_pile_5 ?_
    refine v_aload (pc := 7) 0 rfl dX11_pile_7 ?_
    refine v_ifnull_r (pc := 9) dX11_pile_9 ?_
    refine v_iload (pc := 12) 5 rfl dX11_pile_12 ?_
    refine v_iconst (pc := 14) dX11_pile_14 ?_
    refine v_iconst (pc := 15) dX11_pile_15 ?_
    refine v_callS (pc := 16) [] [0, 1] [(pi, co 4 (pO fa m)), (fa, cn 0 6 fa0)] (As := [ai what, ai 0, ai 1]) (rest := []) (c_X11_isOut what 0 1 (by first | omega | assumption) (by first | omega | assumption) (by first | omega | assumption)) wl_X11_41 ws_X11_isOut wk_X11_isOut wz_X11 md_X11_isOut rfl (Nat.le_of_ble_eq_true rfl) ⟨Nat.le_of_ble_eq_true rfl, Nat.le_of_ble_eq_true rfl, Nat.le_of_ble_eq_true rfl, Nat.le_of_ble_eq_true rfl⟩ rfl rfl rfl rfl (by decide) ro_nil dX11_pile_16 (fun u hu => ?_)
    show V x cX11_pile RX11 6 (rmU 5 125 0 0) [(pi, co 4 (pO fa m)), (fa, cn 0 6 fa0)] 19 [(5, ar (pl player)), (0, ar mo), (1, ai player), (2, ai n), (3, ai force), (4, ai what)] [ai (if what < 0 ∨ 1 < what then 1 else 0)] 0 0
    refine v_ifb_eq (pc := 19) 26 dX11_pile_19 (by decide) (fun c_1 => ?_) (fun c_1 => ?_)
    · skip
      refine v_iload_n (pc := 26) 3 rfl dX11_pile_26 ?_
      refine v_callS (pc := 27) [] [0, 1] [(pi, co 4 (pO fa m)), (fa, cn 0 6 fa0)] (As := [ai n]) (rest := []) (c_X11_isNoPile n (by first | omega | assumption)) wl_X11_135 ws_X11_isNoPile wk_X11_isNoPile wz_X11 md_X11_isNoPile rfl (Nat.le_of_ble_eq_true rfl) ⟨Nat.le_of_ble_eq_true rfl, Nat.le_of_ble_eq_true rfl, Nat.le_of_ble_eq_true rfl, Nat.le_of_ble_eq_true rfl⟩ rfl rfl rfl rfl (by decide) ro_nil dX11_pile_27 (fun u hu => ?_)
      show V x cX11_pile RX11 6 (rmU 5 125 0 0) [(pi, co 4 (pO fa m)), (fa, cn 0 6 fa0)] 30 [(5, ar (pl player)), (0, ar mo), (1, ai player), (2, ai n), (3, ai force), (4, ai what)] [ai (if n < 1 ∨ 99 < n then 1 else 0)] 0 0
      refine v_ifb_ne (pc := 30) 40 dX11_pile_30 (by decide) (fun c_2 => ?_) (fun c_2 => ?_)
      · skip
        refine v_sipush (pc := 40) dX11_pile_40 (by decide) ?_
        exact hret (m, fa0) _ _ _ _ _ _ trivial (congrArg (fun z => some (ai z)) (by unfold qPile; (repeat' split) <;> first | rfl | (exfalso; omega) | omega)) rfl (Nat.le_of_ble_eq_true rfl) (Nat.le_of_ble_eq_true rfl) dX11_pile_43
      · skip
        refine v_iload_n (pc := 33) 4 rfl dX11_pile_33 ?_
        refine v_callS (pc := 34) [] [0, 1] [(pi, co 4 (pO fa m)), (fa, cn 0 6 fa0)] (As := [ai force]) (rest := []) (c_X11_isNoForce force (by first | omega | assumption)) wl_X11_139 ws_X11_isNoForce wk_X11_isNoForce wz_X11 md_X11_isNoForce rfl (Nat.le_of_ble_eq_true rfl) ⟨Nat.le_of_ble_eq_true rfl, Nat.le_of_ble_eq_true rfl, Nat.le_of_ble_eq_true rfl, Nat.le_of_ble_eq_true rfl⟩ rfl rfl rfl rfl (by decide) ro_nil dX11_pile_34 (fun u hu => ?_)
        show V x cX11_pile RX11 6 (rmU 5 125 0 0) [(pi, co 4 (pO fa m)), (fa, cn 0 6 fa0)] 37 [(5, ar (pl player)), (0, ar mo), (1, ai player), (2, ai n), (3, ai force), (4, ai what)] [ai (if force < 0 ∨ 20 < force then 1 else 0)] 0 0
        refine v_ifb_eq (pc := 37) 44 dX11_pile_37 (by decide) (fun c_3 => ?_) (fun c_3 => ?_)
        · skip
          refine v_aload_n (pc := 44) 1 rfl dX11_pile_44 ?_
          refine v_aload (pc := 45) 0 rfl dX11_pile_45 ?_
          refine v_iload_n (pc := 47) 3 rfl dX11_pile_47 ?_
          refine v_callV (pc := 48) [0, 1] [] [] (As := [ar (pl player), ai n]) (rest := []) (c_X11_lay mo kw pi ta ms pt po hi nw pls ins tap e3 e4 e5 e6 e7 e8 bar fa m fa0 iv hq ns us sla ena cda cd sl en (pl player) (tu player) f player n (by assumption) (by assumption) (by first | omega | assumption) (by first | omega | assumption)) (c := 11) rfl (Or.inl r0) wl_X11_142 wi_X11_lay wv_X11_X11_lay_X11_lay wk_X11_lay wz_X11 md_X11_lay rfl (Nat.le_of_ble_eq_true rfl) ⟨Nat.le_of_ble_eq_true rfl, Nat.le_of_ble_eq_true rfl, Nat.le_of_ble_eq_true rfl, Nat.le_of_ble_eq_true rfl⟩ rfl rfl rfl rfl (by decide) (ro_cons (Or.inl r0) (ro_cons (Or.inl r1) (ro_cons (Or.inl r3) (ro_cons (Or.inl r4) (ro_cons (Or.inl r5) (ro_cons (Or.inl r6) (ro_cons (Or.inl r7) (ro_cons (Or.inl rP) (ro_cons (Or.inl rQ) ro_nil))))))))) dX11_pile_48 (fun u hu => ?_)
          obtain ⟨fa2_4, rfl⟩ : ∃ z, z = u := ⟨_, rfl⟩
          show V x cX11_pile RX11 6 (rmU 5 125 0 0) [(pi, co 4 (pO fa (pMf f player n))), (fa, cn 0 6 fa2_4)] 51 [(5, ar (pl player)), (0, ar mo), (1, ai player), (2, ai n), (3, ai force), (4, ai what)] [] 0 0
          refine v_iload (pc := 51) 5 rfl dX11_pile_51 ?_
          refine v_if_ne (pc := 53) 67 dX11_pile_53 (by decide) (by unfold iB; omega) (fun c_5 => ?_) (fun c_5 => ?_)
          · skip
            refine v_aload_n (pc := 67) 1 rfl dX11_pile_67 ?_
            refine v_get (pc := 68) (v := ar pi) 2 (Or.inl r0) fl_11_24_11 rfl dX11_pile_68 ?_
            refine v_get (pc := 71) (v := ai (kOp f player n 0)) 6 (Or.inr ⟨0, rfl⟩) fl_11_150_4 rfl dX11_pile_71 ?_
            exact hret ((pMf f player n), fa2_4) _ _ _ _ _ _ trivial (congrArg (fun z => some (ai z)) (by unfold qPile; (repeat' split) <;> first | rfl | (exfalso; omega) | omega)) rfl (Nat.le_of_ble_eq_true rfl) (Nat.le_of_ble_eq_true rfl) dX11_pile_74
          · skip
            refine v_aload_n (pc := 56) 1 rfl dX11_pile_56 ?_
            refine v_get (pc := 57) (v := ar pi) 2 (Or.inl r0) fl_11_24_11 rfl dX11_pile_57 ?_
            refine v_iload_n (pc := 60) 4 rfl dX11_pile_60 ?_
            refine v_callV (pc := 61) [] [0, 1] [(pi, co 4 (pO fa (pMf f player n))), (fa, cn 0 6 fa2_4)] (As := [ai force]) (rest := []) (c_F_turnBy pi fa f player n force (by assumption) (by first | omega | assumption) (by first | omega | assumption)) (c := 4) rfl (Or.inr ⟨0, rfl⟩) wl_X11_146 wi_X4_turnBy wv_X4_X4_turnBy_X4_turnBy wk_X4_turnBy wz_X4 md_X4_turnBy rfl (Nat.le_of_ble_eq_true rfl) ⟨Nat.le_of_ble_eq_true rfl, Nat.le_of_ble_eq_true rfl, Nat.le_of_ble_eq_true rfl, Nat.le_of_ble_eq_true rfl⟩ rfl rfl rfl rfl (by decide) (ro_cons (Or.inr ⟨0, rfl, by decide⟩) ro_nil) dX11_pile_61 (fun u hu => ?_)
            show V x cX11_pile RX11 6 (rmU 5 125 0 0) [(pi, co 4 (pO fa (pMf f player n))), (fa, cn 0 6 fa2_4)] 64 [(5, ar (pl player)), (0, ar mo), (1, ai player), (2, ai n), (3, ai force), (4, ai what)] [ai (fTu f player n force)] 0 0
            refine v_goto (pc := 64) 74 dX11_pile_64 (by decide) ?_
            exact hret ((pMf f player n), fa2_4) _ _ _ _ _ _ trivial (congrArg (fun z => some (ai z)) (by unfold qPile; (repeat' split) <;> first | rfl | (exfalso; omega) | omega)) rfl (Nat.le_of_ble_eq_true rfl) (Nat.le_of_ble_eq_true rfl) dX11_pile_74
        · skip
          refine v_sipush (pc := 40) dX11_pile_40 (by decide) ?_
          exact hret (m, fa0) _ _ _ _ _ _ trivial (congrArg (fun z => some (ai z)) (by unfold qPile; (repeat' split) <;> first | rfl | (exfalso; omega) | omega)) rfl (Nat.le_of_ble_eq_true rfl) (Nat.le_of_ble_eq_true rfl) dX11_pile_43
    · skip
      refine v_sipush (pc := 22) dX11_pile_22 (by decide) ?_
      exact hret (m, fa0) _ _ _ _ _ _ trivial (congrArg (fun z => some (ai z)) (by unfold qPile; (repeat' split) <;> first | rfl | (exfalso; omega) | omega)) rfl (Nat.le_of_ble_eq_true rfl) (Nat.le_of_ble_eq_true rfl) dX11_pile_25
  · skip
    refine v_callV (pc := 2) [] [0, 1] [(pi, co 4 (pO fa m)), (fa, cn 0 6 fa0)] (As := [ai player]) (rest := []) (c_X11_find_n mo kw pi ta ms pt po hi nw pls ins tap e3 e4 e5 e6 e7 e8 bar pv f player (by assumption) (by exact hp) (by first | omega | assumption)) (c := 11) rfl (Or.inl r0) wl_X11_99 wi_X11_find wv_X11_X11_find_X11_find wk_X11_find wz_X11 md_X11_find rfl (Nat.le_of_ble_eq_true rfl) ⟨Nat.le_of_ble_eq_true rfl, Nat.le_of_ble_eq_true rfl, Nat.le_of_ble_eq_true rfl, Nat.le_of_ble_eq_true rfl⟩ rfl rfl rfl rfl (by decide) (ro_cons (Or.inl r0) (ro_cons (Or.inl r1) (ro_cons (Or.inl r2) ro_nil))) dX11_pile_2 (fun u hu => ?_)
    show V x cX11_pile RX11 6 (rmU 5 125 0 0) [(pi, co 4 (pO fa m)), (fa, cn 0 6 fa0)] 5 [(0, ar mo), (1, ai player), (2, ai n), (3, ai force), (4, ai what)] [an] 0 0
    refine v_astore (pc := 5) (L2 := [(5, an), (0, ar mo), (1, ai player), (2, ai n), (3, ai force), (4, ai what)]) rfl (by decide) dX11_pile_5 ?_
    refine v_aload (pc := 7) 0 rfl dX11_pile_7 ?_
    refine v_ifnull_n (pc := 9) 22 dX11_pile_9 (by decide) ?_
    refine v_sipush (pc := 22) dX11_pile_22 (by decide) ?_
    exact hret (m, fa0) _ _ _ _ _ _ trivial (congrArg (fun z => some (ai z)) (by unfold qPile; (repeat' split) <;> first | rfl | (exfalso; omega) | omega)) rfl (Nat.le_of_ble_eq_true rfl) (Nat.le_of_ble_eq_true rfl) dX11_pile_25
set_option maxHeartbeats 4000000 in
set_option maxRecDepth 100000 in
theorem c_X11_best {gS : sG} (mo : Nat) (kw : Nat) (pi : Nat) (ta : Nat) (ms : Nat) (pt : Nat) (po : Nat) (hi : Int) (nw : Nat) (pls : Nat) (ins : Nat) (tap : Nat) (e3 : Nat) (e4 : Nat) (e5 : Nat) (e6 : Nat) (e7 : Nat) (e8 : Nat) (bar : Nat) (fa : Nat) (m : Nat → Int) (fa0 : Int → Int) (iv : Int → Option Nat) (hq : Nat) (ns : Int) (us : Int) (sla : Nat) (ena : Nat) (cda : Nat) (cd : Int → Int) (sl : Int → Int) (en : Int → Int) (pv : Int → Option Nat) (pl : Int → Nat) (tu : Int → Nat) (f : Int → Int) (player : Int) (n : Int) (what : Int) (hS : SOK f) (hI : inC f iv bar hq ns us sl en cd) (hpv : ∀ i : Int, 0 ≤ i → i ≤ f 0 - 1 → pv i = some (pl i)) (hb_player : -2147483648 ≤ player ∧ player < 2147483648) (hb_n : -2147483648 ≤ n ∧ n < 2147483648) (hb_what : -2147483648 ≤ what ∧ what < 2147483648) : Ct gS (S := (Nat → Int) × (Int → Int)) yX11_best cX11_best 5 (some .int) 5 125 0 0 [ar mo, ai player, ai n, ai what] [(pi, co 4 (pO fa m)), (fa, cn 0 6 fa0)] (fun q => q ∈ ([(mo, co 11 [ar nw, ar kw, ar pi, ar ta, ar ms, ar pt, ar po, ai hi]), (nw, co 10 [ar pls, ar ins, ar tap, ar e3, ar e4, ar e5, ar e6, ar e7, ar e8, ai (f 0), ai (f 1), ai (f 4), ai (f 2), ai (f 3), ai (f 6), ar bar]), (pls, cq 3 6 pv), (ins, cq 2 5 iv), (hq, co 3 [ai (kWide f), ai (kPay f), ai ns, ai us, ar sla, ar ena, ar cda]), (cda, cn 0 100 cd), (sla, cn 0 10 sl), (ena, cn 0 10 en)] : aW) ++ zpA ta f pl tu) (fun u => True) (fun u => some (ai (qBest f player n what))) (fun u => [(pi, co 4 (pO fa u.1)), (fa, cn 0 6 u.2)]) := by
  refine ct_I RX11 [(0, ar mo), (1, ai player), (2, ai n), (3, ai what)] (by decide) rfl (Nat.le_of_ble_eq_true rfl) rfl (fun x hgS hro hret => ?_)
  subst hgS
  have r0 := hro _ (List.mem_append_left _ (mem_at 0 rfl))
  have r1 := hro _ (List.mem_append_left _ (mem_at 1 rfl))
  have r2 := hro _ (List.mem_append_left _ (mem_at 2 rfl))
  have r3 := hro _ (List.mem_append_left _ (mem_at 3 rfl))
  have r4 := hro _ (List.mem_append_left _ (mem_at 4 rfl))
  have r5 := hro _ (List.mem_append_left _ (mem_at 5 rfl))
  have r6 := hro _ (List.mem_append_left _ (mem_at 6 rfl))
  have r7 := hro _ (List.mem_append_left _ (mem_at 7 rfl))
  have hra : ∀ q, q ∈ zpA ta f pl tu → Ro x q := fun q h => hro _ (List.mem_append_right _ h)
  obtain ⟨⟨hg0, hg1, hg2, hg3, hg4, hg5, hg6, hg7⟩, hSp, hSh, hSs, hSb, hSt, hSw⟩ := id hS
  show V x cX11_best RX11 5 (rmU 5 125 0 0) [(pi, co 4 (pO fa m)), (fa, cn 0 6 fa0)] 0 [(0, ar mo), (1, ai player), (2, ai n), (3, ai what)] [] 0 0
  refine v_aload_n (pc := 0) 0 rfl dX11_best_0 ?_
  refine v_iload_n (pc := 1) 1 rfl dX11_best_1 ?_
  rcases Classical.em (0 ≤ player ∧ player ≤ f 0 - 1) with hp | hp
  · skip
    have hpl := hpv player hp.1 hp.2
    have rP := hra _ (zpA_p (ta := ta) (pl := pl) (tu := tu) hp)
    have rQ := hra _ (zpA_t (ta := ta) (pl := pl) (tu := tu) hp)
    have hp6 : 0 ≤ player ∧ player < 6 := by omega
    obtain ⟨hpp, hf1, hf2, hf3, hf4, hf5, hf6, hf7, hf8⟩ := hSp player hp6.1 hp6.2
    refine v_callV (pc := 2) [] [0, 1] [(pi, co 4 (pO fa m)), (fa, cn 0 6 fa0)] (As := [ai player]) (rest := []) (c_X11_find_y mo kw pi ta ms pt po hi nw pls ins tap e3 e4 e5 e6 e7 e8 bar pv (pl player) f player (by assumption) (by exact hpl) (by exact hp)) (c := 11) rfl (Or.inl r0) wl_X11_99 wi_X11_find wv_X11_X11_find_X11_find wk_X11_find wz_X11 md_X11_find rfl (Nat.le_of_ble_eq_true rfl) ⟨Nat.le_of_ble_eq_true rfl, Nat.le_of_ble_eq_true rfl, Nat.le_of_ble_eq_true rfl, Nat.le_of_ble_eq_true rfl⟩ rfl rfl rfl rfl (by decide) (ro_cons (Or.inl r0) (ro_cons (Or.inl r1) (ro_cons (Or.inl r2) ro_nil))) dX11_best_2 (fun u hu => ?_)
    show V x cX11_best RX11 5 (rmU 5 125 0 0) [(pi, co 4 (pO fa m)), (fa, cn 0 6 fa0)] 5 [(0, ar mo), (1, ai player), (2, ai n), (3, ai what)] [ar (pl player)] 0 0
    refine v_astore (pc := 5) (L2 := [(4, ar (pl player)), (0, ar mo), (1, ai player), (2, ai n), (3, ai what)]) rfl (by decide) dX11_best_5 ?_
    refine v_aload (pc := 7) 0 rfl dX11_best_7 ?_
    refine v_ifnull_r (pc := 9) dX11_best_9 ?_
    refine v_iload_n (pc := 12) 4 rfl dX11_best_12 ?_
    refine v_iconst (pc := 13) dX11_best_13 ?_
    refine v_iconst (pc := 14) dX11_best_14 ?_
    refine v_callS (pc := 15) [] [0, 1] [(pi, co 4 (pO fa m)), (fa, cn 0 6 fa0)] (As := [ai what, ai 0, ai 1]) (rest := []) (c_X11_isOut what 0 1 (by first | omega | assumption) (by first | omega | assumption) (by first | omega | assumption)) wl_X11_41 ws_X11_isOut wk_X11_isOut wz_X11 md_X11_isOut rfl (Nat.le_of_ble_eq_true rfl) ⟨Nat.le_of_ble_eq_true rfl, Nat.le_of_ble_eq_true rfl, Nat.le_of_ble_eq_true rfl, Nat.le_of_ble_eq_true rfl⟩ rfl rfl rfl rfl (by decide) ro_nil dX11_best_15 (fun u hu => ?_)
    show V x cX11_best RX11 5 (rmU 5 125 0 0) [(pi, co 4 (pO fa m)), (fa, cn 0 6 fa0)] 18 [(4, ar (pl player)), (0, ar mo), (1, ai player), (2, ai n), (3, ai what)] [ai (if what < 0 ∨ 1 < what then 1 else 0)] 0 0
    refine v_ifb_eq (pc := 18) 23 dX11_best_18 (by decide) (fun c_1 => ?_) (fun c_1 => ?_)
    · skip
      refine v_iload_n (pc := 23) 3 rfl dX11_best_23 ?_
      refine v_callS (pc := 24) [] [0, 1] [(pi, co 4 (pO fa m)), (fa, cn 0 6 fa0)] (As := [ai n]) (rest := []) (c_X11_isNoPile n (by first | omega | assumption)) wl_X11_135 ws_X11_isNoPile wk_X11_isNoPile wz_X11 md_X11_isNoPile rfl (Nat.le_of_ble_eq_true rfl) ⟨Nat.le_of_ble_eq_true rfl, Nat.le_of_ble_eq_true rfl, Nat.le_of_ble_eq_true rfl, Nat.le_of_ble_eq_true rfl⟩ rfl rfl rfl rfl (by decide) ro_nil dX11_best_24 (fun u hu => ?_)
      show V x cX11_best RX11 5 (rmU 5 125 0 0) [(pi, co 4 (pO fa m)), (fa, cn 0 6 fa0)] 27 [(4, ar (pl player)), (0, ar mo), (1, ai player), (2, ai n), (3, ai what)] [ai (if n < 1 ∨ 99 < n then 1 else 0)] 0 0
      refine v_ifb_eq (pc := 27) 33 dX11_best_27 (by decide) (fun c_2 => ?_) (fun c_2 => ?_)
      · skip
        refine v_aload_n (pc := 33) 1 rfl dX11_best_33 ?_
        refine v_aload (pc := 34) 0 rfl dX11_best_34 ?_
        refine v_iload_n (pc := 36) 3 rfl dX11_best_36 ?_
        refine v_callV (pc := 37) [0, 1] [] [] (As := [ar (pl player), ai n]) (rest := []) (c_X11_lay mo kw pi ta ms pt po hi nw pls ins tap e3 e4 e5 e6 e7 e8 bar fa m fa0 iv hq ns us sla ena cda cd sl en (pl player) (tu player) f player n (by assumption) (by assumption) (by first | omega | assumption) (by first | omega | assumption)) (c := 11) rfl (Or.inl r0) wl_X11_142 wi_X11_lay wv_X11_X11_lay_X11_lay wk_X11_lay wz_X11 md_X11_lay rfl (Nat.le_of_ble_eq_true rfl) ⟨Nat.le_of_ble_eq_true rfl, Nat.le_of_ble_eq_true rfl, Nat.le_of_ble_eq_true rfl, Nat.le_of_ble_eq_true rfl⟩ rfl rfl rfl rfl (by decide) (ro_cons (Or.inl r0) (ro_cons (Or.inl r1) (ro_cons (Or.inl r3) (ro_cons (Or.inl r4) (ro_cons (Or.inl r5) (ro_cons (Or.inl r6) (ro_cons (Or.inl r7) (ro_cons (Or.inl rP) (ro_cons (Or.inl rQ) ro_nil))))))))) dX11_best_37 (fun u hu => ?_)
        obtain ⟨fa2_3, rfl⟩ : ∃ z, z = u := ⟨_, rfl⟩
        show V x cX11_best RX11 5 (rmU 5 125 0 0) [(pi, co 4 (pO fa (pMf f player n))), (fa, cn 0 6 fa2_3)] 40 [(4, ar (pl player)), (0, ar mo), (1, ai player), (2, ai n), (3, ai what)] [] 0 0
        refine v_iload_n (pc := 40) 4 rfl dX11_best_40 ?_
        refine v_if_ne (pc := 41) 54 dX11_best_41 (by decide) (by unfold iB; omega) (fun c_4 => ?_) (fun c_4 => ?_)
        · skip
          refine v_aload_n (pc := 54) 1 rfl dX11_best_54 ?_
          refine v_get (pc := 55) (v := ar pi) 2 (Or.inl r0) fl_11_24_11 rfl dX11_best_55 ?_
          refine v_callV (pc := 58) [] [0, 1] [(pi, co 4 (pO fa (pMf f player n))), (fa, cn 0 6 fa2_3)] (As := []) (rest := []) (c_F_bestOdds pi fa f player n (by assumption) (by first | omega | assumption) (by first | omega | assumption)) (c := 4) rfl (Or.inr ⟨0, rfl⟩) wl_X11_184 wi_X4_bestOdds wv_X4_X4_bestOdds_X4_bestOdds wk_X4_bestOdds wz_X4 md_X4_bestOdds rfl (Nat.le_of_ble_eq_true rfl) ⟨Nat.le_of_ble_eq_true rfl, Nat.le_of_ble_eq_true rfl, Nat.le_of_ble_eq_true rfl, Nat.le_of_ble_eq_true rfl⟩ rfl rfl rfl rfl (by decide) (ro_cons (Or.inr ⟨0, rfl, by decide⟩) ro_nil) dX11_best_58 (fun u hu => ?_)
          show V x cX11_best RX11 5 (rmU 5 125 0 0) [(pi, co 4 (pO fa (pMf f player n))), (fa, cn 0 6 fa2_3)] 61 [(4, ar (pl player)), (0, ar mo), (1, ai player), (2, ai n), (3, ai what)] [ai (fBest f player n)] 0 0
          exact hret ((pMf f player n), fa2_3) _ _ _ _ _ _ trivial (congrArg (fun z => some (ai z)) (by unfold qBest; (repeat' split) <;> first | rfl | (exfalso; omega) | omega)) rfl (Nat.le_of_ble_eq_true rfl) (Nat.le_of_ble_eq_true rfl) dX11_best_61
        · skip
          refine v_aload_n (pc := 44) 1 rfl dX11_best_44 ?_
          refine v_get (pc := 45) (v := ar pi) 2 (Or.inl r0) fl_11_24_11 rfl dX11_best_45 ?_
          refine v_callV (pc := 48) [] [0, 1] [(pi, co 4 (pO fa (pMf f player n))), (fa, cn 0 6 fa2_3)] (As := []) (rest := []) (c_F_bestForce pi fa f player n (by assumption) (by first | omega | assumption) (by first | omega | assumption)) (c := 4) rfl (Or.inr ⟨0, rfl⟩) wl_X11_180 wi_X4_bestForce wv_X4_X4_bestForce_X4_bestForce wk_X4_bestForce wz_X4 md_X4_bestForce rfl (Nat.le_of_ble_eq_true rfl) ⟨Nat.le_of_ble_eq_true rfl, Nat.le_of_ble_eq_true rfl, Nat.le_of_ble_eq_true rfl, Nat.le_of_ble_eq_true rfl⟩ rfl rfl rfl rfl (by decide) (ro_cons (Or.inr ⟨0, rfl, by decide⟩) ro_nil) dX11_best_48 (fun u hu => ?_)
          show V x cX11_best RX11 5 (rmU 5 125 0 0) [(pi, co 4 (pO fa (pMf f player n))), (fa, cn 0 6 fa2_3)] 51 [(4, ar (pl player)), (0, ar mo), (1, ai player), (2, ai n), (3, ai what)] [ai ((fBst f player n 21).2)] 0 0
          refine v_goto (pc := 51) 61 dX11_best_51 (by decide) ?_
          exact hret ((pMf f player n), fa2_3) _ _ _ _ _ _ trivial (congrArg (fun z => some (ai z)) (by unfold qBest; (repeat' split) <;> first | rfl | (exfalso; omega) | omega)) rfl (Nat.le_of_ble_eq_true rfl) (Nat.le_of_ble_eq_true rfl) dX11_best_61
      · skip
        refine v_bipush (pc := 30) dX11_best_30 (by decide) ?_
        exact hret (m, fa0) _ _ _ _ _ _ trivial (congrArg (fun z => some (ai z)) (by unfold qBest; (repeat' split) <;> first | rfl | (exfalso; omega) | omega)) rfl (Nat.le_of_ble_eq_true rfl) (Nat.le_of_ble_eq_true rfl) dX11_best_32
    · skip
      refine v_iconst (pc := 21) dX11_best_21 ?_
      exact hret (m, fa0) _ _ _ _ _ _ trivial (congrArg (fun z => some (ai z)) (by unfold qBest; (repeat' split) <;> first | rfl | (exfalso; omega) | omega)) rfl (Nat.le_of_ble_eq_true rfl) (Nat.le_of_ble_eq_true rfl) dX11_best_22
  · skip
    refine v_callV (pc := 2) [] [0, 1] [(pi, co 4 (pO fa m)), (fa, cn 0 6 fa0)] (As := [ai player]) (rest := []) (c_X11_find_n mo kw pi ta ms pt po hi nw pls ins tap e3 e4 e5 e6 e7 e8 bar pv f player (by assumption) (by exact hp) (by first | omega | assumption)) (c := 11) rfl (Or.inl r0) wl_X11_99 wi_X11_find wv_X11_X11_find_X11_find wk_X11_find wz_X11 md_X11_find rfl (Nat.le_of_ble_eq_true rfl) ⟨Nat.le_of_ble_eq_true rfl, Nat.le_of_ble_eq_true rfl, Nat.le_of_ble_eq_true rfl, Nat.le_of_ble_eq_true rfl⟩ rfl rfl rfl rfl (by decide) (ro_cons (Or.inl r0) (ro_cons (Or.inl r1) (ro_cons (Or.inl r2) ro_nil))) dX11_best_2 (fun u hu => ?_)
    show V x cX11_best RX11 5 (rmU 5 125 0 0) [(pi, co 4 (pO fa m)), (fa, cn 0 6 fa0)] 5 [(0, ar mo), (1, ai player), (2, ai n), (3, ai what)] [an] 0 0
    refine v_astore (pc := 5) (L2 := [(4, an), (0, ar mo), (1, ai player), (2, ai n), (3, ai what)]) rfl (by decide) dX11_best_5 ?_
    refine v_aload (pc := 7) 0 rfl dX11_best_7 ?_
    refine v_ifnull_n (pc := 9) 21 dX11_best_9 (by decide) ?_
    refine v_iconst (pc := 21) dX11_best_21 ?_
    exact hret (m, fa0) _ _ _ _ _ _ trivial (congrArg (fun z => some (ai z)) (by unfold qBest; (repeat' split) <;> first | rfl | (exfalso; omega) | omega)) rfl (Nat.le_of_ble_eq_true rfl) (Nat.le_of_ble_eq_true rfl) dX11_best_22
set_option maxHeartbeats 4000000 in
set_option maxRecDepth 100000 in
theorem c_X11_most {gS : sG} (mo : Nat) (kw : Nat) (pi : Nat) (ta : Nat) (ms : Nat) (pt : Nat) (po : Nat) (hi : Int) (nw : Nat) (pls : Nat) (ins : Nat) (tap : Nat) (e3 : Nat) (e4 : Nat) (e5 : Nat) (e6 : Nat) (e7 : Nat) (e8 : Nat) (bar : Nat) (fa : Nat) (m : Nat → Int) (fa0 : Int → Int) (iv : Int → Option Nat) (hq : Nat) (ns : Int) (us : Int) (sla : Nat) (ena : Nat) (cda : Nat) (cd : Int → Int) (sl : Int → Int) (en : Int → Int) (pv : Int → Option Nat) (pl : Int → Nat) (tu : Int → Nat) (f : Int → Int) (player : Int) (hS : SOK f) (hI : inC f iv bar hq ns us sl en cd) (hpv : ∀ i : Int, 0 ≤ i → i ≤ f 0 - 1 → pv i = some (pl i)) (hb_player : -2147483648 ≤ player ∧ player < 2147483648) : Ct gS (S := (Nat → Int) × (Int → Int)) yX11_most cX11_most 3 (some .int) 5 126 0 0 [ar mo, ai player] [(pi, co 4 (pO fa m)), (fa, cn 0 6 fa0)] (fun q => q ∈ ([(mo, co 11 [ar nw, ar kw, ar pi, ar ta, ar ms, ar pt, ar po, ai hi]), (nw, co 10 [ar pls, ar ins, ar tap, ar e3, ar e4, ar e5, ar e6, ar e7, ar e8, ai (f 0), ai (f 1), ai (f 4), ai (f 2), ai (f 3), ai (f 6), ar bar]), (pls, cq 3 6 pv), (ins, cq 2 5 iv), (hq, co 3 [ai (kWide f), ai (kPay f), ai ns, ai us, ar sla, ar ena, ar cda]), (cda, cn 0 100 cd), (sla, cn 0 10 sl), (ena, cn 0 10 en)] : aW) ++ zpA ta f pl tu) (fun u => True) (fun u => some (ai (qMost f player))) (fun u => [(pi, co 4 (pO fa u.1)), (fa, cn 0 6 u.2)]) := by
  refine ct_I RX11 [(0, ar mo), (1, ai player)] (by decide) rfl (Nat.le_of_ble_eq_true rfl) rfl (fun x hgS hro hret => ?_)
  subst hgS
  have r0 := hro _ (List.mem_append_left _ (mem_at 0 rfl))
  have r1 := hro _ (List.mem_append_left _ (mem_at 1 rfl))
  have r2 := hro _ (List.mem_append_left _ (mem_at 2 rfl))
  have r3 := hro _ (List.mem_append_left _ (mem_at 3 rfl))
  have r4 := hro _ (List.mem_append_left _ (mem_at 4 rfl))
  have r5 := hro _ (List.mem_append_left _ (mem_at 5 rfl))
  have r6 := hro _ (List.mem_append_left _ (mem_at 6 rfl))
  have r7 := hro _ (List.mem_append_left _ (mem_at 7 rfl))
  have hra : ∀ q, q ∈ zpA ta f pl tu → Ro x q := fun q h => hro _ (List.mem_append_right _ h)
  obtain ⟨⟨hg0, hg1, hg2, hg3, hg4, hg5, hg6, hg7⟩, hSp, hSh, hSs, hSb, hSt, hSw⟩ := id hS
  show V x cX11_most RX11 3 (rmU 5 126 0 0) [(pi, co 4 (pO fa m)), (fa, cn 0 6 fa0)] 0 [(0, ar mo), (1, ai player)] [] 0 0
  refine v_aload_n (pc := 0) 0 rfl dX11_most_0 ?_
  refine v_iload_n (pc := 1) 1 rfl dX11_most_1 ?_
  rcases Classical.em (0 ≤ player ∧ player ≤ f 0 - 1) with hp | hp
  · skip
    have hpl := hpv player hp.1 hp.2
    have rP := hra _ (zpA_p (ta := ta) (pl := pl) (tu := tu) hp)
    have rQ := hra _ (zpA_t (ta := ta) (pl := pl) (tu := tu) hp)
    have hp6 : 0 ≤ player ∧ player < 6 := by omega
    obtain ⟨hpp, hf1, hf2, hf3, hf4, hf5, hf6, hf7, hf8⟩ := hSp player hp6.1 hp6.2
    refine v_callV (pc := 2) [] [0, 1] [(pi, co 4 (pO fa m)), (fa, cn 0 6 fa0)] (As := [ai player]) (rest := []) (c_X11_find_y mo kw pi ta ms pt po hi nw pls ins tap e3 e4 e5 e6 e7 e8 bar pv (pl player) f player (by assumption) (by exact hpl) (by exact hp)) (c := 11) rfl (Or.inl r0) wl_X11_99 wi_X11_find wv_X11_X11_find_X11_find wk_X11_find wz_X11 md_X11_find rfl (Nat.le_of_ble_eq_true rfl) ⟨Nat.le_of_ble_eq_true rfl, Nat.le_of_ble_eq_true rfl, Nat.le_of_ble_eq_true rfl, Nat.le_of_ble_eq_true rfl⟩ rfl rfl rfl rfl (by decide) (ro_cons (Or.inl r0) (ro_cons (Or.inl r1) (ro_cons (Or.inl r2) ro_nil))) dX11_most_2 (fun u hu => ?_)
    show V x cX11_most RX11 3 (rmU 5 126 0 0) [(pi, co 4 (pO fa m)), (fa, cn 0 6 fa0)] 5 [(0, ar mo), (1, ai player)] [ar (pl player)] 0 0
    refine v_astore_n (pc := 5) (L2 := [(2, ar (pl player)), (0, ar mo), (1, ai player)]) rfl (by decide) dX11_most_5 ?_
    refine v_aload_n (pc := 6) 0 rfl dX11_most_6 ?_
    refine v_ifnonnull_r (pc := 7) 12 dX11_most_7 (by decide) ?_
    refine v_aload_n (pc := 12) 1 rfl dX11_most_12 ?_
    refine v_aload_n (pc := 13) 0 rfl dX11_most_13 ?_
    refine v_aload_n (pc := 14) 0 rfl dX11_most_14 ?_
    refine v_get (pc := 15) (v := ai (f (31 + player))) 6 (Or.inl rP) (flP_11_106 (by omega)) rfl dX11_most_15 ?_
    refine v_callV (pc := 18) [0, 1] [] [] (As := [ar (pl player), ai (f (31 + player))]) (rest := []) (c_X11_mostBy mo kw pi ta ms pt po hi nw pls ins tap e3 e4 e5 e6 e7 e8 bar fa m fa0 iv hq ns us sla ena cda cd sl en (pl player) (tu player) f player (f (31 + player)) (by assumption) (by assumption) (by first | omega | assumption) (by first | omega | assumption)) (c := 11) rfl (Or.inl r0) wl_X11_187 wi_X11_mostBy wv_X11_X11_mostBy_X11_mostBy wk_X11_mostBy wz_X11 md_X11_mostBy rfl (Nat.le_of_ble_eq_true rfl) ⟨Nat.le_of_ble_eq_true rfl, Nat.le_of_ble_eq_true rfl, Nat.le_of_ble_eq_true rfl, Nat.le_of_ble_eq_true rfl⟩ rfl rfl rfl rfl (by decide) (ro_cons (Or.inl r0) (ro_cons (Or.inl r1) (ro_cons (Or.inl r3) (ro_cons (Or.inl r4) (ro_cons (Or.inl r5) (ro_cons (Or.inl r6) (ro_cons (Or.inl r7) (ro_cons (Or.inl rP) (ro_cons (Or.inl rQ) ro_nil))))))))) dX11_most_18 (fun u hu => ?_)
    obtain ⟨m2_1, fa2_2⟩ := u
    show V x cX11_most RX11 3 (rmU 5 126 0 0) [(pi, co 4 (pO fa m2_1)), (fa, cn 0 6 fa2_2)] 21 [(2, ar (pl player)), (0, ar mo), (1, ai player)] [ai (mst (fBest (fS f player (f (19 + player)) (f (31 + player))) player) 99)] 0 0
    exact hret (m2_1, fa2_2) _ _ _ _ _ _ trivial (congrArg (fun z => some (ai z)) (by unfold qMost; first | (rw [if_pos (by omega)]; done) | (rw [if_neg (by omega), fS_id]; rfl))) rfl (Nat.le_of_ble_eq_true rfl) (Nat.le_of_ble_eq_true rfl) dX11_most_21
  · skip
    refine v_callV (pc := 2) [] [0, 1] [(pi, co 4 (pO fa m)), (fa, cn 0 6 fa0)] (As := [ai player]) (rest := []) (c_X11_find_n mo kw pi ta ms pt po hi nw pls ins tap e3 e4 e5 e6 e7 e8 bar pv f player (by assumption) (by exact hp) (by first | omega | assumption)) (c := 11) rfl (Or.inl r0) wl_X11_99 wi_X11_find wv_X11_X11_find_X11_find wk_X11_find wz_X11 md_X11_find rfl (Nat.le_of_ble_eq_true rfl) ⟨Nat.le_of_ble_eq_true rfl, Nat.le_of_ble_eq_true rfl, Nat.le_of_ble_eq_true rfl, Nat.le_of_ble_eq_true rfl⟩ rfl rfl rfl rfl (by decide) (ro_cons (Or.inl r0) (ro_cons (Or.inl r1) (ro_cons (Or.inl r2) ro_nil))) dX11_most_2 (fun u hu => ?_)
    show V x cX11_most RX11 3 (rmU 5 126 0 0) [(pi, co 4 (pO fa m)), (fa, cn 0 6 fa0)] 5 [(0, ar mo), (1, ai player)] [an] 0 0
    refine v_astore_n (pc := 5) (L2 := [(2, an), (0, ar mo), (1, ai player)]) rfl (by decide) dX11_most_5 ?_
    refine v_aload_n (pc := 6) 0 rfl dX11_most_6 ?_
    refine v_ifnonnull_n (pc := 7) dX11_most_7 ?_
    refine v_iconst (pc := 10) dX11_most_10 ?_
    exact hret (m, fa0) _ _ _ _ _ _ trivial (congrArg (fun z => some (ai z)) (by unfold qMost; first | (rw [if_pos (by omega)]; done) | (rw [if_neg (by omega), fS_id]; rfl))) rfl (Nat.le_of_ble_eq_true rfl) (Nat.le_of_ble_eq_true rfl) dX11_most_11
set_option maxHeartbeats 4000000 in
set_option maxRecDepth 100000 in
theorem c_X11_stuck {gS : sG} (mo : Nat) (kw : Nat) (pi : Nat) (ta : Nat) (ms : Nat) (pt : Nat) (po : Nat) (hi : Int) (nw : Nat) (pls : Nat) (ins : Nat) (tap : Nat) (e3 : Nat) (e4 : Nat) (e5 : Nat) (e6 : Nat) (e7 : Nat) (e8 : Nat) (bar : Nat) (fa : Nat) (m : Nat → Int) (fa0 : Int → Int) (iv : Int → Option Nat) (hq : Nat) (ns : Int) (us : Int) (sla : Nat) (ena : Nat) (cda : Nat) (cd : Int → Int) (sl : Int → Int) (en : Int → Int) (pv : Int → Option Nat) (pl : Int → Nat) (tu : Int → Nat) (f : Int → Int) (player : Int) (n : Int) (hS : SOK f) (hI : inC f iv bar hq ns us sl en cd) (hpv : ∀ i : Int, 0 ≤ i → i ≤ f 0 - 1 → pv i = some (pl i)) (hb_player : -2147483648 ≤ player ∧ player < 2147483648) (hb_n : -2147483648 ≤ n ∧ n < 2147483648) : Ct gS (S := (Nat → Int) × (Int → Int)) yX11_stuck cX11_stuck 5 (some .int) 5 125 0 0 [ar mo, ai player, ai n] [(pi, co 4 (pO fa m)), (fa, cn 0 6 fa0)] (fun q => q ∈ ([(mo, co 11 [ar nw, ar kw, ar pi, ar ta, ar ms, ar pt, ar po, ai hi]), (nw, co 10 [ar pls, ar ins, ar tap, ar e3, ar e4, ar e5, ar e6, ar e7, ar e8, ai (f 0), ai (f 1), ai (f 4), ai (f 2), ai (f 3), ai (f 6), ar bar]), (pls, cq 3 6 pv), (ins, cq 2 5 iv), (hq, co 3 [ai (kWide f), ai (kPay f), ai ns, ai us, ar sla, ar ena, ar cda]), (cda, cn 0 100 cd), (sla, cn 0 10 sl), (ena, cn 0 10 en)] : aW) ++ zpA ta f pl tu) (fun u => True) (fun u => some (ai (qStuck f player n))) (fun u => [(pi, co 4 (pO fa u.1)), (fa, cn 0 6 u.2)]) := by
  refine ct_I RX11 [(0, ar mo), (1, ai player), (2, ai n)] (by decide) rfl (Nat.le_of_ble_eq_true rfl) rfl (fun x hgS hro hret => ?_)
  subst hgS
  have r0 := hro _ (List.mem_append_left _ (mem_at 0 rfl))
  have r1 := hro _ (List.mem_append_left _ (mem_at 1 rfl))
  have r2 := hro _ (List.mem_append_left _ (mem_at 2 rfl))
  have r3 := hro _ (List.mem_append_left _ (mem_at 3 rfl))
  have r4 := hro _ (List.mem_append_left _ (mem_at 4 rfl))
  have r5 := hro _ (List.mem_append_left _ (mem_at 5 rfl))
  have r6 := hro _ (List.mem_append_left _ (mem_at 6 rfl))
  have r7 := hro _ (List.mem_append_left _ (mem_at 7 rfl))
  have hra : ∀ q, q ∈ zpA ta f pl tu → Ro x q := fun q h => hro _ (List.mem_append_right _ h)
  obtain ⟨⟨hg0, hg1, hg2, hg3, hg4, hg5, hg6, hg7⟩, hSp, hSh, hSs, hSb, hSt, hSw⟩ := id hS
  show V x cX11_stuck RX11 5 (rmU 5 125 0 0) [(pi, co 4 (pO fa m)), (fa, cn 0 6 fa0)] 0 [(0, ar mo), (1, ai player), (2, ai n)] [] 0 0
  refine v_aload_n (pc := 0) 0 rfl dX11_stuck_0 ?_
  refine v_iload_n (pc := 1) 1 rfl dX11_stuck_1 ?_
  rcases Classical.em (0 ≤ player ∧ player ≤ f 0 - 1) with hp | hp
  · skip
    have hpl := hpv player hp.1 hp.2
    have rP := hra _ (zpA_p (ta := ta) (pl := pl) (tu := tu) hp)
    have rQ := hra _ (zpA_t (ta := ta) (pl := pl) (tu := tu) hp)
    have hp6 : 0 ≤ player ∧ player < 6 := by omega
    obtain ⟨hpp, hf1, hf2, hf3, hf4, hf5, hf6, hf7, hf8⟩ := hSp player hp6.1 hp6.2
    refine v_callV (pc := 2) [] [0, 1] [(pi, co 4 (pO fa m)), (fa, cn 0 6 fa0)] (As := [ai player]) (rest := []) (c_X11_find_y mo kw pi ta ms pt po hi nw pls ins tap e3 e4 e5 e6 e7 e8 bar pv (pl player) f player (by assumption) (by exact hpl) (by exact hp)) (c := 11) rfl (Or.inl r0) wl_X11_99 wi_X11_find wv_X11_X11_find_X11_find wk_X11_find wz_X11 md_X11_find rfl (Nat.le_of_ble_eq_true rfl) ⟨Nat.le_of_ble_eq_true rfl, Nat.le_of_ble_eq_true rfl, Nat.le_of_ble_eq_true rfl, Nat.le_of_ble_eq_true rfl⟩ rfl rfl rfl rfl (by decide) (ro_cons (Or.inl r0) (ro_cons (Or.inl r1) (ro_cons (Or.inl r2) ro_nil))) dX11_stuck_2 (fun u hu => ?_)
    show V x cX11_stuck RX11 5 (rmU 5 125 0 0) [(pi, co 4 (pO fa m)), (fa, cn 0 6 fa0)] 5 [(0, ar mo), (1, ai player), (2, ai n)] [ar (pl player)] 0 0
    refine v_astore_n (pc := 5) (L2 := [(3, ar (pl player)), (0, ar mo), (1, ai player), (2, ai n)]) rfl (by decide) dX11_stuck_5 ?_
    refine v_aload_n (pc := 6) 0 rfl dX11_stuck_6 ?_
    refine v_ifnonnull_r (pc := 7) 12 dX11_stuck_7 (by decide) ?_
    refine v_iload_n (pc := 12) 3 rfl dX11_stuck_12 ?_
    refine v_callS (pc := 13) [] [0, 1] [(pi, co 4 (pO fa m)), (fa, cn 0 6 fa0)] (As := [ai n]) (rest := []) (c_X11_isNoPile n (by first | omega | assumption)) wl_X11_135 ws_X11_isNoPile wk_X11_isNoPile wz_X11 md_X11_isNoPile rfl (Nat.le_of_ble_eq_true rfl) ⟨Nat.le_of_ble_eq_true rfl, Nat.le_of_ble_eq_true rfl, Nat.le_of_ble_eq_true rfl, Nat.le_of_ble_eq_true rfl⟩ rfl rfl rfl rfl (by decide) ro_nil dX11_stuck_13 (fun u hu => ?_)
    show V x cX11_stuck RX11 5 (rmU 5 125 0 0) [(pi, co 4 (pO fa m)), (fa, cn 0 6 fa0)] 16 [(3, ar (pl player)), (0, ar mo), (1, ai player), (2, ai n)] [ai (if n < 1 ∨ 99 < n then 1 else 0)] 0 0
    refine v_ifb_eq (pc := 16) 22 dX11_stuck_16 (by decide) (fun c_1 => ?_) (fun c_1 => ?_)
    · skip
      refine v_aload_n (pc := 22) 1 rfl dX11_stuck_22 ?_
      refine v_aload_n (pc := 23) 0 rfl dX11_stuck_23 ?_
      refine v_iload_n (pc := 24) 3 rfl dX11_stuck_24 ?_
      refine v_callV (pc := 25) [0, 1] [] [] (As := [ar (pl player), ai n]) (rest := []) (c_X11_lay mo kw pi ta ms pt po hi nw pls ins tap e3 e4 e5 e6 e7 e8 bar fa m fa0 iv hq ns us sla ena cda cd sl en (pl player) (tu player) f player n (by assumption) (by assumption) (by first | omega | assumption) (by first | omega | assumption)) (c := 11) rfl (Or.inl r0) wl_X11_142 wi_X11_lay wv_X11_X11_lay_X11_lay wk_X11_lay wz_X11 md_X11_lay rfl (Nat.le_of_ble_eq_true rfl) ⟨Nat.le_of_ble_eq_true rfl, Nat.le_of_ble_eq_true rfl, Nat.le_of_ble_eq_true rfl, Nat.le_of_ble_eq_true rfl⟩ rfl rfl rfl rfl (by decide) (ro_cons (Or.inl r0) (ro_cons (Or.inl r1) (ro_cons (Or.inl r3) (ro_cons (Or.inl r4) (ro_cons (Or.inl r5) (ro_cons (Or.inl r6) (ro_cons (Or.inl r7) (ro_cons (Or.inl rP) (ro_cons (Or.inl rQ) ro_nil))))))))) dX11_stuck_25 (fun u hu => ?_)
      obtain ⟨fa2_2, rfl⟩ : ∃ z, z = u := ⟨_, rfl⟩
      show V x cX11_stuck RX11 5 (rmU 5 125 0 0) [(pi, co 4 (pO fa (pMf f player n))), (fa, cn 0 6 fa2_2)] 28 [(3, ar (pl player)), (0, ar mo), (1, ai player), (2, ai n)] [] 0 0
      have hob := kOp_b (p := player) (n := n) (more := 0) hSw ⟨hg0, hg1, hg2, hg3, hg4, hg5, hg6, hg7⟩ (by omega) (by omega)
      refine v_iconst (pc := 28) dX11_stuck_28 ?_
      refine v_aload_n (pc := 29) 1 rfl dX11_stuck_29 ?_
      refine v_get (pc := 30) (v := ar pi) 2 (Or.inl r0) fl_11_24_11 rfl dX11_stuck_30 ?_
      refine v_get (pc := 33) (v := ai (kOp f player n 0)) 6 (Or.inr ⟨0, rfl⟩) fl_11_150_4 rfl dX11_stuck_33 ?_
      refine v_bipush (pc := 36) dX11_stuck_36 (by decide) ?_
      refine v_aload_n (pc := 38) 0 rfl dX11_stuck_38 ?_
      refine v_get (pc := 39) (v := ai (f (25 + player))) 5 (Or.inl rP) (flP_11_89 (by omega)) rfl dX11_stuck_39 ?_
      refine v_imul (pc := 42) dX11_stuck_42 ?_
      refine v_isub (pc := 43) dX11_stuck_43 ?_
      refine v_callS (pc := 44) [] [0, 1] [(pi, co 4 (pO fa (pMf f player n))), (fa, cn 0 6 fa2_2)] (As := [ai 0, ai ((kOp f player n 0) - (10 * (f (25 + player))))]) (rest := []) (c_J9_max_7cf53 0 ((kOp f player n 0) - (10 * (f (25 + player)))) (by first | omega | assumption) (by first | omega | assumption)) wl_X11_191 ws_J9_max_7cf53 wk_J9_max_7cf53 wz_J9 md_J9_max_7cf53 rfl (Nat.le_of_ble_eq_true rfl) ⟨Nat.le_of_ble_eq_true rfl, Nat.le_of_ble_eq_true rfl, Nat.le_of_ble_eq_true rfl, Nat.le_of_ble_eq_true rfl⟩ rfl rfl rfl rfl (by decide) ro_nil dX11_stuck_44 (fun u hu => ?_)
      show V x cX11_stuck RX11 5 (rmU 5 125 0 0) [(pi, co 4 (pO fa (pMf f player n))), (fa, cn 0 6 fa2_2)] 47 [(3, ar (pl player)), (0, ar mo), (1, ai player), (2, ai n)] [ai (if 0 < ((kOp f player n 0) - (10 * (f (25 + player)))) then ((kOp f player n 0) - (10 * (f (25 + player)))) else 0)] 0 0
      refine v_istore (pc := 47) (L2 := [(4, ai (if 0 < ((kOp f player n 0) - (10 * (f (25 + player)))) then ((kOp f player n 0) - (10 * (f (25 + player)))) else 0)), (3, ar (pl player)), (0, ar mo), (1, ai player), (2, ai n)]) rfl (by decide) dX11_stuck_47 ?_
      refine v_iload (pc := 49) 0 rfl dX11_stuck_49 ?_
      refine v_bipush (pc := 51) dX11_stuck_51 (by decide) ?_
      refine v_icmp_gt (pc := 53) 61 dX11_stuck_53 (by decide) (by unfold iB; omega) (by unfold iB; omega) (fun c_3 => ?_) (fun c_3 => ?_)
      · skip
        refine v_bipush (pc := 61) dX11_stuck_61 (by decide) ?_
        exact hret ((pMf f player n), fa2_2) _ _ _ _ _ _ trivial (congrArg (fun z => some (ai z)) (by unfold qStuck; (repeat' split) <;> first | rfl | (exfalso; omega) | omega)) rfl (Nat.le_of_ble_eq_true rfl) (Nat.le_of_ble_eq_true rfl) dX11_stuck_63
      · skip
        refine v_iload (pc := 56) 0 rfl dX11_stuck_56 ?_
        refine v_goto (pc := 58) 63 dX11_stuck_58 (by decide) ?_
        exact hret ((pMf f player n), fa2_2) _ _ _ _ _ _ trivial (congrArg (fun z => some (ai z)) (by unfold qStuck; (repeat' split) <;> first | rfl | (exfalso; omega) | omega)) rfl (Nat.le_of_ble_eq_true rfl) (Nat.le_of_ble_eq_true rfl) dX11_stuck_63
    · skip
      refine v_bipush (pc := 19) dX11_stuck_19 (by decide) ?_
      exact hret (m, fa0) _ _ _ _ _ _ trivial (congrArg (fun z => some (ai z)) (by unfold qStuck; (repeat' split) <;> first | rfl | (exfalso; omega) | omega)) rfl (Nat.le_of_ble_eq_true rfl) (Nat.le_of_ble_eq_true rfl) dX11_stuck_21
  · skip
    refine v_callV (pc := 2) [] [0, 1] [(pi, co 4 (pO fa m)), (fa, cn 0 6 fa0)] (As := [ai player]) (rest := []) (c_X11_find_n mo kw pi ta ms pt po hi nw pls ins tap e3 e4 e5 e6 e7 e8 bar pv f player (by assumption) (by exact hp) (by first | omega | assumption)) (c := 11) rfl (Or.inl r0) wl_X11_99 wi_X11_find wv_X11_X11_find_X11_find wk_X11_find wz_X11 md_X11_find rfl (Nat.le_of_ble_eq_true rfl) ⟨Nat.le_of_ble_eq_true rfl, Nat.le_of_ble_eq_true rfl, Nat.le_of_ble_eq_true rfl, Nat.le_of_ble_eq_true rfl⟩ rfl rfl rfl rfl (by decide) (ro_cons (Or.inl r0) (ro_cons (Or.inl r1) (ro_cons (Or.inl r2) ro_nil))) dX11_stuck_2 (fun u hu => ?_)
    show V x cX11_stuck RX11 5 (rmU 5 125 0 0) [(pi, co 4 (pO fa m)), (fa, cn 0 6 fa0)] 5 [(0, ar mo), (1, ai player), (2, ai n)] [an] 0 0
    refine v_astore_n (pc := 5) (L2 := [(3, an), (0, ar mo), (1, ai player), (2, ai n)]) rfl (by decide) dX11_stuck_5 ?_
    refine v_aload_n (pc := 6) 0 rfl dX11_stuck_6 ?_
    refine v_ifnonnull_n (pc := 7) dX11_stuck_7 ?_
    refine v_iconst (pc := 10) dX11_stuck_10 ?_
    exact hret (m, fa0) _ _ _ _ _ _ trivial (congrArg (fun z => some (ai z)) (by unfold qStuck; (repeat' split) <;> first | rfl | (exfalso; omega) | omega)) rfl (Nat.le_of_ble_eq_true rfl) (Nat.le_of_ble_eq_true rfl) dX11_stuck_11
set_option maxHeartbeats 4000000 in
set_option maxRecDepth 100000 in
theorem c_X11_floor {gS : sG} (mo : Nat) (kw : Nat) (pi : Nat) (ta : Nat) (ms : Nat) (pt : Nat) (po : Nat) (hi : Int) (nw : Nat) (pls : Nat) (ins : Nat) (tap : Nat) (e3 : Nat) (e4 : Nat) (e5 : Nat) (e6 : Nat) (e7 : Nat) (e8 : Nat) (bar : Nat) (fa : Nat) (m : Nat → Int) (fa0 : Int → Int) (iv : Int → Option Nat) (hq : Nat) (ns : Int) (us : Int) (sla : Nat) (ena : Nat) (cda : Nat) (cd : Int → Int) (sl : Int → Int) (en : Int → Int) (pv : Int → Option Nat) (pl : Int → Nat) (tu : Int → Nat) (f : Int → Int) (player : Int) (n : Int) (force : Int) (part : Int) (hS : SOK f) (hI : inC f iv bar hq ns us sl en cd) (hpv : ∀ i : Int, 0 ≤ i → i ≤ f 0 - 1 → pv i = some (pl i)) (hb_player : -2147483648 ≤ player ∧ player < 2147483648) (hb_n : -2147483648 ≤ n ∧ n < 2147483648) (hb_force : -2147483648 ≤ force ∧ force < 2147483648) (hb_part : -2147483648 ≤ part ∧ part < 2147483648) : Ct gS (S := (Nat → Int) × (Int → Int)) yX11_floor cX11_floor 8 (some .long) 5 125 0 0 [ar mo, ai player, ai n, ai force, ai part] [(pi, co 4 (pO fa m)), (fa, cn 0 6 fa0)] (fun q => q ∈ ([(mo, co 11 [ar nw, ar kw, ar pi, ar ta, ar ms, ar pt, ar po, ai hi]), (nw, co 10 [ar pls, ar ins, ar tap, ar e3, ar e4, ar e5, ar e6, ar e7, ar e8, ai (f 0), ai (f 1), ai (f 4), ai (f 2), ai (f 3), ai (f 6), ar bar]), (pls, cq 3 6 pv), (ins, cq 2 5 iv), (hq, co 3 [ai (kWide f), ai (kPay f), ai ns, ai us, ar sla, ar ena, ar cda]), (cda, cn 0 100 cd), (sla, cn 0 10 sl), (ena, cn 0 10 en)] : aW) ++ zpA ta f pl tu) (fun u => True) (fun u => some (al (qFloor f player n force part))) (fun u => [(pi, co 4 (pO fa u.1)), (fa, cn 0 6 u.2)]) := by
  refine ct_L RX11 [(0, ar mo), (1, ai player), (2, ai n), (3, ai force), (4, ai part)] (by decide) rfl (Nat.le_of_ble_eq_true rfl) rfl (fun x hgS hro hret => ?_)
  subst hgS
  have r0 := hro _ (List.mem_append_left _ (mem_at 0 rfl))
  have r1 := hro _ (List.mem_append_left _ (mem_at 1 rfl))
  have r2 := hro _ (List.mem_append_left _ (mem_at 2 rfl))
  have r3 := hro _ (List.mem_append_left _ (mem_at 3 rfl))
  have r4 := hro _ (List.mem_append_left _ (mem_at 4 rfl))
  have r5 := hro _ (List.mem_append_left _ (mem_at 5 rfl))
  have r6 := hro _ (List.mem_append_left _ (mem_at 6 rfl))
  have r7 := hro _ (List.mem_append_left _ (mem_at 7 rfl))
  have hra : ∀ q, q ∈ zpA ta f pl tu → Ro x q := fun q h => hro _ (List.mem_append_right _ h)
  obtain ⟨⟨hg0, hg1, hg2, hg3, hg4, hg5, hg6, hg7⟩, hSp, hSh, hSs, hSb, hSt, hSw⟩ := id hS
  show V x cX11_floor RX11 8 (rmU 5 125 0 0) [(pi, co 4 (pO fa m)), (fa, cn 0 6 fa0)] 0 [(0, ar mo), (1, ai player), (2, ai n), (3, ai force), (4, ai part)] [] 0 0
  refine v_aload_n (pc := 0) 0 rfl dX11_floor_0 ?_
  refine v_iload_n (pc := 1) 1 rfl dX11_floor_1 ?_
  rcases Classical.em (0 ≤ player ∧ player ≤ f 0 - 1) with hp | hp
  · skip
    have hpl := hpv player hp.1 hp.2
    have rP := hra _ (zpA_p (ta := ta) (pl := pl) (tu := tu) hp)
    have rQ := hra _ (zpA_t (ta := ta) (pl := pl) (tu := tu) hp)
    have hp6 : 0 ≤ player ∧ player < 6 := by omega
    obtain ⟨hpp, hf1, hf2, hf3, hf4, hf5, hf6, hf7, hf8⟩ := hSp player hp6.1 hp6.2
    refine v_callV (pc := 2) [] [0, 1] [(pi, co 4 (pO fa m)), (fa, cn 0 6 fa0)] (As := [ai player]) (rest := []) (c_X11_find_y mo kw pi ta ms pt po hi nw pls ins tap e3 e4 e5 e6 e7 e8 bar pv (pl player) f player (by assumption) (by exact hpl) (by exact hp)) (c := 11) rfl (Or.inl r0) wl_X11_99 wi_X11_find wv_X11_X11_find_X11_find wk_X11_find wz_X11 md_X11_find rfl (Nat.le_of_ble_eq_true rfl) ⟨Nat.le_of_ble_eq_true rfl, Nat.le_of_ble_eq_true rfl, Nat.le_of_ble_eq_true rfl, Nat.le_of_ble_eq_true rfl⟩ rfl rfl rfl rfl (by decide) (ro_cons (Or.inl r0) (ro_cons (Or.inl r1) (ro_cons (Or.inl r2) ro_nil))) dX11_floor_2 (fun u hu => ?_)
    show V x cX11_floor RX11 8 (rmU 5 125 0 0) [(pi, co 4 (pO fa m)), (fa, cn 0 6 fa0)] 5 [(0, ar mo), (1, ai player), (2, ai n), (3, ai force), (4, ai part)] [ar (pl player)] 0 0
    refine v_astore (pc := 5) (L2 := [(5, ar (pl player)), (0, ar mo), (1, ai player), (2, ai n), (3, ai force), (4, ai part)]) rfl (by decide) dX11_floor_5 ?_
    refine v_aload (pc := 7) 0 rfl dX11_floor_7 ?_
    refine v_ifnull_r (pc := 9) dX11_floor_9 ?_
    refine v_iload_n (pc := 12) 3 rfl dX11_floor_12 ?_
    refine v_callS (pc := 13) [] [0, 1] [(pi, co 4 (pO fa m)), (fa, cn 0 6 fa0)] (As := [ai n]) (rest := []) (c_X11_isNoPile n (by first | omega | assumption)) wl_X11_135 ws_X11_isNoPile wk_X11_isNoPile wz_X11 md_X11_isNoPile rfl (Nat.le_of_ble_eq_true rfl) ⟨Nat.le_of_ble_eq_true rfl, Nat.le_of_ble_eq_true rfl, Nat.le_of_ble_eq_true rfl, Nat.le_of_ble_eq_true rfl⟩ rfl rfl rfl rfl (by decide) ro_nil dX11_floor_13 (fun u hu => ?_)
    show V x cX11_floor RX11 8 (rmU 5 125 0 0) [(pi, co 4 (pO fa m)), (fa, cn 0 6 fa0)] 16 [(5, ar (pl player)), (0, ar mo), (1, ai player), (2, ai n), (3, ai force), (4, ai part)] [ai (if n < 1 ∨ 99 < n then 1 else 0)] 0 0
    refine v_ifb_ne (pc := 16) 34 dX11_floor_16 (by decide) (fun c_1 => ?_) (fun c_1 => ?_)
    · skip
      refine v_ldc2 (pc := 34) (z := (-9223372036854775808)) (bw_mem 727 (by decide +kernel) rfl) dX11_floor_34 ?_
      exact hret (m, fa0) _ _ _ _ _ _ trivial (congrArg (fun z => some (al z)) (by unfold qFloor; (repeat' split) <;> first | rfl | (exfalso; omega) | omega)) rfl (Nat.le_of_ble_eq_true rfl) (Nat.le_of_ble_eq_true rfl) dX11_floor_37
    · skip
      refine v_iload_n (pc := 19) 4 rfl dX11_floor_19 ?_
      refine v_callS (pc := 20) [] [0, 1] [(pi, co 4 (pO fa m)), (fa, cn 0 6 fa0)] (As := [ai force]) (rest := []) (c_X11_isNoForce force (by first | omega | assumption)) wl_X11_139 ws_X11_isNoForce wk_X11_isNoForce wz_X11 md_X11_isNoForce rfl (Nat.le_of_ble_eq_true rfl) ⟨Nat.le_of_ble_eq_true rfl, Nat.le_of_ble_eq_true rfl, Nat.le_of_ble_eq_true rfl, Nat.le_of_ble_eq_true rfl⟩ rfl rfl rfl rfl (by decide) ro_nil dX11_floor_20 (fun u hu => ?_)
      show V x cX11_floor RX11 8 (rmU 5 125 0 0) [(pi, co 4 (pO fa m)), (fa, cn 0 6 fa0)] 23 [(5, ar (pl player)), (0, ar mo), (1, ai player), (2, ai n), (3, ai force), (4, ai part)] [ai (if force < 0 ∨ 20 < force then 1 else 0)] 0 0
      refine v_ifb_ne (pc := 23) 34 dX11_floor_23 (by decide) (fun c_2 => ?_) (fun c_2 => ?_)
      · skip
        refine v_ldc2 (pc := 34) (z := (-9223372036854775808)) (bw_mem 727 (by decide +kernel) rfl) dX11_floor_34 ?_
        exact hret (m, fa0) _ _ _ _ _ _ trivial (congrArg (fun z => some (al z)) (by unfold qFloor; (repeat' split) <;> first | rfl | (exfalso; omega) | omega)) rfl (Nat.le_of_ble_eq_true rfl) (Nat.le_of_ble_eq_true rfl) dX11_floor_37
      · skip
        refine v_iload (pc := 26) 5 rfl dX11_floor_26 ?_
        refine v_callS (pc := 28) [] [0, 1] [(pi, co 4 (pO fa m)), (fa, cn 0 6 fa0)] (As := [ai part]) (rest := []) (c_X11_isNoPart part (by first | omega | assumption)) wl_X11_166 ws_X11_isNoPart wk_X11_isNoPart wz_X11 md_X11_isNoPart rfl (Nat.le_of_ble_eq_true rfl) ⟨Nat.le_of_ble_eq_true rfl, Nat.le_of_ble_eq_true rfl, Nat.le_of_ble_eq_true rfl, Nat.le_of_ble_eq_true rfl⟩ rfl rfl rfl rfl (by decide) ro_nil dX11_floor_28 (fun u hu => ?_)
        show V x cX11_floor RX11 8 (rmU 5 125 0 0) [(pi, co 4 (pO fa m)), (fa, cn 0 6 fa0)] 31 [(5, ar (pl player)), (0, ar mo), (1, ai player), (2, ai n), (3, ai force), (4, ai part)] [ai (if part < 0 ∨ 1 < part then 1 else 0)] 0 0
        refine v_ifb_eq (pc := 31) 38 dX11_floor_31 (by decide) (fun c_3 => ?_) (fun c_3 => ?_)
        · skip
          refine v_aload_n (pc := 38) 1 rfl dX11_floor_38 ?_
          refine v_aload (pc := 39) 0 rfl dX11_floor_39 ?_
          refine v_iload_n (pc := 41) 3 rfl dX11_floor_41 ?_
          refine v_callV (pc := 42) [0, 1] [] [] (As := [ar (pl player), ai n]) (rest := []) (c_X11_lay mo kw pi ta ms pt po hi nw pls ins tap e3 e4 e5 e6 e7 e8 bar fa m fa0 iv hq ns us sla ena cda cd sl en (pl player) (tu player) f player n (by assumption) (by assumption) (by first | omega | assumption) (by first | omega | assumption)) (c := 11) rfl (Or.inl r0) wl_X11_142 wi_X11_lay wv_X11_X11_lay_X11_lay wk_X11_lay wz_X11 md_X11_lay rfl (Nat.le_of_ble_eq_true rfl) ⟨Nat.le_of_ble_eq_true rfl, Nat.le_of_ble_eq_true rfl, Nat.le_of_ble_eq_true rfl, Nat.le_of_ble_eq_true rfl⟩ rfl rfl rfl rfl (by decide) (ro_cons (Or.inl r0) (ro_cons (Or.inl r1) (ro_cons (Or.inl r3) (ro_cons (Or.inl r4) (ro_cons (Or.inl r5) (ro_cons (Or.inl r6) (ro_cons (Or.inl r7) (ro_cons (Or.inl rP) (ro_cons (Or.inl rQ) ro_nil))))))))) dX11_floor_42 (fun u hu => ?_)
          obtain ⟨fa2_4, rfl⟩ : ∃ z, z = u := ⟨_, rfl⟩
          show V x cX11_floor RX11 8 (rmU 5 125 0 0) [(pi, co 4 (pO fa (pMf f player n))), (fa, cn 0 6 fa2_4)] 45 [(5, ar (pl player)), (0, ar mo), (1, ai player), (2, ai n), (3, ai force), (4, ai part)] [] 0 0
          refine v_bipush (pc := 45) dX11_floor_45 (by decide) ?_
          refine v_iload_n (pc := 47) 3 rfl dX11_floor_47 ?_
          refine v_imul (pc := 48) dX11_floor_48 ?_
          refine v_aload_n (pc := 49) 1 rfl dX11_floor_49 ?_
          refine v_get (pc := 50) (v := ar pi) 2 (Or.inl r0) fl_11_24_11 rfl dX11_floor_50 ?_
          refine v_iload_n (pc := 53) 4 rfl dX11_floor_53 ?_
          refine v_callV (pc := 54) [] [0, 1] [(pi, co 4 (pO fa (pMf f player n))), (fa, cn 0 6 fa2_4)] (As := [ai force]) (rest := [ai (10 * n)]) (c_F_caughtByAllDraws pi fa f player n force (by assumption) (by first | omega | assumption) (by first | omega | assumption) (by first | omega | assumption)) (c := 4) rfl (Or.inr ⟨0, rfl⟩) wl_X11_171 wi_X4_caughtByAllDraws wv_X4_X4_caughtByAllDraws_X4_caughtByAllDraws wk_X4_caughtByAllDraws wz_X4 md_X4_caughtByAllDraws rfl (Nat.le_of_ble_eq_true rfl) ⟨Nat.le_of_ble_eq_true rfl, Nat.le_of_ble_eq_true rfl, Nat.le_of_ble_eq_true rfl, Nat.le_of_ble_eq_true rfl⟩ rfl rfl rfl rfl (by decide) (ro_cons (Or.inr ⟨0, rfl, by decide⟩) ro_nil) dX11_floor_54 (fun u hu => ?_)
          show V x cX11_floor RX11 8 (rmU 5 125 0 0) [(pi, co 4 (pO fa (pMf f player n))), (fa, cn 0 6 fa2_4)] 57 [(5, ar (pl player)), (0, ar mo), (1, ai player), (2, ai n), (3, ai force), (4, ai part)] [ai (fSum f player n force 10), ai (10 * n)] 0 0
          have hsb := fSum_b (f := f) (p := player) (n := n) (force := force) (by omega) 10
          have hml := mul_bnd (kPay_b ⟨hg0, hg1, hg2, hg3, hg4, hg5, hg6, hg7⟩) (a := kPay f) (b := 10 * n - fSum f player n force 10) (B := 990) (by omega)
          have hpb := kPay_b ⟨hg0, hg1, hg2, hg3, hg4, hg5, hg6, hg7⟩
          refine v_isub (pc := 57) dX11_floor_57 ?_
          refine v_i2l (pc := 58) (by unfold iB; omega) dX11_floor_58 ?_
          refine v_lstore (pc := 59) (L2 := [(6, al ((10 * n) - (fSum f player n force 10))), (5, ar (pl player)), (0, ar mo), (1, ai player), (2, ai n), (3, ai force), (4, ai part)]) rfl (by decide) dX11_floor_59 ?_
          refine v_aload_n (pc := 61) 2 rfl dX11_floor_61 ?_
          refine v_get (pc := 62) (v := ar nw) 0 (Or.inl r0) fl_11_12_11 rfl dX11_floor_62 ?_
          refine v_callV (pc := 65) [] [0, 1] [(pi, co 4 (pO fa (pMf f player n))), (fa, cn 0 6 fa2_4)] (As := []) (rest := []) (c_X10_holding nw pls ins tap e3 e4 e5 e6 e7 e8 (f 0) (f 1) (f 4) (f 2) (f 3) (f 6) bar iv hq (by exact hI.1)) (c := 10) rfl (Or.inl r1) wl_X11_124 wi_X10_holding wv_X10_X10_holding_X10_holding wk_X10_holding wz_X10 md_X10_holding rfl (Nat.le_of_ble_eq_true rfl) ⟨Nat.le_of_ble_eq_true rfl, Nat.le_of_ble_eq_true rfl, Nat.le_of_ble_eq_true rfl, Nat.le_of_ble_eq_true rfl⟩ rfl rfl rfl rfl (by decide) (ro_cons (Or.inl r1) (ro_cons (Or.inl r3) ro_nil)) dX11_floor_65 (fun u hu => ?_)
          show V x cX11_floor RX11 8 (rmU 5 125 0 0) [(pi, co 4 (pO fa (pMf f player n))), (fa, cn 0 6 fa2_4)] 68 [(6, al ((10 * n) - (fSum f player n force 10))), (5, ar (pl player)), (0, ar mo), (1, ai player), (2, ai n), (3, ai force), (4, ai part)] [ar hq] 0 0
          refine v_get (pc := 68) (v := ai (kPay f)) 1 (Or.inl r4) fl_11_132_3 rfl dX11_floor_68 ?_
          refine v_i2l (pc := 71) (by unfold iB; omega) dX11_floor_71 ?_
          refine v_lload (pc := 72) 0 rfl dX11_floor_72 ?_
          refine v_lmul (pc := 74) dX11_floor_74 ?_
          refine v_ldc2 (pc := 75) (z := 10) (bw_mem 733 (by decide +kernel) rfl) dX11_floor_75 ?_
          refine v_iload (pc := 78) 6 rfl dX11_floor_78 ?_
          refine v_callS (pc := 80) [] [0, 1] [(pi, co 4 (pO fa (pMf f player n))), (fa, cn 0 6 fa2_4)] (As := [al ((kPay f) * ((10 * n) - (fSum f player n force 10))), al 10, ai part]) (rest := []) (c_X11_lowest ((kPay f) * ((10 * n) - (fSum f player n force 10))) 10 part (by first | omega | assumption) (by first | omega | assumption) (by first | omega | assumption)) wl_X11_176 ws_X11_lowest wk_X11_lowest wz_X11 md_X11_lowest rfl (Nat.le_of_ble_eq_true rfl) ⟨Nat.le_of_ble_eq_true rfl, Nat.le_of_ble_eq_true rfl, Nat.le_of_ble_eq_true rfl, Nat.le_of_ble_eq_true rfl⟩ rfl rfl rfl rfl (by decide) ro_nil dX11_floor_80 (fun u hu => ?_)
          show V x cX11_floor RX11 8 (rmU 5 125 0 0) [(pi, co 4 (pO fa (pMf f player n))), (fa, cn 0 6 fa2_4)] 83 [(6, al ((10 * n) - (fSum f player n force 10))), (5, ar (pl player)), (0, ar mo), (1, ai player), (2, ai n), (3, ai force), (4, ai part)] [al (kFr ((kPay f) * ((10 * n) - (fSum f player n force 10))) 10 part)] 0 0
          exact hret ((pMf f player n), fa2_4) _ _ _ _ _ _ trivial (congrArg (fun z => some (al z)) (by unfold qFloor; (repeat' split) <;> first | rfl | (exfalso; omega) | omega)) rfl (Nat.le_of_ble_eq_true rfl) (Nat.le_of_ble_eq_true rfl) dX11_floor_83
        · skip
          refine v_ldc2 (pc := 34) (z := (-9223372036854775808)) (bw_mem 727 (by decide +kernel) rfl) dX11_floor_34 ?_
          exact hret (m, fa0) _ _ _ _ _ _ trivial (congrArg (fun z => some (al z)) (by unfold qFloor; (repeat' split) <;> first | rfl | (exfalso; omega) | omega)) rfl (Nat.le_of_ble_eq_true rfl) (Nat.le_of_ble_eq_true rfl) dX11_floor_37
  · skip
    refine v_callV (pc := 2) [] [0, 1] [(pi, co 4 (pO fa m)), (fa, cn 0 6 fa0)] (As := [ai player]) (rest := []) (c_X11_find_n mo kw pi ta ms pt po hi nw pls ins tap e3 e4 e5 e6 e7 e8 bar pv f player (by assumption) (by exact hp) (by first | omega | assumption)) (c := 11) rfl (Or.inl r0) wl_X11_99 wi_X11_find wv_X11_X11_find_X11_find wk_X11_find wz_X11 md_X11_find rfl (Nat.le_of_ble_eq_true rfl) ⟨Nat.le_of_ble_eq_true rfl, Nat.le_of_ble_eq_true rfl, Nat.le_of_ble_eq_true rfl, Nat.le_of_ble_eq_true rfl⟩ rfl rfl rfl rfl (by decide) (ro_cons (Or.inl r0) (ro_cons (Or.inl r1) (ro_cons (Or.inl r2) ro_nil))) dX11_floor_2 (fun u hu => ?_)
    show V x cX11_floor RX11 8 (rmU 5 125 0 0) [(pi, co 4 (pO fa m)), (fa, cn 0 6 fa0)] 5 [(0, ar mo), (1, ai player), (2, ai n), (3, ai force), (4, ai part)] [an] 0 0
    refine v_astore (pc := 5) (L2 := [(5, an), (0, ar mo), (1, ai player), (2, ai n), (3, ai force), (4, ai part)]) rfl (by decide) dX11_floor_5 ?_
    refine v_aload (pc := 7) 0 rfl dX11_floor_7 ?_
    refine v_ifnull_n (pc := 9) 34 dX11_floor_9 (by decide) ?_
    refine v_ldc2 (pc := 34) (z := (-9223372036854775808)) (bw_mem 727 (by decide +kernel) rfl) dX11_floor_34 ?_
    exact hret (m, fa0) _ _ _ _ _ _ trivial (congrArg (fun z => some (al z)) (by unfold qFloor; (repeat' split) <;> first | rfl | (exfalso; omega) | omega)) rfl (Nat.le_of_ble_eq_true rfl) (Nat.le_of_ble_eq_true rfl) dX11_floor_37
set_option maxHeartbeats 4000000 in
set_option maxRecDepth 100000 in
theorem c_X11_record {gS : sG} (mo : Nat) (kw : Nat) (pi : Nat) (ta : Nat) (ms : Nat) (pt : Nat) (po : Nat) (hi : Int) (nw : Nat) (pls : Nat) (ins : Nat) (tap : Nat) (e3 : Nat) (e4 : Nat) (e5 : Nat) (e6 : Nat) (e7 : Nat) (e8 : Nat) (bar : Nat) (fa : Nat) (m : Nat → Int) (fa0 : Int → Int) (iv : Int → Option Nat) (hq : Nat) (ns : Int) (us : Int) (sla : Nat) (ena : Nat) (cda : Nat) (cd : Int → Int) (sl : Int → Int) (en : Int → Int) (pv : Int → Option Nat) (pl : Int → Nat) (tu : Int → Nat) (f : Int → Int) (player : Int) (n : Int) (hS : SOK f) (hI : inC f iv bar hq ns us sl en cd) (hpv : ∀ i : Int, 0 ≤ i → i ≤ f 0 - 1 → pv i = some (pl i)) (hb_player : -2147483648 ≤ player ∧ player < 2147483648) (hb_n : -2147483648 ≤ n ∧ n < 2147483648) : Ct gS (S := (Nat → Int) × (Int → Int)) yX11_record cX11_record 9 (some .int) 5 125 0 0 [ar mo, ai player, ai n] [(pi, co 4 (pO fa m)), (fa, cn 0 6 fa0)] (fun q => q ∈ ([(mo, co 11 [ar nw, ar kw, ar pi, ar ta, ar ms, ar pt, ar po, ai hi]), (nw, co 10 [ar pls, ar ins, ar tap, ar e3, ar e4, ar e5, ar e6, ar e7, ar e8, ai (f 0), ai (f 1), ai (f 4), ai (f 2), ai (f 3), ai (f 6), ar bar]), (pls, cq 3 6 pv), (ins, cq 2 5 iv), (hq, co 3 [ai (kWide f), ai (kPay f), ai ns, ai us, ar sla, ar ena, ar cda]), (cda, cn 0 100 cd), (sla, cn 0 10 sl), (ena, cn 0 10 en)] : aW) ++ zpA ta f pl tu) (fun u => True) (fun u => some (ai (qRecord f player n))) (fun u => [(pi, co 4 (pO fa u.1)), (fa, cn 0 6 u.2)]) := by
  refine ct_I RX11 [(0, ar mo), (1, ai player), (2, ai n)] (by decide) rfl (Nat.le_of_ble_eq_true rfl) rfl (fun x hgS hro hret => ?_)
  subst hgS
  have r0 := hro _ (List.mem_append_left _ (mem_at 0 rfl))
  have r1 := hro _ (List.mem_append_left _ (mem_at 1 rfl))
  have r2 := hro _ (List.mem_append_left _ (mem_at 2 rfl))
  have r3 := hro _ (List.mem_append_left _ (mem_at 3 rfl))
  have r4 := hro _ (List.mem_append_left _ (mem_at 4 rfl))
  have r5 := hro _ (List.mem_append_left _ (mem_at 5 rfl))
  have r6 := hro _ (List.mem_append_left _ (mem_at 6 rfl))
  have r7 := hro _ (List.mem_append_left _ (mem_at 7 rfl))
  have hra : ∀ q, q ∈ zpA ta f pl tu → Ro x q := fun q h => hro _ (List.mem_append_right _ h)
  obtain ⟨⟨hg0, hg1, hg2, hg3, hg4, hg5, hg6, hg7⟩, hSp, hSh, hSs, hSb, hSt, hSw⟩ := id hS
  show V x cX11_record RX11 9 (rmU 5 125 0 0) [(pi, co 4 (pO fa m)), (fa, cn 0 6 fa0)] 0 [(0, ar mo), (1, ai player), (2, ai n)] [] 0 0
  refine v_aload_n (pc := 0) 0 rfl dX11_record_0 ?_
  refine v_iload_n (pc := 1) 1 rfl dX11_record_1 ?_
  rcases Classical.em (0 ≤ player ∧ player ≤ f 0 - 1) with hp | hp
  · skip
    have hpl := hpv player hp.1 hp.2
    have rP := hra _ (zpA_p (ta := ta) (pl := pl) (tu := tu) hp)
    have rQ := hra _ (zpA_t (ta := ta) (pl := pl) (tu := tu) hp)
    have hp6 : 0 ≤ player ∧ player < 6 := by omega
    obtain ⟨hpp, hf1, hf2, hf3, hf4, hf5, hf6, hf7, hf8⟩ := hSp player hp6.1 hp6.2
    refine v_callV (pc := 2) [] [0, 1] [(pi, co 4 (pO fa m)), (fa, cn 0 6 fa0)] (As := [ai player]) (rest := []) (c_X11_find_y mo kw pi ta ms pt po hi nw pls ins tap e3 e4 e5 e6 e7 e8 bar pv (pl player) f player (by assumption) (by exact hpl) (by exact hp)) (c := 11) rfl (Or.inl r0) wl_X11_99 wi_X11_find wv_X11_X11_find_X11_find wk_X11_find wz_X11 md_X11_find rfl (Nat.le_of_ble_eq_true rfl) ⟨Nat.le_of_ble_eq_true rfl, Nat.le_of_ble_eq_true rfl, Nat.le_of_ble_eq_true rfl, Nat.le_of_ble_eq_true rfl⟩ rfl rfl rfl rfl (by decide) (ro_cons (Or.inl r0) (ro_cons (Or.inl r1) (ro_cons (Or.inl r2) ro_nil))) dX11_record_2 (fun u hu => ?_)
    show V x cX11_record RX11 9 (rmU 5 125 0 0) [(pi, co 4 (pO fa m)), (fa, cn 0 6 fa0)] 5 [(0, ar mo), (1, ai player), (2, ai n)] [ar (pl player)] 0 0
    refine v_astore_n (pc := 5) (L2 := [(3, ar (pl player)), (0, ar mo), (1, ai player), (2, ai n)]) rfl (by decide) dX11_record_5 ?_
    refine v_aload_n (pc := 6) 0 rfl dX11_record_6 ?_
    refine v_ifnonnull_r (pc := 7) 12 dX11_record_7 (by decide) ?_
    refine v_iload_n (pc := 12) 3 rfl dX11_record_12 ?_
    refine v_callS (pc := 13) [] [0, 1] [(pi, co 4 (pO fa m)), (fa, cn 0 6 fa0)] (As := [ai n]) (rest := []) (c_X11_isNoPile n (by first | omega | assumption)) wl_X11_135 ws_X11_isNoPile wk_X11_isNoPile wz_X11 md_X11_isNoPile rfl (Nat.le_of_ble_eq_true rfl) ⟨Nat.le_of_ble_eq_true rfl, Nat.le_of_ble_eq_true rfl, Nat.le_of_ble_eq_true rfl, Nat.le_of_ble_eq_true rfl⟩ rfl rfl rfl rfl (by decide) ro_nil dX11_record_13 (fun u hu => ?_)
    show V x cX11_record RX11 9 (rmU 5 125 0 0) [(pi, co 4 (pO fa m)), (fa, cn 0 6 fa0)] 16 [(3, ar (pl player)), (0, ar mo), (1, ai player), (2, ai n)] [ai (if n < 1 ∨ 99 < n then 1 else 0)] 0 0
    refine v_ifb_eq (pc := 16) 22 dX11_record_16 (by decide) (fun c_1 => ?_) (fun c_1 => ?_)
    · skip
      refine v_aload_n (pc := 22) 1 rfl dX11_record_22 ?_
      refine v_aload_n (pc := 23) 0 rfl dX11_record_23 ?_
      refine v_iload_n (pc := 24) 3 rfl dX11_record_24 ?_
      refine v_callV (pc := 25) [0, 1] [] [] (As := [ar (pl player), ai n]) (rest := []) (c_X11_lay mo kw pi ta ms pt po hi nw pls ins tap e3 e4 e5 e6 e7 e8 bar fa m fa0 iv hq ns us sla ena cda cd sl en (pl player) (tu player) f player n (by assumption) (by assumption) (by first | omega | assumption) (by first | omega | assumption)) (c := 11) rfl (Or.inl r0) wl_X11_142 wi_X11_lay wv_X11_X11_lay_X11_lay wk_X11_lay wz_X11 md_X11_lay rfl (Nat.le_of_ble_eq_true rfl) ⟨Nat.le_of_ble_eq_true rfl, Nat.le_of_ble_eq_true rfl, Nat.le_of_ble_eq_true rfl, Nat.le_of_ble_eq_true rfl⟩ rfl rfl rfl rfl (by decide) (ro_cons (Or.inl r0) (ro_cons (Or.inl r1) (ro_cons (Or.inl r3) (ro_cons (Or.inl r4) (ro_cons (Or.inl r5) (ro_cons (Or.inl r6) (ro_cons (Or.inl r7) (ro_cons (Or.inl rP) (ro_cons (Or.inl rQ) ro_nil))))))))) dX11_record_25 (fun u hu => ?_)
      obtain ⟨fa2_2, rfl⟩ : ∃ z, z = u := ⟨_, rfl⟩
      show V x cX11_record RX11 9 (rmU 5 125 0 0) [(pi, co 4 (pO fa (pMf f player n))), (fa, cn 0 6 fa2_2)] 28 [(3, ar (pl player)), (0, ar mo), (1, ai player), (2, ai n)] [] 0 0
      refine v_bipush (pc := 28) dX11_record_28 (by decide) ?_
      refine v_aload_n (pc := 30) 1 rfl dX11_record_30 ?_
      refine v_get (pc := 31) (v := ar pi) 2 (Or.inl r0) fl_11_24_11 rfl dX11_record_31 ?_
      refine v_callV (pc := 34) [] [0, 1] [(pi, co 4 (pO fa (pMf f player n))), (fa, cn 0 6 fa2_2)] (As := []) (rest := [ai 10]) (c_F_bestOdds pi fa f player n (by assumption) (by first | omega | assumption) (by first | omega | assumption)) (c := 4) rfl (Or.inr ⟨0, rfl⟩) wl_X11_184 wi_X4_bestOdds wv_X4_X4_bestOdds_X4_bestOdds wk_X4_bestOdds wz_X4 md_X4_bestOdds rfl (Nat.le_of_ble_eq_true rfl) ⟨Nat.le_of_ble_eq_true rfl, Nat.le_of_ble_eq_true rfl, Nat.le_of_ble_eq_true rfl, Nat.le_of_ble_eq_true rfl⟩ rfl rfl rfl rfl (by decide) (ro_cons (Or.inr ⟨0, rfl, by decide⟩) ro_nil) dX11_record_34 (fun u hu => ?_)
      show V x cX11_record RX11 9 (rmU 5 125 0 0) [(pi, co 4 (pO fa (pMf f player n))), (fa, cn 0 6 fa2_2)] 37 [(3, ar (pl player)), (0, ar mo), (1, ai player), (2, ai n)] [ai (fBest f player n), ai 10] 0 0
      have hbb := fBest_b (f := f) (p := player) (n := n)
      refine v_isub (pc := 37) dX11_record_37 ?_
      refine v_i2l (pc := 38) (by unfold iB; omega) dX11_record_38 ?_
      refine v_lstore (pc := 39) (L2 := [(4, al (10 - (fBest f player n))), (3, ar (pl player)), (0, ar mo), (1, ai player), (2, ai n)]) rfl (by decide) dX11_record_39 ?_
      refine v_lconst1 (pc := 41) dX11_record_41 ?_
      refine v_lstore (pc := 42) (L2 := [(6, al 1), (4, al (10 - (fBest f player n))), (3, ar (pl player)), (0, ar mo), (1, ai player), (2, ai n)]) rfl (by decide) dX11_record_42 ?_
      refine v_iconst (pc := 44) dX11_record_44 ?_
      refine v_istore (pc := 45) (L2 := [(8, ai 1), (6, al 1), (4, al (10 - (fBest f player n))), (3, ar (pl player)), (0, ar mo), (1, ai player), (2, ai n)]) rfl (by decide) dX11_record_45 ?_
      have lp47 : ∀ (mm : Nat) (t : Int) (mi : Int), (10 - t).toNat = mm → (1 ≤ t ∧ t ≤ 10) → (mi = (10 - fBest f player n) ^ (t - 1).toNat) → (rcd (fBest f player n) 9 1 = rcd (fBest f player n) (10 - t.toNat) t.toNat) → V x cX11_record RX11 9 (rmU 5 125 0 0) [(pi, co 4 (pO fa (pMf f player n))), (fa, cn 0 6 fa2_2)] 47 [(0, ar mo), (4, al (10 - fBest f player n)), (6, al mi), (8, ai t)] [] 0 0 := by
        intro mm
        induction mm using Nat.strongRecOn with
        | _ mm ih =>
          intro t mi hmm ht hmi hrc
          have hp2 : t ≤ 9 → 0 ≤ (10 - fBest f player n) ^ t.toNat ∧ (10 - fBest f player n) ^ t.toNat ≤ 1000000000 := fun q => by have h1 := pow_b (n := 10 - fBest f player n) (by omega) t.toNat; have h2 : (10 : Int) ^ t.toNat ≤ 1000000000 := (by rcases (show t = 1 ∨ t = 2 ∨ t = 3 ∨ t = 4 ∨ t = 5 ∨ t = 6 ∨ t = 7 ∨ t = 8 ∨ t = 9 by omega) with rfl | rfl | rfl | rfl | rfl | rfl | rfl | rfl | rfl <;> decide); omega
          have hp3 : mi * (10 - fBest f player n) = (10 - fBest f player n) ^ t.toNat := by rw [hmi, show t.toNat = (t - 1).toNat + 1 by omega, Int.pow_succ]
          have hp4 : t ≤ 9 → 0 ≤ (10 : Int) ^ t.toNat ∧ (10 : Int) ^ t.toNat ≤ 1000000000 := fun q => by rcases (show t = 1 ∨ t = 2 ∨ t = 3 ∨ t = 4 ∨ t = 5 ∨ t = 6 ∨ t = 7 ∨ t = 8 ∨ t = 9 by omega) with rfl | rfl | rfl | rfl | rfl | rfl | rfl | rfl | rfl <;> decide
          refine v_iload (pc := 47) 3 rfl dX11_record_47 ?_
          refine v_bipush (pc := 49) dX11_record_49 (by decide) ?_
          refine v_icmp_gt (pc := 51) 85 dX11_record_51 (by decide) (by unfold iB; omega) (by unfold iB; omega) (fun c_3 => ?_) (fun c_3 => ?_)
          · skip
            refine v_bipush (pc := 85) dX11_record_85 (by decide) ?_
            exact hret ((pMf f player n), fa2_2) _ _ _ _ _ _ trivial (congrArg (fun z => some (ai z)) (by unfold qRecord; rw [if_neg (by omega), if_neg (by omega), hrc, show 10 - t.toNat = 0 by omega]; rfl)) rfl (Nat.le_of_ble_eq_true rfl) (Nat.le_of_ble_eq_true rfl) dX11_record_87
          · skip
            refine v_lload (pc := 54) 2 rfl dX11_record_54 ?_
            refine v_lload (pc := 56) 1 rfl dX11_record_56 ?_
            refine v_lmul (pc := 58) dX11_record_58 ?_
            refine v_lstore (pc := 59) (L2 := [(6, al (mi * (10 - fBest f player n))), (0, ar mo), (4, al (10 - fBest f player n)), (8, ai t)]) rfl (by decide) dX11_record_59 ?_
            refine v_ldc2 (pc := 61) (z := 2) (bw_mem 807 (by decide +kernel) rfl) dX11_record_61 ?_
            refine v_lload (pc := 64) 0 rfl dX11_record_64 ?_
            refine v_lmul (pc := 66) dX11_record_66 ?_
            refine v_iload (pc := 67) 3 rfl dX11_record_67 ?_
            refine v_callS (pc := 69) [] [0, 1] [(pi, co 4 (pO fa (pMf f player n))), (fa, cn 0 6 fa2_2)] (As := [ai t]) (rest := [al (2 * (mi * (10 - fBest f player n)))]) (c_X11_tenths t (by first | omega | assumption)) wl_X11_206 ws_X11_tenths wk_X11_tenths wz_X11 md_X11_tenths rfl (Nat.le_of_ble_eq_true rfl) ⟨Nat.le_of_ble_eq_true rfl, Nat.le_of_ble_eq_true rfl, Nat.le_of_ble_eq_true rfl, Nat.le_of_ble_eq_true rfl⟩ rfl rfl rfl rfl (by decide) ro_nil dX11_record_69 (fun u hu => ?_)
            show V x cX11_record RX11 9 (rmU 5 125 0 0) [(pi, co 4 (pO fa (pMf f player n))), (fa, cn 0 6 fa2_2)] 72 [(6, al (mi * (10 - fBest f player n))), (0, ar mo), (4, al (10 - fBest f player n)), (8, ai t)] [al (10 ^ t.toNat), al (2 * (mi * (10 - fBest f player n)))] 0 0
            refine v_lcmp (pc := 72) (by unfold lB; omega) (by unfold lB; omega) dX11_record_72 ?_
            refine v_if_gt (pc := 73) 79 dX11_record_73 (by decide) (acmp_iB _ _) (fun c_4 => ?_) (fun c_4 => ?_)
            · skip
              have c_4 := acmp_gt.mp c_4
              refine v_iinc (pc := 79) 3 (L2 := [(8, ai (t + 1)), (6, al (mi * (10 - fBest f player n))), (0, ar mo), (4, al (10 - fBest f player n))]) rfl rfl (by decide) dX11_record_79 ?_
              refine v_goto (pc := 82) 47 dX11_record_82 (by decide) ?_
              refine v_sub (L2 := [(0, ar mo), (4, al (10 - fBest f player n)), (6, al (mi * (10 - fBest f player n))), (8, ai (t + 1))]) [2, 3, 1, 0] rfl ?_
              exact ih _ (by omega) (t + 1) (mi * (10 - fBest f player n)) rfl (by omega) (by rw [hp3, show (t + 1 - 1).toNat = t.toNat by omega]) (by rw [hrc, show 10 - t.toNat = (9 - t.toNat) + 1 by omega, rcd_miss (by omega), show (t + 1).toNat = t.toNat + 1 by omega, show 10 - (t.toNat + 1) = 9 - t.toNat by omega])
            · skip
              have c_4 := acmp_le.mp c_4
              refine v_iload (pc := 76) 3 rfl dX11_record_76 ?_
              exact hret ((pMf f player n), fa2_2) _ _ _ _ _ _ trivial (congrArg (fun z => some (ai z)) (by unfold qRecord; rw [if_neg (by omega), if_neg (by omega), hrc, show 10 - t.toNat = (9 - t.toNat) + 1 by omega, rcd_hit (by omega)]; omega)) rfl (Nat.le_of_ble_eq_true rfl) (Nat.le_of_ble_eq_true rfl) dX11_record_78
      refine v_sub (L2 := [(0, ar mo), (4, al (10 - fBest f player n)), (6, al 1), (8, ai 1)]) [4, 2, 1, 0] rfl ?_
      exact lp47 _ 1 1 rfl (by omega) (by rw [show ((1 : Int) - 1).toNat = 0 from rfl, Int.pow_zero]) (by rfl)
    · skip
      refine v_bipush (pc := 19) dX11_record_19 (by decide) ?_
      exact hret (m, fa0) _ _ _ _ _ _ trivial (congrArg (fun z => some (ai z)) (by unfold qRecord; (repeat' split) <;> first | rfl | (exfalso; omega) | omega)) rfl (Nat.le_of_ble_eq_true rfl) (Nat.le_of_ble_eq_true rfl) dX11_record_21
  · skip
    refine v_callV (pc := 2) [] [0, 1] [(pi, co 4 (pO fa m)), (fa, cn 0 6 fa0)] (As := [ai player]) (rest := []) (c_X11_find_n mo kw pi ta ms pt po hi nw pls ins tap e3 e4 e5 e6 e7 e8 bar pv f player (by assumption) (by exact hp) (by first | omega | assumption)) (c := 11) rfl (Or.inl r0) wl_X11_99 wi_X11_find wv_X11_X11_find_X11_find wk_X11_find wz_X11 md_X11_find rfl (Nat.le_of_ble_eq_true rfl) ⟨Nat.le_of_ble_eq_true rfl, Nat.le_of_ble_eq_true rfl, Nat.le_of_ble_eq_true rfl, Nat.le_of_ble_eq_true rfl⟩ rfl rfl rfl rfl (by decide) (ro_cons (Or.inl r0) (ro_cons (Or.inl r1) (ro_cons (Or.inl r2) ro_nil))) dX11_record_2 (fun u hu => ?_)
    show V x cX11_record RX11 9 (rmU 5 125 0 0) [(pi, co 4 (pO fa m)), (fa, cn 0 6 fa0)] 5 [(0, ar mo), (1, ai player), (2, ai n)] [an] 0 0
    refine v_astore_n (pc := 5) (L2 := [(3, an), (0, ar mo), (1, ai player), (2, ai n)]) rfl (by decide) dX11_record_5 ?_
    refine v_aload_n (pc := 6) 0 rfl dX11_record_6 ?_
    refine v_ifnonnull_n (pc := 7) dX11_record_7 ?_
    refine v_iconst (pc := 10) dX11_record_10 ?_
    exact hret (m, fa0) _ _ _ _ _ _ trivial (congrArg (fun z => some (ai z)) (by unfold qRecord; (repeat' split) <;> first | rfl | (exfalso; omega) | omega)) rfl (Nat.le_of_ble_eq_true rfl) (Nat.le_of_ble_eq_true rfl) dX11_record_11
set_option maxHeartbeats 4000000 in
set_option maxRecDepth 100000 in
theorem c_X11_glass {gS : sG} (mo : Nat) (kw : Nat) (pi : Nat) (ta : Nat) (ms : Nat) (pt : Nat) (po : Nat) (hi : Int) (nw : Nat) (pls : Nat) (ins : Nat) (tap : Nat) (e3 : Nat) (e4 : Nat) (e5 : Nat) (e6 : Nat) (e7 : Nat) (e8 : Nat) (bar : Nat) (fa : Nat) (m : Nat → Int) (fa0 : Int → Int) (iv : Int → Option Nat) (hq : Nat) (ns : Int) (us : Int) (sla : Nat) (ena : Nat) (cda : Nat) (cd : Int → Int) (sl : Int → Int) (en : Int → Int) (pv : Int → Option Nat) (pl : Int → Nat) (tu : Int → Nat) (f : Int → Int) (player : Int) (what : Int) (hS : SOK f) (hI : inC f iv bar hq ns us sl en cd) (hpv : ∀ i : Int, 0 ≤ i → i ≤ f 0 - 1 → pv i = some (pl i)) (hb_player : -2147483648 ≤ player ∧ player < 2147483648) (hb_what : -2147483648 ≤ what ∧ what < 2147483648) : Ct gS (S := (Nat → Int) × (Int → Int)) yX11_glass cX11_glass 8 (some .int) 5 126 0 0 [ar mo, ai player, ai what] [(pi, co 4 (pO fa m)), (fa, cn 0 6 fa0)] (fun q => q ∈ ([(mo, co 11 [ar nw, ar kw, ar pi, ar ta, ar ms, ar pt, ar po, ai hi]), (nw, co 10 [ar pls, ar ins, ar tap, ar e3, ar e4, ar e5, ar e6, ar e7, ar e8, ai (f 0), ai (f 1), ai (f 4), ai (f 2), ai (f 3), ai (f 6), ar bar]), (pls, cq 3 6 pv), (ins, cq 2 5 iv), (hq, co 3 [ai (kWide f), ai (kPay f), ai ns, ai us, ar sla, ar ena, ar cda]), (cda, cn 0 100 cd), (sla, cn 0 10 sl), (ena, cn 0 10 en)] : aW) ++ zpA ta f pl tu) (fun u => True) (fun u => some (ai (qGlass f player what))) (fun u => [(pi, co 4 (pO fa u.1)), (fa, cn 0 6 u.2)]) := by
  refine ct_I RX11 [(0, ar mo), (1, ai player), (2, ai what)] (by decide) rfl (Nat.le_of_ble_eq_true rfl) rfl (fun x hgS hro hret => ?_)
  subst hgS
  have r0 := hro _ (List.mem_append_left _ (mem_at 0 rfl))
  have r1 := hro _ (List.mem_append_left _ (mem_at 1 rfl))
  have r2 := hro _ (List.mem_append_left _ (mem_at 2 rfl))
  have r3 := hro _ (List.mem_append_left _ (mem_at 3 rfl))
  have r4 := hro _ (List.mem_append_left _ (mem_at 4 rfl))
  have r5 := hro _ (List.mem_append_left _ (mem_at 5 rfl))
  have r6 := hro _ (List.mem_append_left _ (mem_at 6 rfl))
  have r7 := hro _ (List.mem_append_left _ (mem_at 7 rfl))
  have hra : ∀ q, q ∈ zpA ta f pl tu → Ro x q := fun q h => hro _ (List.mem_append_right _ h)
  obtain ⟨⟨hg0, hg1, hg2, hg3, hg4, hg5, hg6, hg7⟩, hSp, hSh, hSs, hSb, hSt, hSw⟩ := id hS
  show V x cX11_glass RX11 8 (rmU 5 126 0 0) [(pi, co 4 (pO fa m)), (fa, cn 0 6 fa0)] 0 [(0, ar mo), (1, ai player), (2, ai what)] [] 0 0
  refine v_aload_n (pc := 0) 0 rfl dX11_glass_0 ?_
  refine v_iload_n (pc := 1) 1 rfl dX11_glass_1 ?_
  rcases Classical.em (0 ≤ player ∧ player ≤ f 0 - 1) with hp | hp
  · skip
    have hpl := hpv player hp.1 hp.2
    have rP := hra _ (zpA_p (ta := ta) (pl := pl) (tu := tu) hp)
    have rQ := hra _ (zpA_t (ta := ta) (pl := pl) (tu := tu) hp)
    have hp6 : 0 ≤ player ∧ player < 6 := by omega
    obtain ⟨hpp, hf1, hf2, hf3, hf4, hf5, hf6, hf7, hf8⟩ := hSp player hp6.1 hp6.2
    refine v_callV (pc := 2) [] [0, 1] [(pi, co 4 (pO fa m)), (fa, cn 0 6 fa0)] (As := [ai player]) (rest := []) (c_X11_find_y mo kw pi ta ms pt po hi nw pls ins tap e3 e4 e5 e6 e7 e8 bar pv (pl player) f player (by assumption) (by exact hpl) (by exact hp)) (c := 11) rfl (Or.inl r0) wl_X11_99 wi_X11_find wv_X11_X11_find_X11_find wk_X11_find wz_X11 md_X11_find rfl (Nat.le_of_ble_eq_true rfl) ⟨Nat.le_of_ble_eq_true rfl, Nat.le_of_ble_eq_true rfl, Nat.le_of_ble_eq_true rfl, Nat.le_of_ble_eq_true rfl⟩ rfl rfl rfl rfl (by decide) (ro_cons (Or.inl r0) (ro_cons (Or.inl r1) (ro_cons (Or.inl r2) ro_nil))) dX11_glass_2 (fun u hu => ?_)
    show V x cX11_glass RX11 8 (rmU 5 126 0 0) [(pi, co 4 (pO fa m)), (fa, cn 0 6 fa0)] 5 [(0, ar mo), (1, ai player), (2, ai what)] [ar (pl player)] 0 0
    refine v_astore_n (pc := 5) (L2 := [(3, ar (pl player)), (0, ar mo), (1, ai player), (2, ai what)]) rfl (by decide) dX11_glass_5 ?_
    refine v_aload_n (pc := 6) 0 rfl dX11_glass_6 ?_
    refine v_ifnull_r (pc := 7) dX11_glass_7 ?_
    refine v_iload_n (pc := 10) 3 rfl dX11_glass_10 ?_
    refine v_iconst (pc := 11) dX11_glass_11 ?_
    refine v_iconst (pc := 12) dX11_glass_12 ?_
    refine v_callS (pc := 13) [] [0, 1] [(pi, co 4 (pO fa m)), (fa, cn 0 6 fa0)] (As := [ai what, ai 0, ai 1]) (rest := []) (c_X11_isOut what 0 1 (by first | omega | assumption) (by first | omega | assumption) (by first | omega | assumption)) wl_X11_41 ws_X11_isOut wk_X11_isOut wz_X11 md_X11_isOut rfl (Nat.le_of_ble_eq_true rfl) ⟨Nat.le_of_ble_eq_true rfl, Nat.le_of_ble_eq_true rfl, Nat.le_of_ble_eq_true rfl, Nat.le_of_ble_eq_true rfl⟩ rfl rfl rfl rfl (by decide) ro_nil dX11_glass_13 (fun u hu => ?_)
    show V x cX11_glass RX11 8 (rmU 5 126 0 0) [(pi, co 4 (pO fa m)), (fa, cn 0 6 fa0)] 16 [(3, ar (pl player)), (0, ar mo), (1, ai player), (2, ai what)] [ai (if what < 0 ∨ 1 < what then 1 else 0)] 0 0
    refine v_ifb_eq (pc := 16) 21 dX11_glass_16 (by decide) (fun c_1 => ?_) (fun c_1 => ?_)
    · skip
      refine v_iconst (pc := 21) dX11_glass_21 ?_
      refine v_istore (pc := 22) (L2 := [(4, ai 0), (3, ar (pl player)), (0, ar mo), (1, ai player), (2, ai what)]) rfl (by decide) dX11_glass_22 ?_
      refine v_iconst (pc := 24) dX11_glass_24 ?_
      refine v_istore (pc := 25) (L2 := [(5, ai (-1)), (4, ai 0), (3, ar (pl player)), (0, ar mo), (1, ai player), (2, ai what)]) rfl (by decide) dX11_glass_25 ?_
      refine v_iconst (pc := 27) dX11_glass_27 ?_
      refine v_istore (pc := 28) (L2 := [(6, ai 0), (5, ai (-1)), (4, ai 0), (3, ar (pl player)), (0, ar mo), (1, ai player), (2, ai what)]) rfl (by decide) dX11_glass_28 ?_
      have lp30 : ∀ (mm : Nat) (bt : Int) (mx : Int) (gl : Int) (m1 : Nat → Int) (fa1 : Int → Int), (10 - gl).toNat = mm → (0 ≤ gl ∧ gl ≤ 10) → ((mx, bt) = bst (fun g => fMost (aup f (31 + player) g) player) gl.toNat) → (-1 ≤ mx ∧ mx ≤ 99) → V x cX11_glass RX11 8 (rmU 5 126 0 0) [(pi, co 4 (pO fa m1)), (fa, cn 0 6 fa1)] 30 [(0, ar mo), (2, ai what), (3, ar (pl player)), (4, ai bt), (5, ai mx), (6, ai gl)] [] 0 0 := by
        intro mm
        induction mm using Nat.strongRecOn with
        | _ mm ih =>
          intro bt mx gl m1 fa1 hmm hgl hbs hmob
          have hbn : bst (fun g => fMost (aup f (31 + player) g) player) (gl + 1).toNat = if mx < fMost (aup f (31 + player) gl) player then (fMost (aup f (31 + player) gl) player, gl) else (mx, bt) := by rw [show (gl + 1).toNat = gl.toNat + 1 by omega, bst_succ, ← hbs, show ((gl.toNat : Nat) : Int) = gl by omega]
          refine v_iload (pc := 30) 5 rfl dX11_glass_30 ?_
          refine v_bipush (pc := 32) dX11_glass_32 (by decide) ?_
          refine v_icmp_gt (pc := 34) 67 dX11_glass_34 (by decide) (by unfold iB; omega) (by unfold iB; omega) (fun c_2 => ?_) (fun c_2 => ?_)
          · skip
            refine v_iload_n (pc := 67) 1 rfl dX11_glass_67 ?_
            refine v_if_ne (pc := 68) 76 dX11_glass_68 (by decide) (by unfold iB; omega) (fun c_3 => ?_) (fun c_3 => ?_)
            · skip
              refine v_iload (pc := 76) 4 rfl dX11_glass_76 ?_
              exact hret (m1, fa1) _ _ _ _ _ _ trivial (congrArg (fun z => some (ai z)) (by unfold qGlass; rw [if_neg (by omega)]; rw [show gl.toNat = 10 by omega] at hbs; rw [← hbs]; first | rw [if_pos (by omega)] | rw [if_neg (by omega)])) rfl (Nat.le_of_ble_eq_true rfl) (Nat.le_of_ble_eq_true rfl) dX11_glass_78
            · skip
              refine v_iload (pc := 71) 3 rfl dX11_glass_71 ?_
              refine v_goto (pc := 73) 78 dX11_glass_73 (by decide) ?_
              exact hret (m1, fa1) _ _ _ _ _ _ trivial (congrArg (fun z => some (ai z)) (by unfold qGlass; rw [if_neg (by omega)]; rw [show gl.toNat = 10 by omega] at hbs; rw [← hbs]; first | rw [if_pos (by omega)] | rw [if_neg (by omega)])) rfl (Nat.le_of_ble_eq_true rfl) (Nat.le_of_ble_eq_true rfl) dX11_glass_78
          · skip
            refine v_aload_n (pc := 37) 0 rfl dX11_glass_37 ?_
            refine v_aload_n (pc := 38) 2 rfl dX11_glass_38 ?_
            refine v_iload (pc := 39) 5 rfl dX11_glass_39 ?_
            refine v_callV (pc := 41) [0, 1] [] [] (As := [ar (pl player), ai gl]) (rest := []) (c_X11_mostBy mo kw pi ta ms pt po hi nw pls ins tap e3 e4 e5 e6 e7 e8 bar fa m1 fa1 iv hq ns us sla ena cda cd sl en (pl player) (tu player) f player gl (by assumption) (by assumption) (by first | omega | assumption) (by first | omega | assumption)) (c := 11) rfl (Or.inl r0) wl_X11_187 wi_X11_mostBy wv_X11_X11_mostBy_X11_mostBy wk_X11_mostBy wz_X11 md_X11_mostBy rfl (Nat.le_of_ble_eq_true rfl) ⟨Nat.le_of_ble_eq_true rfl, Nat.le_of_ble_eq_true rfl, Nat.le_of_ble_eq_true rfl, Nat.le_of_ble_eq_true rfl⟩ rfl rfl rfl rfl (by decide) (ro_cons (Or.inl r0) (ro_cons (Or.inl r1) (ro_cons (Or.inl r3) (ro_cons (Or.inl r4) (ro_cons (Or.inl r5) (ro_cons (Or.inl r6) (ro_cons (Or.inl r7) (ro_cons (Or.inl rP) (ro_cons (Or.inl rQ) ro_nil))))))))) dX11_glass_41 (fun u hu => ?_)
            obtain ⟨m2_4, fa2_5⟩ := u
            show V x cX11_glass RX11 8 (rmU 5 126 0 0) [(pi, co 4 (pO fa m2_4)), (fa, cn 0 6 fa2_5)] 44 [(0, ar mo), (2, ai what), (3, ar (pl player)), (4, ai bt), (5, ai mx), (6, ai gl)] [ai (mst (fBest (fS f player (f (19 + player)) gl) player) 99)] 0 0
            have hmb := fMost_b (f := aup f (31 + player) gl) (p := player)
            have hme : mst (fBest (fS f player (f (19 + player)) gl) player) 99 = fMost (aup f (31 + player) gl) player := by rw [fS_g1]; rfl
            rw [← hme] at hmb
            refine v_istore (pc := 44) (L2 := [(7, ai (mst (fBest (fS f player (f (19 + player)) gl) player) 99)), (0, ar mo), (2, ai what), (3, ar (pl player)), (4, ai bt), (5, ai mx), (6, ai gl)]) rfl (by decide) dX11_glass_44 ?_
            refine v_iload (pc := 46) 0 rfl dX11_glass_46 ?_
            refine v_iload (pc := 48) 5 rfl dX11_glass_48 ?_
            refine v_icmp_le (pc := 50) 61 dX11_glass_50 (by decide) (by unfold iB; omega) (by unfold iB; omega) (fun c_6 => ?_) (fun c_6 => ?_)
            · skip
              refine v_iinc (pc := 61) 6 (L2 := [(6, ai (gl + 1)), (7, ai (mst (fBest (fS f player (f (19 + player)) gl) player) 99)), (0, ar mo), (2, ai what), (3, ar (pl player)), (4, ai bt), (5, ai mx)]) rfl rfl (by decide) dX11_glass_61 ?_
              refine v_goto (pc := 64) 30 dX11_glass_64 (by decide) ?_
              refine v_sub (L2 := [(0, ar mo), (2, ai what), (3, ar (pl player)), (4, ai bt), (5, ai mx), (6, ai (gl + 1))]) [2, 3, 4, 5, 6, 0] rfl ?_
              exact ih _ (by omega) bt mx (gl + 1) m2_4 fa2_5 rfl (by omega) (by rw [hbn]; (first | (rw [if_pos (by omega), hme]; done) | (rw [if_neg (by omega)]; done) | (exfalso; omega))) (by omega)
            · skip
              refine v_iload (pc := 53) 0 rfl dX11_glass_53 ?_
              refine v_istore (pc := 55) (L2 := [(5, ai (mst (fBest (fS f player (f (19 + player)) gl) player) 99)), (7, ai (mst (fBest (fS f player (f (19 + player)) gl) player) 99)), (0, ar mo), (2, ai what), (3, ar (pl player)), (4, ai bt), (6, ai gl)]) rfl (by decide) dX11_glass_55 ?_
              refine v_iload (pc := 57) 6 rfl dX11_glass_57 ?_
              refine v_istore (pc := 59) (L2 := [(4, ai gl), (5, ai (mst (fBest (fS f player (f (19 + player)) gl) player) 99)), (7, ai (mst (fBest (fS f player (f (19 + player)) gl) player) 99)), (0, ar mo), (2, ai what), (3, ar (pl player)), (6, ai gl)]) rfl (by decide) dX11_glass_59 ?_
              refine v_iinc (pc := 61) 6 (L2 := [(6, ai (gl + 1)), (4, ai gl), (5, ai (mst (fBest (fS f player (f (19 + player)) gl) player) 99)), (7, ai (mst (fBest (fS f player (f (19 + player)) gl) player) 99)), (0, ar mo), (2, ai what), (3, ar (pl player))]) rfl rfl (by decide) dX11_glass_61 ?_
              refine v_goto (pc := 64) 30 dX11_glass_64 (by decide) ?_
              refine v_sub (L2 := [(0, ar mo), (2, ai what), (3, ar (pl player)), (4, ai gl), (5, ai (mst (fBest (fS f player (f (19 + player)) gl) player) 99)), (6, ai (gl + 1))]) [4, 5, 6, 1, 2, 0] rfl ?_
              exact ih _ (by omega) gl (mst (fBest (fS f player (f (19 + player)) gl) player) 99) (gl + 1) m2_4 fa2_5 rfl (by omega) (by rw [hbn]; (first | (rw [if_pos (by omega), hme]; done) | (rw [if_neg (by omega)]; done) | (exfalso; omega))) (by omega)
      refine v_sub (L2 := [(0, ar mo), (2, ai what), (3, ar (pl player)), (4, ai 0), (5, ai (-1)), (6, ai 0)]) [4, 6, 3, 2, 1, 0] rfl ?_
      exact lp30 _ 0 (-1) 0 m fa0 rfl (by omega) (by rfl) (by omega)
    · skip
      refine v_iconst (pc := 19) dX11_glass_19 ?_
      exact hret (m, fa0) _ _ _ _ _ _ trivial (congrArg (fun z => some (ai z)) (by unfold qGlass; (repeat' split) <;> first | rfl | (exfalso; omega) | omega)) rfl (Nat.le_of_ble_eq_true rfl) (Nat.le_of_ble_eq_true rfl) dX11_glass_20
  · skip
    refine v_callV (pc := 2) [] [0, 1] [(pi, co 4 (pO fa m)), (fa, cn 0 6 fa0)] (As := [ai player]) (rest := []) (c_X11_find_n mo kw pi ta ms pt po hi nw pls ins tap e3 e4 e5 e6 e7 e8 bar pv f player (by assumption) (by exact hp) (by first | omega | assumption)) (c := 11) rfl (Or.inl r0) wl_X11_99 wi_X11_find wv_X11_X11_find_X11_find wk_X11_find wz_X11 md_X11_find rfl (Nat.le_of_ble_eq_true rfl) ⟨Nat.le_of_ble_eq_true rfl, Nat.le_of_ble_eq_true rfl, Nat.le_of_ble_eq_true rfl, Nat.le_of_ble_eq_true rfl⟩ rfl rfl rfl rfl (by decide) (ro_cons (Or.inl r0) (ro_cons (Or.inl r1) (ro_cons (Or.inl r2) ro_nil))) dX11_glass_2 (fun u hu => ?_)
    show V x cX11_glass RX11 8 (rmU 5 126 0 0) [(pi, co 4 (pO fa m)), (fa, cn 0 6 fa0)] 5 [(0, ar mo), (1, ai player), (2, ai what)] [an] 0 0
    refine v_astore_n (pc := 5) (L2 := [(3, an), (0, ar mo), (1, ai player), (2, ai what)]) rfl (by decide) dX11_glass_5 ?_
    refine v_aload_n (pc := 6) 0 rfl dX11_glass_6 ?_
    refine v_ifnull_n (pc := 7) 19 dX11_glass_7 (by decide) ?_
    refine v_iconst (pc := 19) dX11_glass_19 ?_
    exact hret (m, fa0) _ _ _ _ _ _ trivial (congrArg (fun z => some (ai z)) (by unfold qGlass; (repeat' split) <;> first | rfl | (exfalso; omega) | omega)) rfl (Nat.le_of_ble_eq_true rfl) (Nat.le_of_ble_eq_true rfl) dX11_glass_20
