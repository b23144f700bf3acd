set_option maxHeartbeats 4000000 in
set_option maxRecDepth 100000 in
theorem c_X5_init_k5 {gS : sG} (h : Nat) (ta : Nat) : Ct gS (S := Unit) yX5_init cX5_init 2 none 1 12 0 0 [ar h, ar ta] [(h, co 5 [an, ai 0, ai 0, ai 0, ai 0, ai 0, ai 0, ai 0, ai 0])] (fun q => q ∈ ([] : aW)) (fun _ => True) (fun _ => none) (fun _ => [(h, co 5 [ar ta, ai 0, ai 0, ai 0, ai 0, ai 0, ai 0, ai 0, ai 0])]) := by
  refine ct_V RX5 [(0, ar h), (1, ar ta)] (by decide) rfl (Nat.le_of_ble_eq_true rfl) rfl (fun x hgS hnm hro hret => ?_)
  subst hgS
  show V x cX5_init RX5 2 (rmU 1 12 0 0) [(h, co 5 [an, ai 0, ai 0, ai 0, ai 0, ai 0, ai 0, ai 0, ai 0])] 0 [(0, ar h), (1, ar ta)] [] 0 0
  refine v_aload_n (pc := 0) 0 rfl dX5_init_0 ?_
  refine v_objInit (pc := 1) wlo_X5_3 wio wko ⟨Nat.le_of_ble_eq_true rfl, Nat.le_of_ble_eq_true rfl⟩ dX5_init_1 ?_
  refine v_aload_n (pc := 4) 0 rfl dX5_init_4 ?_
  refine v_aload_n (pc := 5) 1 rfl dX5_init_5 ?_
  refine v_putF (pc := 6) 0 0 hnm ⟨_, rfl, rfl⟩ rfl fl_5_9_5 ck_5 ft_5_0 (okV_a _ _) (Nat.le_of_ble_eq_true rfl) (ws2 := [(h, co 5 [ar ta, ai 0, ai 0, ai 0, ai 0, ai 0, ai 0, ai 0, ai 0])]) rfl dX5_init_6 ?_
  exact hret () _ _ _ _ _ trivial rfl rfl (Nat.le_of_ble_eq_true rfl) (Nat.le_of_ble_eq_true rfl) dX5_init_9
set_option maxHeartbeats 4000000 in
set_option maxRecDepth 100000 in
theorem c_X5_init_k8 {gS : sG} (h : Nat) (ta : Nat) : Ct gS (S := Unit) yX5_init cX5_init 2 none 1 12 0 0 [ar h, ar ta] [(h, co 8 [an, ai 0, ai 0, ai 0, ai 0, ai 0, ai 0, ai 0, ai 0])] (fun q => q ∈ ([] : aW)) (fun _ => True) (fun _ => none) (fun _ => [(h, co 8 [ar ta, ai 0, ai 0, ai 0, ai 0, ai 0, ai 0, ai 0, ai 0])]) := by
  refine ct_V RX5 [(0, ar h), (1, ar ta)] (by decide) rfl (Nat.le_of_ble_eq_true rfl) rfl (fun x hgS hnm hro hret => ?_)
  subst hgS
  show V x cX5_init RX5 2 (rmU 1 12 0 0) [(h, co 8 [an, ai 0, ai 0, ai 0, ai 0, ai 0, ai 0, ai 0, ai 0])] 0 [(0, ar h), (1, ar ta)] [] 0 0
  refine v_aload_n (pc := 0) 0 rfl dX5_init_0 ?_
  refine v_objInit (pc := 1) wlo_X5_3 wio wko ⟨Nat.le_of_ble_eq_true rfl, Nat.le_of_ble_eq_true rfl⟩ dX5_init_1 ?_
  refine v_aload_n (pc := 4) 0 rfl dX5_init_4 ?_
  refine v_aload_n (pc := 5) 1 rfl dX5_init_5 ?_
  refine v_putF (pc := 6) 0 0 hnm ⟨_, rfl, rfl⟩ rfl fl_5_9_8 ck_8 ft_8_0 (okV_a _ _) (Nat.le_of_ble_eq_true rfl) (ws2 := [(h, co 8 [ar ta, ai 0, ai 0, ai 0, ai 0, ai 0, ai 0, ai 0, ai 0])]) rfl dX5_init_6 ?_
  exact hret () _ _ _ _ _ trivial rfl rfl (Nat.le_of_ble_eq_true rfl) (Nat.le_of_ble_eq_true rfl) dX5_init_9
set_option maxHeartbeats 4000000 in
set_option maxRecDepth 100000 in
theorem c_X5_init_k0 {gS : sG} (h : Nat) (ta : Nat) : Ct gS (S := Unit) yX5_init cX5_init 2 none 1 12 0 0 [ar h, ar ta] [(h, co 0 [an, ai 0, ai 0, ai 0, ai 0, ai 0, ai 0, ai 0, ai 0])] (fun q => q ∈ ([] : aW)) (fun _ => True) (fun _ => none) (fun _ => [(h, co 0 [ar ta, ai 0, ai 0, ai 0, ai 0, ai 0, ai 0, ai 0, ai 0])]) := by
  refine ct_V RX5 [(0, ar h), (1, ar ta)] (by decide) rfl (Nat.le_of_ble_eq_true rfl) rfl (fun x hgS hnm hro hret => ?_)
  subst hgS
  show V x cX5_init RX5 2 (rmU 1 12 0 0) [(h, co 0 [an, ai 0, ai 0, ai 0, ai 0, ai 0, ai 0, ai 0, ai 0])] 0 [(0, ar h), (1, ar ta)] [] 0 0
  refine v_aload_n (pc := 0) 0 rfl dX5_init_0 ?_
  refine v_objInit (pc := 1) wlo_X5_3 wio wko ⟨Nat.le_of_ble_eq_true rfl, Nat.le_of_ble_eq_true rfl⟩ dX5_init_1 ?_
  refine v_aload_n (pc := 4) 0 rfl dX5_init_4 ?_
  refine v_aload_n (pc := 5) 1 rfl dX5_init_5 ?_
  refine v_putF (pc := 6) 0 0 hnm ⟨_, rfl, rfl⟩ rfl fl_5_9_0 ck_0 ft_0_0 (okV_a _ _) (Nat.le_of_ble_eq_true rfl) (ws2 := [(h, co 0 [ar ta, ai 0, ai 0, ai 0, ai 0, ai 0, ai 0, ai 0, ai 0])]) rfl dX5_init_6 ?_
  exact hret () _ _ _ _ _ trivial rfl rfl (Nat.le_of_ble_eq_true rfl) (Nat.le_of_ble_eq_true rfl) dX5_init_9
set_option maxHeartbeats 4000000 in
set_option maxRecDepth 100000 in
theorem c_X5_init_k7 {gS : sG} (h : Nat) (ta : Nat) : Ct gS (S := Unit) yX5_init cX5_init 2 none 1 12 0 0 [ar h, ar ta] [(h, co 7 [an, ai 0, ai 0, ai 0, ai 0, ai 0, ai 0, ai 0, ai 0])] (fun q => q ∈ ([] : aW)) (fun _ => True) (fun _ => none) (fun _ => [(h, co 7 [ar ta, ai 0, ai 0, ai 0, ai 0, ai 0, ai 0, ai 0, ai 0])]) := by
  refine ct_V RX5 [(0, ar h), (1, ar ta)] (by decide) rfl (Nat.le_of_ble_eq_true rfl) rfl (fun x hgS hnm hro hret => ?_)
  subst hgS
  show V x cX5_init RX5 2 (rmU 1 12 0 0) [(h, co 7 [an, ai 0, ai 0, ai 0, ai 0, ai 0, ai 0, ai 0, ai 0])] 0 [(0, ar h), (1, ar ta)] [] 0 0
  refine v_aload_n (pc := 0) 0 rfl dX5_init_0 ?_
  refine v_objInit (pc := 1) wlo_X5_3 wio wko ⟨Nat.le_of_ble_eq_true rfl, Nat.le_of_ble_eq_true rfl⟩ dX5_init_1 ?_
  refine v_aload_n (pc := 4) 0 rfl dX5_init_4 ?_
  refine v_aload_n (pc := 5) 1 rfl dX5_init_5 ?_
  refine v_putF (pc := 6) 0 0 hnm ⟨_, rfl, rfl⟩ rfl fl_5_9_7 ck_7 ft_7_0 (okV_a _ _) (Nat.le_of_ble_eq_true rfl) (ws2 := [(h, co 7 [ar ta, ai 0, ai 0, ai 0, ai 0, ai 0, ai 0, ai 0, ai 0])]) rfl dX5_init_6 ?_
  exact hret () _ _ _ _ _ trivial rfl rfl (Nat.le_of_ble_eq_true rfl) (Nat.le_of_ble_eq_true rfl) dX5_init_9
set_option maxHeartbeats 4000000 in
set_option maxRecDepth 100000 in
theorem c_X5_init_k1 {gS : sG} (h : Nat) (ta : Nat) : Ct gS (S := Unit) yX5_init cX5_init 2 none 1 12 0 0 [ar h, ar ta] [(h, co 1 [an, ai 0, ai 0, ai 0, ai 0, ai 0, ai 0, ai 0, ai 0])] (fun q => q ∈ ([] : aW)) (fun _ => True) (fun _ => none) (fun _ => [(h, co 1 [ar ta, ai 0, ai 0, ai 0, ai 0, ai 0, ai 0, ai 0, ai 0])]) := by
  refine ct_V RX5 [(0, ar h), (1, ar ta)] (by decide) rfl (Nat.le_of_ble_eq_true rfl) rfl (fun x hgS hnm hro hret => ?_)
  subst hgS
  show V x cX5_init RX5 2 (rmU 1 12 0 0) [(h, co 1 [an, ai 0, ai 0, ai 0, ai 0, ai 0, ai 0, ai 0, ai 0])] 0 [(0, ar h), (1, ar ta)] [] 0 0
  refine v_aload_n (pc := 0) 0 rfl dX5_init_0 ?_
  refine v_objInit (pc := 1) wlo_X5_3 wio wko ⟨Nat.le_of_ble_eq_true rfl, Nat.le_of_ble_eq_true rfl⟩ dX5_init_1 ?_
  refine v_aload_n (pc := 4) 0 rfl dX5_init_4 ?_
  refine v_aload_n (pc := 5) 1 rfl dX5_init_5 ?_
  refine v_putF (pc := 6) 0 0 hnm ⟨_, rfl, rfl⟩ rfl fl_5_9_1 ck_1 ft_1_0 (okV_a _ _) (Nat.le_of_ble_eq_true rfl) (ws2 := [(h, co 1 [ar ta, ai 0, ai 0, ai 0, ai 0, ai 0, ai 0, ai 0, ai 0])]) rfl dX5_init_6 ?_
  exact hret () _ _ _ _ _ trivial rfl rfl (Nat.le_of_ble_eq_true rfl) (Nat.le_of_ble_eq_true rfl) dX5_init_9
set_option maxHeartbeats 4000000 in
set_option maxRecDepth 100000 in
theorem c_X5_init_k2 {gS : sG} (h : Nat) (ta : Nat) : Ct gS (S := Unit) yX5_init cX5_init 2 none 1 12 0 0 [ar h, ar ta] [(h, co 2 [an, ai 0, ai 0, ai 0, ai 0, ai 0, ai 0, ai 0, ai 0])] (fun q => q ∈ ([] : aW)) (fun _ => True) (fun _ => none) (fun _ => [(h, co 2 [ar ta, ai 0, ai 0, ai 0, ai 0, ai 0, ai 0, ai 0, ai 0])]) := by
  refine ct_V RX5 [(0, ar h), (1, ar ta)] (by decide) rfl (Nat.le_of_ble_eq_true rfl) rfl (fun x hgS hnm hro hret => ?_)
  subst hgS
  show V x cX5_init RX5 2 (rmU 1 12 0 0) [(h, co 2 [an, ai 0, ai 0, ai 0, ai 0, ai 0, ai 0, ai 0, ai 0])] 0 [(0, ar h), (1, ar ta)] [] 0 0
  refine v_aload_n (pc := 0) 0 rfl dX5_init_0 ?_
  refine v_objInit (pc := 1) wlo_X5_3 wio wko ⟨Nat.le_of_ble_eq_true rfl, Nat.le_of_ble_eq_true rfl⟩ dX5_init_1 ?_
  refine v_aload_n (pc := 4) 0 rfl dX5_init_4 ?_
  refine v_aload_n (pc := 5) 1 rfl dX5_init_5 ?_
  refine v_putF (pc := 6) 0 0 hnm ⟨_, rfl, rfl⟩ rfl fl_5_9_2 ck_2 ft_2_0 (okV_a _ _) (Nat.le_of_ble_eq_true rfl) (ws2 := [(h, co 2 [ar ta, ai 0, ai 0, ai 0, ai 0, ai 0, ai 0, ai 0, ai 0])]) rfl dX5_init_6 ?_
  exact hret () _ _ _ _ _ trivial rfl rfl (Nat.le_of_ble_eq_true rfl) (Nat.le_of_ble_eq_true rfl) dX5_init_9
set_option maxHeartbeats 4000000 in
set_option maxRecDepth 100000 in
theorem c_X5_init_k9 {gS : sG} (h : Nat) (ta : Nat) : Ct gS (S := Unit) yX5_init cX5_init 2 none 1 12 0 0 [ar h, ar ta] [(h, co 9 [an, ai 0, ai 0, ai 0, ai 0, ai 0, ai 0, ai 0, ai 0, an])] (fun q => q ∈ ([] : aW)) (fun _ => True) (fun _ => none) (fun _ => [(h, co 9 [ar ta, ai 0, ai 0, ai 0, ai 0, ai 0, ai 0, ai 0, ai 0, an])]) := by
  refine ct_V RX5 [(0, ar h), (1, ar ta)] (by decide) rfl (Nat.le_of_ble_eq_true rfl) rfl (fun x hgS hnm hro hret => ?_)
  subst hgS
  show V x cX5_init RX5 2 (rmU 1 12 0 0) [(h, co 9 [an, ai 0, ai 0, ai 0, ai 0, ai 0, ai 0, ai 0, ai 0, an])] 0 [(0, ar h), (1, ar ta)] [] 0 0
  refine v_aload_n (pc := 0) 0 rfl dX5_init_0 ?_
  refine v_objInit (pc := 1) wlo_X5_3 wio wko ⟨Nat.le_of_ble_eq_true rfl, Nat.le_of_ble_eq_true rfl⟩ dX5_init_1 ?_
  refine v_aload_n (pc := 4) 0 rfl dX5_init_4 ?_
  refine v_aload_n (pc := 5) 1 rfl dX5_init_5 ?_
  refine v_putF (pc := 6) 0 0 hnm ⟨_, rfl, rfl⟩ rfl fl_5_9_9 ck_9 ft_9_0 (okV_a _ _) (Nat.le_of_ble_eq_true rfl) (ws2 := [(h, co 9 [ar ta, ai 0, ai 0, ai 0, ai 0, ai 0, ai 0, ai 0, ai 0, an])]) rfl dX5_init_6 ?_
  exact hret () _ _ _ _ _ trivial rfl rfl (Nat.le_of_ble_eq_true rfl) (Nat.le_of_ble_eq_true rfl) dX5_init_9
set_option maxHeartbeats 4000000 in
set_option maxRecDepth 100000 in
theorem c_X8_init_k8 {gS : sG} (h : Nat) (ta : Nat) : Ct gS (S := Unit) yX8_init cX8_init 2 none 2 33 0 0 [ar h, ar ta] [(h, co 8 [an, ai 0, ai 0, ai 0, ai 0, ai 0, ai 0, ai 0, ai 0])] (fun q => q ∈ ([] : aW)) (fun _ => True) (fun _ => none) (fun _ => [(h, co 8 [ar ta, ai 0, ai 0, ai 0, ai 0, ai 0, ai 0, ai 0, ai 0])]) := by
  refine ct_V RX8 [(0, ar h), (1, ar ta)] (by decide) rfl (Nat.le_of_ble_eq_true rfl) rfl (fun x hgS hnm hro hret => ?_)
  subst hgS
  show V x cX8_init RX8 2 (rmU 2 33 0 0) [(h, co 8 [an, ai 0, ai 0, ai 0, ai 0, ai 0, ai 0, ai 0, ai 0])] 0 [(0, ar h), (1, ar ta)] [] 0 0
  refine v_aload_n (pc := 0) 0 rfl dX8_init_0 ?_
  refine v_aload_n (pc := 1) 1 rfl dX8_init_1 ?_
  refine v_callI (pc := 2) [0] [] [] (As := [ar ta]) (rest := []) (c_X5_init_k8 h ta ) wl_X8_1 wi_X5_init wk_X5_init wz_X5 rfl md_X5_init rfl (Nat.le_of_ble_eq_true rfl) ⟨Nat.le_of_ble_eq_true rfl, Nat.le_of_ble_eq_true rfl, Nat.le_of_ble_eq_true rfl, Nat.le_of_ble_eq_true rfl⟩ rfl rfl rfl rfl (by decide) ro_nil dX8_init_2 (fun u hu => ?_)
  show V x cX8_init RX8 2 (rmU 2 33 0 0) [(h, co 8 [ar ta, ai 0, ai 0, ai 0, ai 0, ai 0, ai 0, ai 0, ai 0])] 5 [(0, ar h), (1, ar ta)] [] 0 0
  exact hret () _ _ _ _ _ trivial rfl rfl (Nat.le_of_ble_eq_true rfl) (Nat.le_of_ble_eq_true rfl) dX8_init_5
set_option maxHeartbeats 4000000 in
set_option maxRecDepth 100000 in
theorem c_X8_init_k1 {gS : sG} (h : Nat) (ta : Nat) : Ct gS (S := Unit) yX8_init cX8_init 2 none 2 33 0 0 [ar h, ar ta] [(h, co 1 [an, ai 0, ai 0, ai 0, ai 0, ai 0, ai 0, ai 0, ai 0])] (fun q => q ∈ ([] : aW)) (fun _ => True) (fun _ => none) (fun _ => [(h, co 1 [ar ta, ai 0, ai 0, ai 0, ai 0, ai 0, ai 0, ai 0, ai 0])]) := by
  refine ct_V RX8 [(0, ar h), (1, ar ta)] (by decide) rfl (Nat.le_of_ble_eq_true rfl) rfl (fun x hgS hnm hro hret => ?_)
  subst hgS
  show V x cX8_init RX8 2 (rmU 2 33 0 0) [(h, co 1 [an, ai 0, ai 0, ai 0, ai 0, ai 0, ai 0, ai 0, ai 0])] 0 [(0, ar h), (1, ar ta)] [] 0 0
  refine v_aload_n (pc := 0) 0 rfl dX8_init_0 ?_
  refine v_aload_n (pc := 1) 1 rfl dX8_init_1 ?_
  refine v_callI (pc := 2) [0] [] [] (As := [ar ta]) (rest := []) (c_X5_init_k1 h ta ) wl_X8_1 wi_X5_init wk_X5_init wz_X5 rfl md_X5_init rfl (Nat.le_of_ble_eq_true rfl) ⟨Nat.le_of_ble_eq_true rfl, Nat.le_of_ble_eq_true rfl, Nat.le_of_ble_eq_true rfl, Nat.le_of_ble_eq_true rfl⟩ rfl rfl rfl rfl (by decide) ro_nil dX8_init_2 (fun u hu => ?_)
  show V x cX8_init RX8 2 (rmU 2 33 0 0) [(h, co 1 [ar ta, ai 0, ai 0, ai 0, ai 0, ai 0, ai 0, ai 0, ai 0])] 5 [(0, ar h), (1, ar ta)] [] 0 0
  exact hret () _ _ _ _ _ trivial rfl rfl (Nat.le_of_ble_eq_true rfl) (Nat.le_of_ble_eq_true rfl) dX8_init_5
set_option maxHeartbeats 4000000 in
set_option maxRecDepth 100000 in
theorem c_X0_init_k0 {gS : sG} (h : Nat) (ta : Nat) : Ct gS (S := Unit) yX0_init cX0_init 2 none 2 33 0 0 [ar h, ar ta] [(h, co 0 [an, ai 0, ai 0, ai 0, ai 0, ai 0, ai 0, ai 0, ai 0])] (fun q => q ∈ ([] : aW)) (fun _ => True) (fun _ => none) (fun _ => [(h, co 0 [ar ta, ai 0, ai 0, ai 0, ai 0, ai 0, ai 0, ai 0, ai 0])]) := by
  refine ct_V RX0 [(0, ar h), (1, ar ta)] (by decide) rfl (Nat.le_of_ble_eq_true rfl) rfl (fun x hgS hnm hro hret => ?_)
  subst hgS
  show V x cX0_init RX0 2 (rmU 2 33 0 0) [(h, co 0 [an, ai 0, ai 0, ai 0, ai 0, ai 0, ai 0, ai 0, ai 0])] 0 [(0, ar h), (1, ar ta)] [] 0 0
  refine v_aload_n (pc := 0) 0 rfl dX0_init_0 ?_
  refine v_aload_n (pc := 1) 1 rfl dX0_init_1 ?_
  refine v_callI (pc := 2) [0] [] [] (As := [ar ta]) (rest := []) (c_X5_init_k0 h ta ) wl_X0_1 wi_X5_init wk_X5_init wz_X5 rfl md_X5_init rfl (Nat.le_of_ble_eq_true rfl) ⟨Nat.le_of_ble_eq_true rfl, Nat.le_of_ble_eq_true rfl, Nat.le_of_ble_eq_true rfl, Nat.le_of_ble_eq_true rfl⟩ rfl rfl rfl rfl (by decide) ro_nil dX0_init_2 (fun u hu => ?_)
  show V x cX0_init RX0 2 (rmU 2 33 0 0) [(h, co 0 [ar ta, ai 0, ai 0, ai 0, ai 0, ai 0, ai 0, ai 0, ai 0])] 5 [(0, ar h), (1, ar ta)] [] 0 0
  exact hret () _ _ _ _ _ trivial rfl rfl (Nat.le_of_ble_eq_true rfl) (Nat.le_of_ble_eq_true rfl) dX0_init_5
set_option maxHeartbeats 4000000 in
set_option maxRecDepth 100000 in
theorem c_X0_init_k2 {gS : sG} (h : Nat) (ta : Nat) : Ct gS (S := Unit) yX0_init cX0_init 2 none 2 33 0 0 [ar h, ar ta] [(h, co 2 [an, ai 0, ai 0, ai 0, ai 0, ai 0, ai 0, ai 0, ai 0])] (fun q => q ∈ ([] : aW)) (fun _ => True) (fun _ => none) (fun _ => [(h, co 2 [ar ta, ai 0, ai 0, ai 0, ai 0, ai 0, ai 0, ai 0, ai 0])]) := by
  refine ct_V RX0 [(0, ar h), (1, ar ta)] (by decide) rfl (Nat.le_of_ble_eq_true rfl) rfl (fun x hgS hnm hro hret => ?_)
  subst hgS
  show V x cX0_init RX0 2 (rmU 2 33 0 0) [(h, co 2 [an, ai 0, ai 0, ai 0, ai 0, ai 0, ai 0, ai 0, ai 0])] 0 [(0, ar h), (1, ar ta)] [] 0 0
  refine v_aload_n (pc := 0) 0 rfl dX0_init_0 ?_
  refine v_aload_n (pc := 1) 1 rfl dX0_init_1 ?_
  refine v_callI (pc := 2) [0] [] [] (As := [ar ta]) (rest := []) (c_X5_init_k2 h ta ) wl_X0_1 wi_X5_init wk_X5_init wz_X5 rfl md_X5_init rfl (Nat.le_of_ble_eq_true rfl) ⟨Nat.le_of_ble_eq_true rfl, Nat.le_of_ble_eq_true rfl, Nat.le_of_ble_eq_true rfl, Nat.le_of_ble_eq_true rfl⟩ rfl rfl rfl rfl (by decide) ro_nil dX0_init_2 (fun u hu => ?_)
  show V x cX0_init RX0 2 (rmU 2 33 0 0) [(h, co 2 [ar ta, ai 0, ai 0, ai 0, ai 0, ai 0, ai 0, ai 0, ai 0])] 5 [(0, ar h), (1, ar ta)] [] 0 0
  exact hret () _ _ _ _ _ trivial rfl rfl (Nat.le_of_ble_eq_true rfl) (Nat.le_of_ble_eq_true rfl) dX0_init_5
set_option maxHeartbeats 4000000 in
set_option maxRecDepth 100000 in
theorem c_X7_init_k7 {gS : sG} (h : Nat) (ta : Nat) : Ct gS (S := Unit) yX7_init cX7_init 2 none 2 33 0 0 [ar h, ar ta] [(h, co 7 [an, ai 0, ai 0, ai 0, ai 0, ai 0, ai 0, ai 0, ai 0])] (fun q => q ∈ ([] : aW)) (fun _ => True) (fun _ => none) (fun _ => [(h, co 7 [ar ta, ai 0, ai 0, ai 0, ai 0, ai 0, ai 0, ai 0, ai 0])]) := by
  refine ct_V RX7 [(0, ar h), (1, ar ta)] (by decide) rfl (Nat.le_of_ble_eq_true rfl) rfl (fun x hgS hnm hro hret => ?_)
  subst hgS
  show V x cX7_init RX7 2 (rmU 2 33 0 0) [(h, co 7 [an, ai 0, ai 0, ai 0, ai 0, ai 0, ai 0, ai 0, ai 0])] 0 [(0, ar h), (1, ar ta)] [] 0 0
  refine v_aload_n (pc := 0) 0 rfl dX7_init_0 ?_
  refine v_aload_n (pc := 1) 1 rfl dX7_init_1 ?_
  refine v_callI (pc := 2) [0] [] [] (As := [ar ta]) (rest := []) (c_X5_init_k7 h ta ) wl_X7_1 wi_X5_init wk_X5_init wz_X5 rfl md_X5_init rfl (Nat.le_of_ble_eq_true rfl) ⟨Nat.le_of_ble_eq_true rfl, Nat.le_of_ble_eq_true rfl, Nat.le_of_ble_eq_true rfl, Nat.le_of_ble_eq_true rfl⟩ rfl rfl rfl rfl (by decide) ro_nil dX7_init_2 (fun u hu => ?_)
  show V x cX7_init RX7 2 (rmU 2 33 0 0) [(h, co 7 [ar ta, ai 0, ai 0, ai 0, ai 0, ai 0, ai 0, ai 0, ai 0])] 5 [(0, ar h), (1, ar ta)] [] 0 0
  exact hret () _ _ _ _ _ trivial rfl rfl (Nat.le_of_ble_eq_true rfl) (Nat.le_of_ble_eq_true rfl) dX7_init_5
set_option maxHeartbeats 4000000 in
set_option maxRecDepth 100000 in
theorem c_X7_init_k9 {gS : sG} (h : Nat) (ta : Nat) : Ct gS (S := Unit) yX7_init cX7_init 2 none 2 33 0 0 [ar h, ar ta] [(h, co 9 [an, ai 0, ai 0, ai 0, ai 0, ai 0, ai 0, ai 0, ai 0, an])] (fun q => q ∈ ([] : aW)) (fun _ => True) (fun _ => none) (fun _ => [(h, co 9 [ar ta, ai 0, ai 0, ai 0, ai 0, ai 0, ai 0, ai 0, ai 0, an])]) := by
  refine ct_V RX7 [(0, ar h), (1, ar ta)] (by decide) rfl (Nat.le_of_ble_eq_true rfl) rfl (fun x hgS hnm hro hret => ?_)
  subst hgS
  show V x cX7_init RX7 2 (rmU 2 33 0 0) [(h, co 9 [an, ai 0, ai 0, ai 0, ai 0, ai 0, ai 0, ai 0, ai 0, an])] 0 [(0, ar h), (1, ar ta)] [] 0 0
  refine v_aload_n (pc := 0) 0 rfl dX7_init_0 ?_
  refine v_aload_n (pc := 1) 1 rfl dX7_init_1 ?_
  refine v_callI (pc := 2) [0] [] [] (As := [ar ta]) (rest := []) (c_X5_init_k9 h ta ) wl_X7_1 wi_X5_init wk_X5_init wz_X5 rfl md_X5_init rfl (Nat.le_of_ble_eq_true rfl) ⟨Nat.le_of_ble_eq_true rfl, Nat.le_of_ble_eq_true rfl, Nat.le_of_ble_eq_true rfl, Nat.le_of_ble_eq_true rfl⟩ rfl rfl rfl rfl (by decide) ro_nil dX7_init_2 (fun u hu => ?_)
  show V x cX7_init RX7 2 (rmU 2 33 0 0) [(h, co 9 [ar ta, ai 0, ai 0, ai 0, ai 0, ai 0, ai 0, ai 0, ai 0, an])] 5 [(0, ar h), (1, ar ta)] [] 0 0
  exact hret () _ _ _ _ _ trivial rfl rfl (Nat.le_of_ble_eq_true rfl) (Nat.le_of_ble_eq_true rfl) dX7_init_5
set_option maxHeartbeats 4000000 in
set_option maxRecDepth 100000 in
theorem c_X1_init_k1 {gS : sG} (h : Nat) (ta : Nat) : Ct gS (S := Unit) yX1_init cX1_init 2 none 3 54 0 0 [ar h, ar ta] [(h, co 1 [an, ai 0, ai 0, ai 0, ai 0, ai 0, ai 0, ai 0, ai 0])] (fun q => q ∈ ([] : aW)) (fun _ => True) (fun _ => none) (fun _ => [(h, co 1 [ar ta, ai 0, ai 0, ai 0, ai 0, ai 0, ai 0, ai 0, ai 0])]) := by
  refine ct_V RX1 [(0, ar h), (1, ar ta)] (by decide) rfl (Nat.le_of_ble_eq_true rfl) rfl (fun x hgS hnm hro hret => ?_)
  subst hgS
  show V x cX1_init RX1 2 (rmU 3 54 0 0) [(h, co 1 [an, ai 0, ai 0, ai 0, ai 0, ai 0, ai 0, ai 0, ai 0])] 0 [(0, ar h), (1, ar ta)] [] 0 0
  refine v_aload_n (pc := 0) 0 rfl dX1_init_0 ?_
  refine v_aload_n (pc := 1) 1 rfl dX1_init_1 ?_
  refine v_callI (pc := 2) [0] [] [] (As := [ar ta]) (rest := []) (c_X8_init_k1 h ta ) wl_X1_1 wi_X8_init wk_X8_init wz_X8 rfl md_X8_init rfl (Nat.le_of_ble_eq_true rfl) ⟨Nat.le_of_ble_eq_true rfl, Nat.le_of_ble_eq_true rfl, Nat.le_of_ble_eq_true rfl, Nat.le_of_ble_eq_true rfl⟩ rfl rfl rfl rfl (by decide) ro_nil dX1_init_2 (fun u hu => ?_)
  show V x cX1_init RX1 2 (rmU 3 54 0 0) [(h, co 1 [ar ta, ai 0, ai 0, ai 0, ai 0, ai 0, ai 0, ai 0, ai 0])] 5 [(0, ar h), (1, ar ta)] [] 0 0
  exact hret () _ _ _ _ _ trivial rfl rfl (Nat.le_of_ble_eq_true rfl) (Nat.le_of_ble_eq_true rfl) dX1_init_5
set_option maxHeartbeats 4000000 in
set_option maxRecDepth 100000 in
theorem c_X2_init_k2 {gS : sG} (h : Nat) (ta : Nat) : Ct gS (S := Unit) yX2_init cX2_init 2 none 3 54 0 0 [ar h, ar ta] [(h, co 2 [an, ai 0, ai 0, ai 0, ai 0, ai 0, ai 0, ai 0, ai 0])] (fun q => q ∈ ([] : aW)) (fun _ => True) (fun _ => none) (fun _ => [(h, co 2 [ar ta, ai 0, ai 0, ai 0, ai 0, ai 0, ai 0, ai 0, ai 0])]) := by
  refine ct_V RX2 [(0, ar h), (1, ar ta)] (by decide) rfl (Nat.le_of_ble_eq_true rfl) rfl (fun x hgS hnm hro hret => ?_)
  subst hgS
  show V x cX2_init RX2 2 (rmU 3 54 0 0) [(h, co 2 [an, ai 0, ai 0, ai 0, ai 0, ai 0, ai 0, ai 0, ai 0])] 0 [(0, ar h), (1, ar ta)] [] 0 0
  refine v_aload_n (pc := 0) 0 rfl dX2_init_0 ?_
  refine v_aload_n (pc := 1) 1 rfl dX2_init_1 ?_
  refine v_callI (pc := 2) [0] [] [] (As := [ar ta]) (rest := []) (c_X0_init_k2 h ta ) wl_X2_1 wi_X0_init wk_X0_init wz_X0 rfl md_X0_init rfl (Nat.le_of_ble_eq_true rfl) ⟨Nat.le_of_ble_eq_true rfl, Nat.le_of_ble_eq_true rfl, Nat.le_of_ble_eq_true rfl, Nat.le_of_ble_eq_true rfl⟩ rfl rfl rfl rfl (by decide) ro_nil dX2_init_2 (fun u hu => ?_)
  show V x cX2_init RX2 2 (rmU 3 54 0 0) [(h, co 2 [ar ta, ai 0, ai 0, ai 0, ai 0, ai 0, ai 0, ai 0, ai 0])] 5 [(0, ar h), (1, ar ta)] [] 0 0
  exact hret () _ _ _ _ _ trivial rfl rfl (Nat.le_of_ble_eq_true rfl) (Nat.le_of_ble_eq_true rfl) dX2_init_5
set_option maxHeartbeats 4000000 in
set_option maxRecDepth 100000 in
theorem c_X9_init_k9 {gS : sG} (h : Nat) (ta : Nat) : Ct gS (S := Nat × (Int → Int)) yX9_init cX9_init 2 none 3 54 1 4 [ar h, ar ta] [(h, co 9 [an, ai 0, ai 0, ai 0, ai 0, ai 0, ai 0, ai 0, ai 0, an])] (fun q => q ∈ ([] : aW)) (fun u => ∀ k : Int, 0 ≤ k → k < 4 → u.2 k = 4) (fun u => none) (fun u => [(h, co 9 [ar ta, ai 0, ai 0, ai 0, ai 0, ai 0, ai 0, ai 0, ai 0, ar u.1]), (u.1, cn 0 4 u.2)]) := by
  refine ct_V RX9 [(0, ar h), (1, ar ta)] (by decide) rfl (Nat.le_of_ble_eq_true rfl) rfl (fun x hgS hnm hro hret => ?_)
  subst hgS
  show V x cX9_init RX9 2 (rmU 3 54 1 4) [(h, co 9 [an, ai 0, ai 0, ai 0, ai 0, ai 0, ai 0, ai 0, ai 0, an])] 0 [(0, ar h), (1, ar ta)] [] 0 0
  refine v_aload_n (pc := 0) 0 rfl dX9_init_0 ?_
  refine v_aload_n (pc := 1) 1 rfl dX9_init_1 ?_
  refine v_callI (pc := 2) [0] [] [] (As := [ar ta]) (rest := []) (c_X7_init_k9 h ta ) wl_X9_1 wi_X7_init wk_X7_init wz_X7 rfl md_X7_init rfl (Nat.le_of_ble_eq_true rfl) ⟨Nat.le_of_ble_eq_true rfl, Nat.le_of_ble_eq_true rfl, Nat.le_of_ble_eq_true rfl, Nat.le_of_ble_eq_true rfl⟩ rfl rfl rfl rfl (by decide) ro_nil dX9_init_2 (fun u hu => ?_)
  show V x cX9_init RX9 2 (rmU 3 54 1 4) [(h, co 9 [ar ta, ai 0, ai 0, ai 0, ai 0, ai 0, ai 0, ai 0, ai 0, an])] 5 [(0, ar h), (1, ar ta)] [] 0 0
  refine v_aload_n (pc := 5) 0 rfl dX9_init_5 ?_
  refine v_iconst (pc := 6) dX9_init_6 ?_
  refine v_newa (pc := 7) (N := 4) wa_int (by decide) ⟨Nat.le_of_ble_eq_true rfl, Nat.le_of_ble_eq_true rfl⟩ dX9_init_7 (fun q_1 => ?_)
  show V x cX9_init RX9 2 (rmU 3 54 1 4) [(h, co 9 [ar ta, ai 0, ai 0, ai 0, ai 0, ai 0, ai 0, ai 0, ai 0, an]), (q_1, cn 0 4 (fun _ => 0))] 9 [(0, ar h), (1, ar ta)] [ar q_1, ar h] 1 4
  refine v_dup (pc := 9) rfl dX9_init_9 ?_
  refine v_iconst (pc := 10) dX9_init_10 ?_
  refine v_iconst (pc := 11) dX9_init_11 ?_
  refine v_iast (pc := 12) 1 rfl (by omega) (by omega) (by decide) (ws2 := [(h, co 9 [ar ta, ai 0, ai 0, ai 0, ai 0, ai 0, ai 0, ai 0, ai 0, an]), (q_1, cn 0 4 (aup (fun _ => 0) 0 4))]) rfl dX9_init_12 ?_
  refine v_dup (pc := 13) rfl dX9_init_13 ?_
  refine v_iconst (pc := 14) dX9_init_14 ?_
  refine v_iconst (pc := 15) dX9_init_15 ?_
  refine v_iast (pc := 16) 1 rfl (by omega) (by omega) (by decide) (ws2 := [(h, co 9 [ar ta, ai 0, ai 0, ai 0, ai 0, ai 0, ai 0, ai 0, ai 0, an]), (q_1, cn 0 4 (aup (aup (fun _ => 0) 0 4) 1 4))]) rfl dX9_init_16 ?_
  refine v_dup (pc := 17) rfl dX9_init_17 ?_
  refine v_iconst (pc := 18) dX9_init_18 ?_
  refine v_iconst (pc := 19) dX9_init_19 ?_
  refine v_iast (pc := 20) 1 rfl (by omega) (by omega) (by decide) (ws2 := [(h, co 9 [ar ta, ai 0, ai 0, ai 0, ai 0, ai 0, ai 0, ai 0, ai 0, an]), (q_1, cn 0 4 (aup (aup (aup (fun _ => 0) 0 4) 1 4) 2 4))]) rfl dX9_init_20 ?_
  refine v_dup (pc := 21) rfl dX9_init_21 ?_
  refine v_iconst (pc := 22) dX9_init_22 ?_
  refine v_iconst (pc := 23) dX9_init_23 ?_
  refine v_iast (pc := 24) 1 rfl (by omega) (by omega) (by decide) (ws2 := [(h, co 9 [ar ta, ai 0, ai 0, ai 0, ai 0, ai 0, ai 0, ai 0, ai 0, an]), (q_1, cn 0 4 (aup (aup (aup (aup (fun _ => 0) 0 4) 1 4) 2 4) 3 4))]) rfl dX9_init_24 ?_
  refine v_putF (pc := 25) 9 0 hnm ⟨_, rfl, rfl⟩ rfl fl_9_7_9 ck_9 ft_9_9 (okV_a _ _) (Nat.le_of_ble_eq_true rfl) (ws2 := [(h, co 9 [ar ta, ai 0, ai 0, ai 0, ai 0, ai 0, ai 0, ai 0, ai 0, ar q_1]), (q_1, cn 0 4 (aup (aup (aup (aup (fun _ => 0) 0 4) 1 4) 2 4) 3 4))]) rfl dX9_init_25 ?_
  exact hret (q_1, (aup (aup (aup (aup (fun _ => 0) 0 4) 1 4) 2 4) 3 4)) _ _ _ _ _ (by intro k k0 k1; rcases (show k = 0 ∨ k = 1 ∨ k = 2 ∨ k = 3 by omega) with rfl | rfl | rfl | rfl <;> simp [aup]) rfl rfl (Nat.le_of_ble_eq_true rfl) (Nat.le_of_ble_eq_true rfl) dX9_init_28
set_option maxHeartbeats 4000000 in
set_option maxRecDepth 100000 in
theorem c_X3_init {gS : sG} (h : Nat) : Ct gS (S := Nat × Nat × Nat) yX3_init cX3_init 1 none 1 12 3 120 [ar h] [(h, co 3 [ai 0, ai 0, ai 0, ai 0, an, an, an])] (fun q => q ∈ ([] : aW)) (fun u => True) (fun u => none) (fun u => [(h, co 3 [ai 6, ai 1, ai 0, ai 0, ar u.1, ar u.2.1, ar u.2.2]), (u.1, cn 0 10 (fun _ => 0)), (u.2.1, cn 0 10 (fun _ => 0)), (u.2.2, cn 0 100 (fun _ => 0))]) := by
  refine ct_V RX3 [(0, ar h)] (by decide) rfl (Nat.le_of_ble_eq_true rfl) rfl (fun x hgS hnm hro hret => ?_)
  subst hgS
  show V x cX3_init RX3 1 (rmU 1 12 3 120) [(h, co 3 [ai 0, ai 0, ai 0, ai 0, an, an, an])] 0 [(0, ar h)] [] 0 0
  refine v_aload_n (pc := 0) 0 rfl dX3_init_0 ?_
  refine v_objInit (pc := 1) wlo_X3_3 wio wko ⟨Nat.le_of_ble_eq_true rfl, Nat.le_of_ble_eq_true rfl⟩ dX3_init_1 ?_
  refine v_aload_n (pc := 4) 0 rfl dX3_init_4 ?_
  refine v_bipush (pc := 5) dX3_init_5 (by decide) ?_
  refine v_put (pc := 7) 0 0 rfl fl_3_9_3 ck_3 ft_3_0 (okV_i _) (Nat.le_of_ble_eq_true rfl) (ws2 := [(h, co 3 [ai 6, ai 0, ai 0, ai 0, an, an, an])]) rfl dX3_init_7 ?_
  refine v_aload_n (pc := 10) 0 rfl dX3_init_10 ?_
  refine v_iconst (pc := 11) dX3_init_11 ?_
  refine v_put (pc := 12) 1 0 rfl fl_3_15_3 ck_3 ft_3_1 (okV_i _) (Nat.le_of_ble_eq_true rfl) (ws2 := [(h, co 3 [ai 6, ai 1, ai 0, ai 0, an, an, an])]) rfl dX3_init_12 ?_
  refine v_aload_n (pc := 15) 0 rfl dX3_init_15 ?_
  refine v_bipush (pc := 16) dX3_init_16 (by decide) ?_
  refine v_newa (pc := 18) (N := 10) wa_int (by decide) ⟨Nat.le_of_ble_eq_true rfl, Nat.le_of_ble_eq_true rfl⟩ dX3_init_18 (fun q_1 => ?_)
  show V x cX3_init RX3 1 (rmU 1 12 3 120) [(h, co 3 [ai 6, ai 1, ai 0, ai 0, an, an, an]), (q_1, cn 0 10 (fun _ => 0))] 20 [(0, ar h)] [ar q_1, ar h] 1 10
  refine v_putF (pc := 20) 4 0 hnm ⟨_, rfl, rfl⟩ rfl fl_3_18_3 ck_3 ft_3_4 (okV_a _ _) (Nat.le_of_ble_eq_true rfl) (ws2 := [(h, co 3 [ai 6, ai 1, ai 0, ai 0, ar q_1, an, an]), (q_1, cn 0 10 (fun _ => 0))]) rfl dX3_init_20 ?_
  refine v_aload_n (pc := 23) 0 rfl dX3_init_23 ?_
  refine v_bipush (pc := 24) dX3_init_24 (by decide) ?_
  refine v_newa (pc := 26) (N := 10) wa_int (by decide) ⟨Nat.le_of_ble_eq_true rfl, Nat.le_of_ble_eq_true rfl⟩ dX3_init_26 (fun q_2 => ?_)
  show V x cX3_init RX3 1 (rmU 1 12 3 120) [(h, co 3 [ai 6, ai 1, ai 0, ai 0, ar q_1, an, an]), (q_1, cn 0 10 (fun _ => 0)), (q_2, cn 0 10 (fun _ => 0))] 28 [(0, ar h)] [ar q_2, ar h] 2 20
  refine v_putF (pc := 28) 5 0 hnm ⟨_, rfl, rfl⟩ rfl fl_3_22_3 ck_3 ft_3_5 (okV_a _ _) (Nat.le_of_ble_eq_true rfl) (ws2 := [(h, co 3 [ai 6, ai 1, ai 0, ai 0, ar q_1, ar q_2, an]), (q_1, cn 0 10 (fun _ => 0)), (q_2, cn 0 10 (fun _ => 0))]) rfl dX3_init_28 ?_
  refine v_aload_n (pc := 31) 0 rfl dX3_init_31 ?_
  refine v_bipush (pc := 32) dX3_init_32 (by decide) ?_
  refine v_newa (pc := 34) (N := 100) wa_int (by decide) ⟨Nat.le_of_ble_eq_true rfl, Nat.le_of_ble_eq_true rfl⟩ dX3_init_34 (fun q_3 => ?_)
  show V x cX3_init RX3 1 (rmU 1 12 3 120) [(h, co 3 [ai 6, ai 1, ai 0, ai 0, ar q_1, ar q_2, an]), (q_1, cn 0 10 (fun _ => 0)), (q_2, cn 0 10 (fun _ => 0)), (q_3, cn 0 100 (fun _ => 0))] 36 [(0, ar h)] [ar q_3, ar h] 3 120
  refine v_putF (pc := 36) 6 0 hnm ⟨_, rfl, rfl⟩ rfl fl_3_25_3 ck_3 ft_3_6 (okV_a _ _) (Nat.le_of_ble_eq_true rfl) (ws2 := [(h, co 3 [ai 6, ai 1, ai 0, ai 0, ar q_1, ar q_2, ar q_3]), (q_1, cn 0 10 (fun _ => 0)), (q_2, cn 0 10 (fun _ => 0)), (q_3, cn 0 100 (fun _ => 0))]) rfl dX3_init_36 ?_
  exact hret (q_1, q_2, q_3) _ _ _ _ _ trivial rfl rfl (Nat.le_of_ble_eq_true rfl) (Nat.le_of_ble_eq_true rfl) dX3_init_39
set_option maxHeartbeats 4000000 in
set_option maxRecDepth 100000 in
theorem c_X4_init {gS : sG} (h : Nat) : Ct gS (S := Nat) yX4_init cX4_init 1 none 1 12 1 6 [ar h] [(h, co 4 [an, ai 0, ai 0, ai 0, ai 0, ai 0, ai 0])] (fun q => q ∈ ([] : aW)) (fun u => True) (fun u => none) (fun u => [(h, co 4 [ar u, ai 0, ai 0, ai 0, ai 0, ai 0, ai 0]), (u, cn 0 6 (fun _ => 0))]) := by
  refine ct_V RX4 [(0, ar h)] (by decide) rfl (Nat.le_of_ble_eq_true rfl) rfl (fun x hgS hnm hro hret => ?_)
  subst hgS
  show V x cX4_init RX4 1 (rmU 1 12 1 6) [(h, co 4 [an, ai 0, ai 0, ai 0, ai 0, ai 0, ai 0])] 0 [(0, ar h)] [] 0 0
  refine v_aload_n (pc := 0) 0 rfl dX4_init_0 ?_
  refine v_objInit (pc := 1) wlo_X4_3 wio wko ⟨Nat.le_of_ble_eq_true rfl, Nat.le_of_ble_eq_true rfl⟩ dX4_init_1 ?_
  refine v_aload_n (pc := 4) 0 rfl dX4_init_4 ?_
  refine v_bipush (pc := 5) dX4_init_5 (by decide) ?_
  refine v_newa (pc := 7) (N := 6) wa_int (by decide) ⟨Nat.le_of_ble_eq_true rfl, Nat.le_of_ble_eq_true rfl⟩ dX4_init_7 (fun q_1 => ?_)
  show V x cX4_init RX4 1 (rmU 1 12 1 6) [(h, co 4 [an, ai 0, ai 0, ai 0, ai 0, ai 0, ai 0]), (q_1, cn 0 6 (fun _ => 0))] 9 [(0, ar h)] [ar q_1, ar h] 1 6
  refine v_putF (pc := 9) 0 0 hnm ⟨_, rfl, rfl⟩ rfl fl_4_9_4 ck_4 ft_4_0 (okV_a _ _) (Nat.le_of_ble_eq_true rfl) (ws2 := [(h, co 4 [ar q_1, ai 0, ai 0, ai 0, ai 0, ai 0, ai 0]), (q_1, cn 0 6 (fun _ => 0))]) rfl dX4_init_9 ?_
  exact hret q_1 _ _ _ _ _ trivial rfl rfl (Nat.le_of_ble_eq_true rfl) (Nat.le_of_ble_eq_true rfl) dX4_init_12
