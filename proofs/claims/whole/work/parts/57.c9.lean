set_option maxHeartbeats 4000000 in
set_option maxRecDepth 100000 in
theorem c_X5_init_k5 {gS : sG} (h : Nat) (ta : Nat) : Ct gS (S := Unit) yX5_init cX5_init 2 none 1 12 0 0 [ar h, ar ta] [(h, co 5 [an, ai 0, ai 0, ai 0, ai 0, ai 0, ai 0, ai 0, ai 0])] (fun q => q ∈ ([] : aW)) (fun _ => True) (fun _ => none) (fun _ => [(h, co 5 [ar ta, ai 0, ai 0, ai 0, ai 0, ai 0, ai 0, ai 0, ai 0])]) := by
  refine ct_V RX5 [(0, ar h), (1, ar ta)] (by decide) rfl (Nat.le_of_ble_eq_true rfl) rfl (fun x hgS hnm hro hret => ?_)
  subst hgS
  show V x cX5_init RX5 2 (rmU 1 12 0 0) [(h, co 5 [an, ai 0, ai 0, ai 0, ai 0, ai 0, ai 0, ai 0, ai 0])] 0 [(0, ar h), (1, ar ta)] [] 0 0
  refine v_aload_n (pc := 0) 0 rfl dX5_init_0 ?_
  refine v_objInit (pc := 1) wlo_X5_3 wio wko ⟨Nat.le_of_ble_eq_true rfl, Nat.le_of_ble_eq_true rfl⟩ dX5_init_1 ?_
  refine v_aload_n (pc := 4) 0 rfl dX5_init_4 ?_
  refine v_aload_n (pc := 5) 1 rfl dX5_init_5 ?_
  refine v_putF (pc := 6) 0 0 hnm ⟨_, rfl, rfl⟩ rfl fl_5_9_5 ck_5 ft_5_0 (okV_a _ _) (Nat.le_of_ble_eq_true rfl) (ws2 := [(h, co 5 [ar ta, ai 0, ai 0, ai 0, ai 0, ai 0, ai 0, ai 0, ai 0])]) rfl dX5_init_6 ?_
  exact hret () _ _ _ _ _ trivial rfl rfl (Nat.le_of_ble_eq_true rfl) (Nat.le_of_ble_eq_true rfl) dX5_init_9
set_option maxHeartbeats 4000000 in
set_option maxRecDepth 100000 in
theorem c_X5_init_k8 {gS : sG} (h : Nat) (ta : Nat) : Ct gS (S := Unit) yX5_init cX5_init 2 none 1 12 0 0 [ar h, ar ta] [(h, co 8 [an, ai 0, ai 0, ai 0, ai 0, ai 0, ai 0, ai 0, ai 0])] (fun q => q ∈ ([] : aW)) (fun _ => True) (fun _ => none) (fun _ => [(h, co 8 [ar ta, ai 0, ai 0, ai 0, ai 0, ai 0, ai 0, ai 0, ai 0])]) := by
  refine ct_V RX5 [(0, ar h), (1, ar ta)] (by decide) rfl (Nat.le_of_ble_eq_true rfl) rfl (fun x hgS hnm hro hret => ?_)
  subst hgS
  show V x cX5_init RX5 2 (rmU 1 12 0 0) [(h, co 8 [an, ai 0, ai 0, ai 0, ai 0, ai 0, ai 0, ai 0, ai 0])] 0 [(0, ar h), (1, ar ta)] [] 0 0
  refine v_aload_n (pc := 0) 0 rfl dX5_init_0 ?_
  refine v_objInit (pc := 1) wlo_X5_3 wio wko ⟨Nat.le_of_ble_eq_true rfl, Nat.le_of_ble_eq_true rfl⟩ dX5_init_1 ?_
  refine v_aload_n (pc := 4) 0 rfl dX5_init_4 ?_
  refine v_aload_n (pc := 5) 1 rfl dX5_init_5 ?_
  refine v_putF (pc := 6) 0 0 hnm ⟨_, rfl, rfl⟩ rfl fl_5_9_8 ck_8 ft_8_0 (okV_a _ _) (Nat.le_of_ble_eq_true rfl) (ws2 := [(h, co 8 [ar ta, ai 0, ai 0, ai 0, ai 0, ai 0, ai 0, ai 0, ai 0])]) rfl dX5_init_6 ?_
  exact hret () _ _ _ _ _ trivial rfl rfl (Nat.le_of_ble_eq_true rfl) (Nat.le_of_ble_eq_true rfl) dX5_init_9
set_option maxHeartbeats 4000000 in
set_option maxRecDepth 100000 in
theorem c_X5_init_k0 {gS : sG} (h : Nat) (ta : Nat) : Ct gS (S := Unit) yX5_init cX5_init 2 none 1 12 0 0 [ar h, ar ta] [(h, co 0 [an, ai 0, ai 0, ai 0, ai 0, ai 0, ai 0, ai 0, ai 0])] (fun q => q ∈ ([] : aW)) (fun _ => True) (fun _ => none) (fun _ => [(h, co 0 [ar ta, ai 0, ai 0, ai 0, ai 0, ai 0, ai 0, ai 0, ai 0])]) := by
  refine ct_V RX5 [(0, ar h), (1, ar ta)] (by decide) rfl (Nat.le_of_ble_eq_true rfl) rfl (fun x hgS hnm hro hret => ?_)
  subst hgS
  show V x cX5_init RX5 2 (rmU 1 12 0 0) [(h, co 0 [an, ai 0, ai 0, ai 0, ai 0, ai 0, ai 0, ai 0, ai 0])] 0 [(0, ar h), (1, ar ta)] [] 0 0
  refine v_aload_n (pc := 0) 0 rfl dX5_init_0 ?_
  refine v_objInit (pc := 1) wlo_X5_3 wio wko ⟨Nat.le_of_ble_eq_true rfl, Nat.le_of_ble_eq_true rfl⟩ dX5_init_1 ?_
  refine v_aload_n (pc := 4) 0 rfl dX5_init_4 ?_
  refine v_aload_n (pc := 5) 1 rfl dX5_init_5 ?_
  refine v_putF (pc := 6) 0 0 hnm ⟨_, rfl, rfl⟩ rfl fl_5_9_0 ck_0 ft_0_0 (okV_a _ _) (Nat.le_of_ble_eq_true rfl) (ws2 := [(h, co 0 [ar ta, ai 0, ai 0, ai 0, ai 0, ai 0, ai 0, ai 0, ai 0])]) rfl dX5_init_6 ?_
  exact hret () _ _ _ _ _ trivial rfl rfl (Nat.le_of_ble_eq_true rfl) (Nat.le_of_ble_eq_true rfl) dX5_init_9
set_option maxHeartbeats 4000000 in
set_option maxRecDepth 100000 in
theorem c_X5_init_k7 {gS : sG} (h : Nat) (ta : Nat) : Ct gS (S := Unit) yX5_init cX5_init 2 none 1 12 0 0 [ar h, ar ta] [(h, co 7 [an, ai 0, ai 0, ai 0, ai 0, ai 0, ai 0, ai 0, ai 0])] (fun q => q ∈ ([] : aW)) (fun _ => True) (fun _ => none) (fun _ => [(h, co 7 [ar ta, ai 0, ai 0, ai 0, ai 0, ai 0, ai 0, ai 0, ai 0])]) := by
  refine ct_V RX5 [(0, ar h), (1, ar ta)] (by decide) rfl (Nat.le_of_ble_eq_true rfl) rfl (fun x hgS hnm hro hret => ?_)
  subst hgS
  show V x cX5_init RX5 2 (rmU 1 12 0 0) [(h, co 7 [an, ai 0, ai 0, ai 0, ai 0, ai 0, ai 0, ai 0, ai 0])] 0 [(0, ar h), (1, ar ta)] [] 0 0
  refine v_aload_n (pc := 0) 0 rfl dX5_init_0 ?_
  refine v_objInit (pc := 1) wlo_X5_3 wio wko ⟨Nat.le_of_ble_eq_true rfl, Nat.le_of_ble_eq_true rfl⟩ dX5_init_1 ?_
  refine v_aload_n (pc := 4) 0 rfl dX5_init_4 ?_
  refine v_aload_n (pc := 5) 1 rfl dX5_init_5 ?_
  refine v_putF (pc := 6) 0 0 hnm ⟨_, rfl, rfl⟩ rfl fl_5_9_7 ck_7 ft_7_0 (okV_a _ _) (Nat.le_of_ble_eq_true rfl) (ws2 := [(h, co 7 [ar ta, ai 0, ai 0, ai 0, ai 0, ai 0, ai 0, ai 0, ai 0])]) rfl dX5_init_6 ?_
  exact hret () _ _ _ _ _ trivial rfl rfl (Nat.le_of_ble_eq_true rfl) (Nat.le_of_ble_eq_true rfl) dX5_init_9
set_option maxHeartbeats 4000000 in
set_option maxRecDepth 100000 in
theorem c_X5_init_k1 {gS : sG} (h : Nat) (ta : Nat) : Ct gS (S := Unit) yX5_init cX5_init 2 none 1 12 0 0 [ar h, ar ta] [(h, co 1 [an, ai 0, ai 0, ai 0, ai 0, ai 0, ai 0, ai 0, ai 0])] (fun q => q ∈ ([] : aW)) (fun _ => True) (fun _ => none) (fun _ => [(h, co 1 [ar ta, ai 0, ai 0, ai 0, ai 0, ai 0, ai 0, ai 0, ai 0])]) := by
  refine ct_V RX5 [(0, ar h), (1, ar ta)] (by decide) rfl (Nat.le_of_ble_eq_true rfl) rfl (fun x hgS hnm hro hret => ?_)
  subst hgS
  show V x cX5_init RX5 2 (rmU 1 12 0 0) [(h, co 1 [an, ai 0, ai 0, ai 0, ai 0, ai 0, ai 0, ai 0, ai 0])] 0 [(0, ar h), (1, ar ta)] [] 0 0
  refine v_aload_n (pc := 0) 0 rfl dX5_init_0 ?_
  refine v_objInit (pc := 1) wlo_X5_3 wio wko ⟨Nat.le_of_ble_eq_true rfl, Nat.le_of_ble_eq_true rfl⟩ dX5_init_1 ?_
  refine v_aload_n (pc := 4) 0 rfl dX5_init_4 ?_
  refine v_aload_n (pc := 5) 1 rfl dX5_init_5 ?_
  refine v_putF (pc := 6) 0 0 hnm ⟨_, rfl, rfl⟩ rfl fl_5_9_1 ck_1 ft_1_0 (okV_a _ _) (Nat.le_of_ble_eq_true rfl) (ws2 := [(h, co 1 [ar ta, ai 0, ai 0, ai 0, ai 0, ai 0, ai 0, ai 0, ai 0])]) rfl dX5_init_6 ?_
  exact hret () _ _ _ _ _ trivial rfl rfl (Nat.le_of_ble_eq_true rfl) (Nat.le_of_ble_eq_true rfl) dX5_init_9
set_option maxHeartbeats 4000000 in
set_option maxRecDepth 100000 in
theorem c_X5_init_k2 {gS : sG} (h : Nat) (ta : Nat) : Ct gS (S := Unit) yX5_init cX5_init 2 none 1 12 0 0 [ar h, ar ta] [(h, co 2 [an, ai 0, ai 0, ai 0, ai 0, ai 0, ai 0, ai 0, ai 0])] (fun q => q ∈ ([] : aW)) (fun _ => True) (fun _ => none) (fun _ => [(h, co 2 [ar ta, ai 0, ai 0, ai 0, ai 0, ai 0, ai 0, ai 0, ai 0])]) := by
  refine ct_V RX5 [(0, ar h), (1, ar ta)] (by decide) rfl (Nat.le_of_ble_eq_true rfl) rfl (fun x hgS hnm hro hret => ?_)
  subst hgS
  show V x cX5_init RX5 2 (rmU 1 12 0 0) [(h, co 2 [an, ai 0, ai 0, ai 0, ai 0, ai 0, ai 0, ai 0, ai 0])] 0 [(0, ar h), (1, ar ta)] [] 0 0
  refine v_aload_n (pc := 0) 0 rfl dX5_init_0 ?_
  refine v_objInit (pc := 1) wlo_X5_3 wio wko ⟨Nat.le_of_ble_eq_true rfl, Nat.le_of_ble_eq_true rfl⟩ dX5_init_1 ?_
  refine v_aload_n (pc := 4) 0 rfl dX5_init_4 ?_
  refine v_aload_n (pc := 5) 1 rfl dX5_init_5 ?_
  refine v_putF (pc := 6) 0 0 hnm ⟨_, rfl, rfl⟩ rfl fl_5_9_2 ck_2 ft_2_0 (okV_a _ _) (Nat.le_of_ble_eq_true rfl) (ws2 := [(h, co 2 [ar ta, ai 0, ai 0, ai 0, ai 0, ai 0, ai 0, ai 0, ai 0])]) rfl dX5_init_6 ?_
  exact hret () _ _ _ _ _ trivial rfl rfl (Nat.le_of_ble_eq_true rfl) (Nat.le_of_ble_eq_true rfl) dX5_init_9
set_option maxHeartbeats 4000000 in
set_option maxRecDepth 100000 in
theorem c_X5_init_k9 {gS : sG} (h : Nat) (ta : Nat) : Ct gS (S := Unit) yX5_init cX5_init 2 none 1 12 0 0 [ar h, ar ta] [(h, co 9 [an, ai 0, ai 0, ai 0, ai 0, ai 0, ai 0, ai 0, ai 0, an])] (fun q => q ∈ ([] : aW)) (fun _ => True) (fun _ => none) (fun _ => [(h, co 9 [ar ta, ai 0, ai 0, ai 0, ai 0, ai 0, ai 0, ai 0, ai 0, an])]) := by
  refine ct_V RX5 [(0, ar h), (1, ar ta)] (by decide) rfl (Nat.le_of_ble_eq_true rfl) rfl (fun x hgS hnm hro hret => ?_)
  subst hgS
  show V x cX5_init RX5 2 (rmU 1 12 0 0) [(h, co 9 [an, ai 0, ai 0, ai 0, ai 0, ai 0, ai 0, ai 0, ai 0, an])] 0 [(0, ar h), (1, ar ta)] [] 0 0
  refine v_aload_n (pc := 0) 0 rfl dX5_init_0 ?_
  refine v_objInit (pc := 1) wlo_X5_3 wio wko ⟨Nat.le_of_ble_eq_true rfl, Nat.le_of_ble_eq_true rfl⟩ dX5_init_1 ?_
  refine v_aload_n (pc := 4) 0 rfl dX5_init_4 ?_
  refine v_aload_n (pc := 5) 1 rfl dX5_init_5 ?_
  refine v_putF (pc := 6) 0 0 hnm ⟨_, rfl, rfl⟩ rfl fl_5_9_9 ck_9 ft_9_0 (okV_a _ _) (Nat.le_of_ble_eq_true rfl) (ws2 := [(h, co 9 [ar ta, ai 0, ai 0, ai 0, ai 0, ai 0, ai 0, ai 0, ai 0, an])]) rfl dX5_init_6 ?_
  exact hret () _ _ _ _ _ trivial rfl rfl (Nat.le_of_ble_eq_true rfl) (Nat.le_of_ble_eq_true rfl) dX5_init_9
