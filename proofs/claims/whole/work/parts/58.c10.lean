set_option maxHeartbeats 4000000 in
set_option maxRecDepth 100000 in
theorem c_X5_ofKind_k5 {gS : sG} (ta : Nat) : Ct gS (S := Nat) yX5_ofKind cX5_ofKind 3 (some (.object "MatFlip$Player")) 2 33 1 9 [ai 0, ar ta] [] (fun q => q ∈ ([] : aW)) (fun u => True) (fun u => some (ar u)) (fun u => [(u, co 5 [ar ta, ai 0, ai 0, ai 0, ai 0, ai 0, ai 0, ai 0, ai 0])]) := by
  refine ct_A "MatFlip$Player" RX5 [(0, ai 0), (1, ar ta)] (by decide) rfl (Nat.le_of_ble_eq_true rfl) rfl (fun x hgS hro hret => ?_)
  subst hgS
  show V x cX5_ofKind RX5 3 (rmU 2 33 1 9) [] 0 [(0, ai 0), (1, ar ta)] [] 0 0
  refine v_iload_n (pc := 0) 0 rfl dX5_ofKind_0 ?_
  refine v_sw_out (pc := 1) 112 dX5_ofKind_1 (by decide) (by unfold iB; omega) (by decide) ?_
  refine v_new (pc := 112) (c := 5) (fs := [an, ai 0, ai 0, ai 0, ai 0, ai 0, ai 0, ai 0, ai 0]) (r := (RX5, TX5, 9)) tyX5 rfl tyX5_ok inX5 wc_X5_10 wn_X5 wz_X5 nf_X5 ⟨Nat.le_of_ble_eq_true rfl, Nat.le_of_ble_eq_true rfl⟩ dX5_ofKind_112 (fun q_1 => ?_)
  show V x cX5_ofKind RX5 3 (rmU 2 33 1 9) [(q_1, co 5 [an, ai 0, ai 0, ai 0, ai 0, ai 0, ai 0, ai 0, ai 0])] 115 [(0, ai 0), (1, ar ta)] [ar q_1] 1 9
  refine v_dup (pc := 115) rfl dX5_ofKind_115 ?_
  refine v_aload_n (pc := 116) 1 rfl dX5_ofKind_116 ?_
  refine v_callI (pc := 117) [0] [] [] (As := [ar ta]) (rest := [ar q_1]) (c_X5_init_k5 q_1 ta ) wl_X5_35 wi_X5_init wk_X5_init wz_X5 rfl md_X5_init rfl (Nat.le_of_ble_eq_true rfl) ⟨Nat.le_of_ble_eq_true rfl, Nat.le_of_ble_eq_true rfl, Nat.le_of_ble_eq_true rfl, Nat.le_of_ble_eq_true rfl⟩ rfl rfl rfl rfl (by decide) ro_nil dX5_ofKind_117 (fun u hu => ?_)
  show V x cX5_ofKind RX5 3 (rmU 2 33 1 9) [(q_1, co 5 [ar ta, ai 0, ai 0, ai 0, ai 0, ai 0, ai 0, ai 0, ai 0])] 120 [(0, ai 0), (1, ar ta)] [ar q_1] 1 9
  refine v_astore_n (pc := 120) (L2 := [(2, ar q_1), (0, ai 0), (1, ar ta)]) rfl (by decide) dX5_ofKind_120 ?_
  refine v_aload_n (pc := 121) 0 rfl dX5_ofKind_121 ?_
  refine v_iload_n (pc := 122) 1 rfl dX5_ofKind_122 ?_
  refine v_put (pc := 123) 1 0 rfl fl_5_36_5 ck_5 ft_5_1 (okV_i _) (Nat.le_of_ble_eq_true rfl) (ws2 := [(q_1, co 5 [ar ta, ai 0, ai 0, ai 0, ai 0, ai 0, ai 0, ai 0, ai 0])]) rfl dX5_ofKind_123 ?_
  refine v_aload_n (pc := 126) 0 rfl dX5_ofKind_126 ?_
  exact hret q_1 _ _ _ _ _ _ trivial (congrArg (fun z => some (aq z)) (by rfl)) rfl (Nat.le_of_ble_eq_true rfl) (Nat.le_of_ble_eq_true rfl) dX5_ofKind_127
set_option maxHeartbeats 4000000 in
set_option maxRecDepth 100000 in
theorem c_X5_ofKind_k8 {gS : sG} (ta : Nat) : Ct gS (S := Nat) yX5_ofKind cX5_ofKind 3 (some (.object "MatFlip$Player")) 3 54 1 9 [ai 1, ar ta] [] (fun q => q ∈ ([] : aW)) (fun u => True) (fun u => some (ar u)) (fun u => [(u, co 8 [ar ta, ai 1, ai 0, ai 0, ai 0, ai 0, ai 0, ai 0, ai 0])]) := by
  refine ct_A "MatFlip$Player" RX5 [(0, ai 1), (1, ar ta)] (by decide) rfl (Nat.le_of_ble_eq_true rfl) rfl (fun x hgS hro hret => ?_)
  subst hgS
  show V x cX5_ofKind RX5 3 (rmU 3 54 1 9) [] 0 [(0, ai 1), (1, ar ta)] [] 0 0
  refine v_iload_n (pc := 0) 0 rfl dX5_ofKind_0 ?_
  refine v_sw_in (pc := 1) 40 0 dX5_ofKind_1 (by unfold iB; omega) (by decide) (by decide) rfl rfl (by decide) ?_
  refine v_new (pc := 40) (c := 8) (fs := [an, ai 0, ai 0, ai 0, ai 0, ai 0, ai 0, ai 0, ai 0]) (r := (RX8, TX8, 9)) tyX8 rfl tyX8_ok inX8 wc_X5_15 wn_X8 wz_X8 nf_X8 ⟨Nat.le_of_ble_eq_true rfl, Nat.le_of_ble_eq_true rfl⟩ dX5_ofKind_40 (fun q_1 => ?_)
  show V x cX5_ofKind RX5 3 (rmU 3 54 1 9) [(q_1, co 8 [an, ai 0, ai 0, ai 0, ai 0, ai 0, ai 0, ai 0, ai 0])] 43 [(0, ai 1), (1, ar ta)] [ar q_1] 1 9
  refine v_dup (pc := 43) rfl dX5_ofKind_43 ?_
  refine v_aload_n (pc := 44) 1 rfl dX5_ofKind_44 ?_
  refine v_callI (pc := 45) [0] [] [] (As := [ar ta]) (rest := [ar q_1]) (c_X8_init_k8 q_1 ta ) wl_X5_17 wi_X8_init wk_X8_init wz_X8 rfl md_X8_init rfl (Nat.le_of_ble_eq_true rfl) ⟨Nat.le_of_ble_eq_true rfl, Nat.le_of_ble_eq_true rfl, Nat.le_of_ble_eq_true rfl, Nat.le_of_ble_eq_true rfl⟩ rfl rfl rfl rfl (by decide) ro_nil dX5_ofKind_45 (fun u hu => ?_)
  show V x cX5_ofKind RX5 3 (rmU 3 54 1 9) [(q_1, co 8 [ar ta, ai 0, ai 0, ai 0, ai 0, ai 0, ai 0, ai 0, ai 0])] 48 [(0, ai 1), (1, ar ta)] [ar q_1] 1 9
  refine v_astore_n (pc := 48) (L2 := [(2, ar q_1), (0, ai 1), (1, ar ta)]) rfl (by decide) dX5_ofKind_48 ?_
  refine v_goto (pc := 49) 121 dX5_ofKind_49 (by decide) ?_
  refine v_aload_n (pc := 121) 0 rfl dX5_ofKind_121 ?_
  refine v_iload_n (pc := 122) 1 rfl dX5_ofKind_122 ?_
  refine v_put (pc := 123) 1 0 rfl fl_5_36_8 ck_8 ft_8_1 (okV_i _) (Nat.le_of_ble_eq_true rfl) (ws2 := [(q_1, co 8 [ar ta, ai 1, ai 0, ai 0, ai 0, ai 0, ai 0, ai 0, ai 0])]) rfl dX5_ofKind_123 ?_
  refine v_aload_n (pc := 126) 0 rfl dX5_ofKind_126 ?_
  exact hret q_1 _ _ _ _ _ _ trivial (congrArg (fun z => some (aq z)) (by rfl)) rfl (Nat.le_of_ble_eq_true rfl) (Nat.le_of_ble_eq_true rfl) dX5_ofKind_127
set_option maxHeartbeats 4000000 in
set_option maxRecDepth 100000 in
theorem c_X5_ofKind_k0 {gS : sG} (ta : Nat) : Ct gS (S := Nat) yX5_ofKind cX5_ofKind 3 (some (.object "MatFlip$Player")) 3 54 1 9 [ai 2, ar ta] [] (fun q => q ∈ ([] : aW)) (fun u => True) (fun u => some (ar u)) (fun u => [(u, co 0 [ar ta, ai 2, ai 0, ai 0, ai 0, ai 0, ai 0, ai 0, ai 0])]) := by
  refine ct_A "MatFlip$Player" RX5 [(0, ai 2), (1, ar ta)] (by decide) rfl (Nat.le_of_ble_eq_true rfl) rfl (fun x hgS hro hret => ?_)
  subst hgS
  show V x cX5_ofKind RX5 3 (rmU 3 54 1 9) [] 0 [(0, ai 2), (1, ar ta)] [] 0 0
  refine v_iload_n (pc := 0) 0 rfl dX5_ofKind_0 ?_
  refine v_sw_in (pc := 1) 52 1 dX5_ofKind_1 (by unfold iB; omega) (by decide) (by decide) rfl rfl (by decide) ?_
  refine v_new (pc := 52) (c := 0) (fs := [an, ai 0, ai 0, ai 0, ai 0, ai 0, ai 0, ai 0, ai 0]) (r := (RX0, TX0, 9)) tyX0 rfl tyX0_ok inX0 wc_X5_20 wn_X0 wz_X0 nf_X0 ⟨Nat.le_of_ble_eq_true rfl, Nat.le_of_ble_eq_true rfl⟩ dX5_ofKind_52 (fun q_1 => ?_)
  show V x cX5_ofKind RX5 3 (rmU 3 54 1 9) [(q_1, co 0 [an, ai 0, ai 0, ai 0, ai 0, ai 0, ai 0, ai 0, ai 0])] 55 [(0, ai 2), (1, ar ta)] [ar q_1] 1 9
  refine v_dup (pc := 55) rfl dX5_ofKind_55 ?_
  refine v_aload_n (pc := 56) 1 rfl dX5_ofKind_56 ?_
  refine v_callI (pc := 57) [0] [] [] (As := [ar ta]) (rest := [ar q_1]) (c_X0_init_k0 q_1 ta ) wl_X5_22 wi_X0_init wk_X0_init wz_X0 rfl md_X0_init rfl (Nat.le_of_ble_eq_true rfl) ⟨Nat.le_of_ble_eq_true rfl, Nat.le_of_ble_eq_true rfl, Nat.le_of_ble_eq_true rfl, Nat.le_of_ble_eq_true rfl⟩ rfl rfl rfl rfl (by decide) ro_nil dX5_ofKind_57 (fun u hu => ?_)
  show V x cX5_ofKind RX5 3 (rmU 3 54 1 9) [(q_1, co 0 [ar ta, ai 0, ai 0, ai 0, ai 0, ai 0, ai 0, ai 0, ai 0])] 60 [(0, ai 2), (1, ar ta)] [ar q_1] 1 9
  refine v_astore_n (pc := 60) (L2 := [(2, ar q_1), (0, ai 2), (1, ar ta)]) rfl (by decide) dX5_ofKind_60 ?_
  refine v_goto (pc := 61) 121 dX5_ofKind_61 (by decide) ?_
  refine v_aload_n (pc := 121) 0 rfl dX5_ofKind_121 ?_
  refine v_iload_n (pc := 122) 1 rfl dX5_ofKind_122 ?_
  refine v_put (pc := 123) 1 0 rfl fl_5_36_0 ck_0 ft_0_1 (okV_i _) (Nat.le_of_ble_eq_true rfl) (ws2 := [(q_1, co 0 [ar ta, ai 2, ai 0, ai 0, ai 0, ai 0, ai 0, ai 0, ai 0])]) rfl dX5_ofKind_123 ?_
  refine v_aload_n (pc := 126) 0 rfl dX5_ofKind_126 ?_
  exact hret q_1 _ _ _ _ _ _ trivial (congrArg (fun z => some (aq z)) (by rfl)) rfl (Nat.le_of_ble_eq_true rfl) (Nat.le_of_ble_eq_true rfl) dX5_ofKind_127
set_option maxHeartbeats 4000000 in
set_option maxRecDepth 100000 in
theorem c_X5_ofKind_k7 {gS : sG} (ta : Nat) : Ct gS (S := Nat) yX5_ofKind cX5_ofKind 3 (some (.object "MatFlip$Player")) 3 54 1 9 [ai 3, ar ta] [] (fun q => q ∈ ([] : aW)) (fun u => True) (fun u => some (ar u)) (fun u => [(u, co 7 [ar ta, ai 3, ai 0, ai 0, ai 0, ai 0, ai 0, ai 0, ai 0])]) := by
  refine ct_A "MatFlip$Player" RX5 [(0, ai 3), (1, ar ta)] (by decide) rfl (Nat.le_of_ble_eq_true rfl) rfl (fun x hgS hro hret => ?_)
  subst hgS
  show V x cX5_ofKind RX5 3 (rmU 3 54 1 9) [] 0 [(0, ai 3), (1, ar ta)] [] 0 0
  refine v_iload_n (pc := 0) 0 rfl dX5_ofKind_0 ?_
  refine v_sw_in (pc := 1) 64 2 dX5_ofKind_1 (by unfold iB; omega) (by decide) (by decide) rfl rfl (by decide) ?_
  refine v_new (pc := 64) (c := 7) (fs := [an, ai 0, ai 0, ai 0, ai 0, ai 0, ai 0, ai 0, ai 0]) (r := (RX7, TX7, 9)) tyX7 rfl tyX7_ok inX7 wc_X5_23 wn_X7 wz_X7 nf_X7 ⟨Nat.le_of_ble_eq_true rfl, Nat.le_of_ble_eq_true rfl⟩ dX5_ofKind_64 (fun q_1 => ?_)
  show V x cX5_ofKind RX5 3 (rmU 3 54 1 9) [(q_1, co 7 [an, ai 0, ai 0, ai 0, ai 0, ai 0, ai 0, ai 0, ai 0])] 67 [(0, ai 3), (1, ar ta)] [ar q_1] 1 9
  refine v_dup (pc := 67) rfl dX5_ofKind_67 ?_
  refine v_aload_n (pc := 68) 1 rfl dX5_ofKind_68 ?_
  refine v_callI (pc := 69) [0] [] [] (As := [ar ta]) (rest := [ar q_1]) (c_X7_init_k7 q_1 ta ) wl_X5_25 wi_X7_init wk_X7_init wz_X7 rfl md_X7_init rfl (Nat.le_of_ble_eq_true rfl) ⟨Nat.le_of_ble_eq_true rfl, Nat.le_of_ble_eq_true rfl, Nat.le_of_ble_eq_true rfl, Nat.le_of_ble_eq_true rfl⟩ rfl rfl rfl rfl (by decide) ro_nil dX5_ofKind_69 (fun u hu => ?_)
  show V x cX5_ofKind RX5 3 (rmU 3 54 1 9) [(q_1, co 7 [ar ta, ai 0, ai 0, ai 0, ai 0, ai 0, ai 0, ai 0, ai 0])] 72 [(0, ai 3), (1, ar ta)] [ar q_1] 1 9
  refine v_astore_n (pc := 72) (L2 := [(2, ar q_1), (0, ai 3), (1, ar ta)]) rfl (by decide) dX5_ofKind_72 ?_
  refine v_goto (pc := 73) 121 dX5_ofKind_73 (by decide) ?_
  refine v_aload_n (pc := 121) 0 rfl dX5_ofKind_121 ?_
  refine v_iload_n (pc := 122) 1 rfl dX5_ofKind_122 ?_
  refine v_put (pc := 123) 1 0 rfl fl_5_36_7 ck_7 ft_7_1 (okV_i _) (Nat.le_of_ble_eq_true rfl) (ws2 := [(q_1, co 7 [ar ta, ai 3, ai 0, ai 0, ai 0, ai 0, ai 0, ai 0, ai 0])]) rfl dX5_ofKind_123 ?_
  refine v_aload_n (pc := 126) 0 rfl dX5_ofKind_126 ?_
  exact hret q_1 _ _ _ _ _ _ trivial (congrArg (fun z => some (aq z)) (by rfl)) rfl (Nat.le_of_ble_eq_true rfl) (Nat.le_of_ble_eq_true rfl) dX5_ofKind_127
set_option maxHeartbeats 4000000 in
set_option maxRecDepth 100000 in
theorem c_X5_ofKind_k1 {gS : sG} (ta : Nat) : Ct gS (S := Nat) yX5_ofKind cX5_ofKind 3 (some (.object "MatFlip$Player")) 4 75 1 9 [ai 4, ar ta] [] (fun q => q ∈ ([] : aW)) (fun u => True) (fun u => some (ar u)) (fun u => [(u, co 1 [ar ta, ai 4, ai 0, ai 0, ai 0, ai 0, ai 0, ai 0, ai 0])]) := by
  refine ct_A "MatFlip$Player" RX5 [(0, ai 4), (1, ar ta)] (by decide) rfl (Nat.le_of_ble_eq_true rfl) rfl (fun x hgS hro hret => ?_)
  subst hgS
  show V x cX5_ofKind RX5 3 (rmU 4 75 1 9) [] 0 [(0, ai 4), (1, ar ta)] [] 0 0
  refine v_iload_n (pc := 0) 0 rfl dX5_ofKind_0 ?_
  refine v_sw_in (pc := 1) 76 3 dX5_ofKind_1 (by unfold iB; omega) (by decide) (by decide) rfl rfl (by decide) ?_
  refine v_new (pc := 76) (c := 1) (fs := [an, ai 0, ai 0, ai 0, ai 0, ai 0, ai 0, ai 0, ai 0]) (r := (RX1, TX1, 9)) tyX1 rfl tyX1_ok inX1 wc_X5_26 wn_X1 wz_X1 nf_X1 ⟨Nat.le_of_ble_eq_true rfl, Nat.le_of_ble_eq_true rfl⟩ dX5_ofKind_76 (fun q_1 => ?_)
  show V x cX5_ofKind RX5 3 (rmU 4 75 1 9) [(q_1, co 1 [an, ai 0, ai 0, ai 0, ai 0, ai 0, ai 0, ai 0, ai 0])] 79 [(0, ai 4), (1, ar ta)] [ar q_1] 1 9
  refine v_dup (pc := 79) rfl dX5_ofKind_79 ?_
  refine v_aload_n (pc := 80) 1 rfl dX5_ofKind_80 ?_
  refine v_callI (pc := 81) [0] [] [] (As := [ar ta]) (rest := [ar q_1]) (c_X1_init_k1 q_1 ta ) wl_X5_28 wi_X1_init wk_X1_init wz_X1 rfl md_X1_init rfl (Nat.le_of_ble_eq_true rfl) ⟨Nat.le_of_ble_eq_true rfl, Nat.le_of_ble_eq_true rfl, Nat.le_of_ble_eq_true rfl, Nat.le_of_ble_eq_true rfl⟩ rfl rfl rfl rfl (by decide) ro_nil dX5_ofKind_81 (fun u hu => ?_)
  show V x cX5_ofKind RX5 3 (rmU 4 75 1 9) [(q_1, co 1 [ar ta, ai 0, ai 0, ai 0, ai 0, ai 0, ai 0, ai 0, ai 0])] 84 [(0, ai 4), (1, ar ta)] [ar q_1] 1 9
  refine v_astore_n (pc := 84) (L2 := [(2, ar q_1), (0, ai 4), (1, ar ta)]) rfl (by decide) dX5_ofKind_84 ?_
  refine v_goto (pc := 85) 121 dX5_ofKind_85 (by decide) ?_
  refine v_aload_n (pc := 121) 0 rfl dX5_ofKind_121 ?_
  refine v_iload_n (pc := 122) 1 rfl dX5_ofKind_122 ?_
  refine v_put (pc := 123) 1 0 rfl fl_5_36_1 ck_1 ft_1_1 (okV_i _) (Nat.le_of_ble_eq_true rfl) (ws2 := [(q_1, co 1 [ar ta, ai 4, ai 0, ai 0, ai 0, ai 0, ai 0, ai 0, ai 0])]) rfl dX5_ofKind_123 ?_
  refine v_aload_n (pc := 126) 0 rfl dX5_ofKind_126 ?_
  exact hret q_1 _ _ _ _ _ _ trivial (congrArg (fun z => some (aq z)) (by rfl)) rfl (Nat.le_of_ble_eq_true rfl) (Nat.le_of_ble_eq_true rfl) dX5_ofKind_127
set_option maxHeartbeats 4000000 in
set_option maxRecDepth 100000 in
theorem c_X5_ofKind_k2 {gS : sG} (ta : Nat) : Ct gS (S := Nat) yX5_ofKind cX5_ofKind 3 (some (.object "MatFlip$Player")) 4 75 1 9 [ai 5, ar ta] [] (fun q => q ∈ ([] : aW)) (fun u => True) (fun u => some (ar u)) (fun u => [(u, co 2 [ar ta, ai 5, ai 0, ai 0, ai 0, ai 0, ai 0, ai 0, ai 0])]) := by
  refine ct_A "MatFlip$Player" RX5 [(0, ai 5), (1, ar ta)] (by decide) rfl (Nat.le_of_ble_eq_true rfl) rfl (fun x hgS hro hret => ?_)
  subst hgS
  show V x cX5_ofKind RX5 3 (rmU 4 75 1 9) [] 0 [(0, ai 5), (1, ar ta)] [] 0 0
  refine v_iload_n (pc := 0) 0 rfl dX5_ofKind_0 ?_
  refine v_sw_in (pc := 1) 88 4 dX5_ofKind_1 (by unfold iB; omega) (by decide) (by decide) rfl rfl (by decide) ?_
  refine v_new (pc := 88) (c := 2) (fs := [an, ai 0, ai 0, ai 0, ai 0, ai 0, ai 0, ai 0, ai 0]) (r := (RX2, TX2, 9)) tyX2 rfl tyX2_ok inX2 wc_X5_29 wn_X2 wz_X2 nf_X2 ⟨Nat.le_of_ble_eq_true rfl, Nat.le_of_ble_eq_true rfl⟩ dX5_ofKind_88 (fun q_1 => ?_)
  show V x cX5_ofKind RX5 3 (rmU 4 75 1 9) [(q_1, co 2 [an, ai 0, ai 0, ai 0, ai 0, ai 0, ai 0, ai 0, ai 0])] 91 [(0, ai 5), (1, ar ta)] [ar q_1] 1 9
  refine v_dup (pc := 91) rfl dX5_ofKind_91 ?_
  refine v_aload_n (pc := 92) 1 rfl dX5_ofKind_92 ?_
  refine v_callI (pc := 93) [0] [] [] (As := [ar ta]) (rest := [ar q_1]) (c_X2_init_k2 q_1 ta ) wl_X5_31 wi_X2_init wk_X2_init wz_X2 rfl md_X2_init rfl (Nat.le_of_ble_eq_true rfl) ⟨Nat.le_of_ble_eq_true rfl, Nat.le_of_ble_eq_true rfl, Nat.le_of_ble_eq_true rfl, Nat.le_of_ble_eq_true rfl⟩ rfl rfl rfl rfl (by decide) ro_nil dX5_ofKind_93 (fun u hu => ?_)
  show V x cX5_ofKind RX5 3 (rmU 4 75 1 9) [(q_1, co 2 [ar ta, ai 0, ai 0, ai 0, ai 0, ai 0, ai 0, ai 0, ai 0])] 96 [(0, ai 5), (1, ar ta)] [ar q_1] 1 9
  refine v_astore_n (pc := 96) (L2 := [(2, ar q_1), (0, ai 5), (1, ar ta)]) rfl (by decide) dX5_ofKind_96 ?_
  refine v_goto (pc := 97) 121 dX5_ofKind_97 (by decide) ?_
  refine v_aload_n (pc := 121) 0 rfl dX5_ofKind_121 ?_
  refine v_iload_n (pc := 122) 1 rfl dX5_ofKind_122 ?_
  refine v_put (pc := 123) 1 0 rfl fl_5_36_2 ck_2 ft_2_1 (okV_i _) (Nat.le_of_ble_eq_true rfl) (ws2 := [(q_1, co 2 [ar ta, ai 5, ai 0, ai 0, ai 0, ai 0, ai 0, ai 0, ai 0])]) rfl dX5_ofKind_123 ?_
  refine v_aload_n (pc := 126) 0 rfl dX5_ofKind_126 ?_
  exact hret q_1 _ _ _ _ _ _ trivial (congrArg (fun z => some (aq z)) (by rfl)) rfl (Nat.le_of_ble_eq_true rfl) (Nat.le_of_ble_eq_true rfl) dX5_ofKind_127
set_option maxHeartbeats 4000000 in
set_option maxRecDepth 100000 in
theorem c_X5_ofKind_k9 {gS : sG} (ta : Nat) : Ct gS (S := Nat × Nat × (Int → Int)) yX5_ofKind cX5_ofKind 3 (some (.object "MatFlip$Player")) 4 75 2 14 [ai 6, ar ta] [] (fun q => q ∈ ([] : aW)) (fun u => ∀ k : Int, 0 ≤ k → k < 4 → u.2.2 k = 4) (fun u => some (ar u.1)) (fun u => [(u.1, co 9 [ar ta, ai 6, ai 0, ai 0, ai 0, ai 0, ai 0, ai 0, ai 0, ar u.2.1]), (u.2.1, cn 0 4 u.2.2)]) := by
  refine ct_A "MatFlip$Player" RX5 [(0, ai 6), (1, ar ta)] (by decide) rfl (Nat.le_of_ble_eq_true rfl) rfl (fun x hgS hro hret => ?_)
  subst hgS
  show V x cX5_ofKind RX5 3 (rmU 4 75 2 14) [] 0 [(0, ai 6), (1, ar ta)] [] 0 0
  refine v_iload_n (pc := 0) 0 rfl dX5_ofKind_0 ?_
  refine v_sw_in (pc := 1) 100 5 dX5_ofKind_1 (by unfold iB; omega) (by decide) (by decide) rfl rfl (by decide) ?_
  refine v_new (pc := 100) (c := 9) (fs := [an, ai 0, ai 0, ai 0, ai 0, ai 0, ai 0, ai 0, ai 0, an]) (r := (RX9, TX9, 10)) tyX9 rfl tyX9_ok inX9 wc_X5_32 wn_X9 wz_X9 nf_X9 ⟨Nat.le_of_ble_eq_true rfl, Nat.le_of_ble_eq_true rfl⟩ dX5_ofKind_100 (fun q_1 => ?_)
  show V x cX5_ofKind RX5 3 (rmU 4 75 2 14) [(q_1, co 9 [an, ai 0, ai 0, ai 0, ai 0, ai 0, ai 0, ai 0, ai 0, an])] 103 [(0, ai 6), (1, ar ta)] [ar q_1] 1 10
  refine v_dup (pc := 103) rfl dX5_ofKind_103 ?_
  refine v_aload_n (pc := 104) 1 rfl dX5_ofKind_104 ?_
  refine v_callI (pc := 105) [0] [] [] (As := [ar ta]) (rest := [ar q_1]) (c_X9_init_k9 q_1 ta ) wl_X5_34 wi_X9_init wk_X9_init wz_X9 rfl md_X9_init rfl (Nat.le_of_ble_eq_true rfl) ⟨Nat.le_of_ble_eq_true rfl, Nat.le_of_ble_eq_true rfl, Nat.le_of_ble_eq_true rfl, Nat.le_of_ble_eq_true rfl⟩ rfl rfl rfl rfl (by decide) ro_nil dX5_ofKind_105 (fun u hu => ?_)
  obtain ⟨tu_2, tn_3⟩ := u
  have g_4 : ∀ k : Int, 0 ≤ k → k < 4 → tn_3 k = 4 := hu
  show V x cX5_ofKind RX5 3 (rmU 4 75 2 14) [(q_1, co 9 [ar ta, ai 0, ai 0, ai 0, ai 0, ai 0, ai 0, ai 0, ai 0, ar tu_2]), (tu_2, cn 0 4 tn_3)] 108 [(0, ai 6), (1, ar ta)] [ar q_1] 2 14
  refine v_astore_n (pc := 108) (L2 := [(2, ar q_1), (0, ai 6), (1, ar ta)]) rfl (by decide) dX5_ofKind_108 ?_
  refine v_goto (pc := 109) 121 dX5_ofKind_109 (by decide) ?_
  refine v_aload_n (pc := 121) 0 rfl dX5_ofKind_121 ?_
  refine v_iload_n (pc := 122) 1 rfl dX5_ofKind_122 ?_
  refine v_put (pc := 123) 1 0 rfl fl_5_36_9 ck_9 ft_9_1 (okV_i _) (Nat.le_of_ble_eq_true rfl) (ws2 := [(q_1, co 9 [ar ta, ai 6, ai 0, ai 0, ai 0, ai 0, ai 0, ai 0, ai 0, ar tu_2]), (tu_2, cn 0 4 tn_3)]) rfl dX5_ofKind_123 ?_
  refine v_aload_n (pc := 126) 0 rfl dX5_ofKind_126 ?_
  exact hret (q_1, tu_2, tn_3) _ _ _ _ _ _ (by exact g_4) (congrArg (fun z => some (aq z)) (by rfl)) rfl (Nat.le_of_ble_eq_true rfl) (Nat.le_of_ble_eq_true rfl) dX5_ofKind_127
