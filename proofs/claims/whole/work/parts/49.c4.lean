theorem wsm_0 : Cond.sameMethod RX5 RX5 "unsureBy" "(II)I" ∈ BW := bw_mem 582 (by decide +kernel) rfl
theorem wsm_1 : Cond.sameMethod RX0 RX5 "unsureBy" "(II)I" ∈ BW := bw_mem 595 (by decide +kernel) rfl
theorem wsm_2 : Cond.sameMethod RX5 RX5 "lean" "(I)I" ∈ BW := bw_mem 640 (by decide +kernel) rfl
theorem wsm_3 : Cond.sameMethod RX5 RX5 "hasTried" "(III)V" ∈ BW := bw_mem 696 (by decide +kernel) rfl
theorem wsm_4 : Cond.sameMethod RX5 RX5 "strikes" "(I)I" ∈ BW := bw_mem 895 (by decide +kernel) rfl
theorem wsm_5 : Cond.sameMethod RX8 RX5 "begins" "(I)V" ∈ BW := bw_mem 901 (by decide +kernel) rfl
theorem wsm_6 : Cond.sameMethod RX2 RX5 "begins" "(I)V" ∈ BW := bw_mem 912 (by decide +kernel) rfl
theorem wsm_7 : Cond.sameMethod RX0 RX5 "strikes" "(I)I" ∈ BW := bw_mem 915 (by decide +kernel) rfl
theorem wsm_8 : Cond.sameMethod RX5 RX5 "catches" "(I)I" ∈ BW := bw_mem 925 (by decide +kernel) rfl
theorem wsm_9 : Cond.sameMethod RX0 RX5 "begins" "(I)V" ∈ BW := bw_mem 930 (by decide +kernel) rfl
theorem wsm_10 : Cond.sameMethod RX9 RX5 "begins" "(I)V" ∈ BW := bw_mem 942 (by decide +kernel) rfl
theorem wsm_11 : Cond.sameMethod RX7 RX5 "catches" "(I)I" ∈ BW := bw_mem 945 (by decide +kernel) rfl
theorem wsm_12 : Cond.sameMethod RX5 RX5 "tells" "(I)I" ∈ BW := bw_mem 952 (by decide +kernel) rfl
theorem wsm_13 : Cond.sameMethod RX1 RX5 "begins" "(I)V" ∈ BW := bw_mem 958 (by decide +kernel) rfl
theorem wsm_14 : Cond.sameMethod RX8 RX5 "tells" "(I)I" ∈ BW := bw_mem 961 (by decide +kernel) rfl
theorem wsm_15 : Cond.sameMethod RX1 RX8 "strikes" "(I)I" ∈ BW := bw_mem 964 (by decide +kernel) rfl
theorem wsm_16 : Cond.sameMethod RX7 RX5 "begins" "(I)V" ∈ BW := bw_mem 972 (by decide +kernel) rfl
theorem wsm_17 : Cond.sameMethod RX5 RX5 "twin" "()LMatFlip$Player;" ∈ BW := bw_mem 1007 (by decide +kernel) rfl
theorem wsm_18 : Cond.sameMethod RX5 RX5 "copyFrom" "(LMatFlip$Player;)V" ∈ BW := bw_mem 1019 (by decide +kernel) rfl
theorem wsm_19 : Cond.sameMethod RX7 RX5 "copyFrom" "(LMatFlip$Player;)V" ∈ BW := bw_mem 1029 (by decide +kernel) rfl
theorem wsm_20 : Cond.sameMethod RX8 RX8 "unsureBy" "(II)I" ∈ BW := bw_mem 1476 (by decide +kernel) rfl
theorem wsm_21 : Cond.sameMethod RX7 RX7 "lean" "(I)I" ∈ BW := bw_mem 1477 (by decide +kernel) rfl
theorem wsm_22 : Cond.sameMethod RX5 RX5 "begins" "(I)V" ∈ BW := bw_mem 1478 (by decide +kernel) rfl
theorem wsc_3 : Cond.superclass RX3 "java/lang/Object" ∈ BW := bw_mem 136 (by decide +kernel) rfl
theorem wsc_10 : Cond.superclass RX10 "java/lang/Object" ∈ BW := bw_mem 202 (by decide +kernel) rfl
theorem wsc_4 : Cond.superclass RX4 "java/lang/Object" ∈ BW := bw_mem 231 (by decide +kernel) rfl
theorem wsc_11 : Cond.superclass RX11 "java/lang/Object" ∈ BW := bw_mem 256 (by decide +kernel) rfl
theorem wsc_6 : Cond.superclass RX6 "java/lang/Object" ∈ BW := bw_mem 295 (by decide +kernel) rfl
theorem wsc_8 : Cond.superclass RX8 RX5 ∈ BW := bw_mem 473 (by decide +kernel) rfl
theorem wsc_0 : Cond.superclass RX0 RX5 ∈ BW := bw_mem 489 (by decide +kernel) rfl
theorem wsc_7 : Cond.superclass RX7 RX5 ∈ BW := bw_mem 505 (by decide +kernel) rfl
theorem wsc_1 : Cond.superclass RX1 RX8 ∈ BW := bw_mem 521 (by decide +kernel) rfl
theorem wsc_2 : Cond.superclass RX2 RX0 ∈ BW := bw_mem 537 (by decide +kernel) rfl
theorem wsc_9 : Cond.superclass RX9 RX7 ∈ BW := bw_mem 557 (by decide +kernel) rfl
theorem wsc_5 : Cond.superclass RX5 "java/lang/Object" ∈ BW := bw_mem 570 (by decide +kernel) rfl
theorem wsc_12 : Cond.superclass RX12 "java/lang/Object" ∈ BW := bw_mem 1125 (by decide +kernel) rfl
theorem mdo_X0_lean : RX0 ≠ "java/lang/invoke/MethodHandle" ∧ RX0 ≠ "java/lang/invoke/VarHandle" ∧ (parseMethodDescriptor "(I)I").map (fun d => d.parameters.length) = some 1 := by decide +kernel
theorem mds_X0_lean : "lean" ≠ "<init>" ∧ (parseMethodDescriptor yX0_lean.desc).map (fun d => d.parameters.length) = some 1 := by decide +kernel
theorem mdo_X0_catches : RX0 ≠ "java/lang/invoke/MethodHandle" ∧ RX0 ≠ "java/lang/invoke/VarHandle" ∧ (parseMethodDescriptor "(I)I").map (fun d => d.parameters.length) = some 1 := by decide +kernel
theorem mds_X0_catches : "catches" ≠ "<init>" ∧ (parseMethodDescriptor yX0_catches.desc).map (fun d => d.parameters.length) = some 1 := by decide +kernel
theorem mdo_X1_unsureBy : RX1 ≠ "java/lang/invoke/MethodHandle" ∧ RX1 ≠ "java/lang/invoke/VarHandle" ∧ (parseMethodDescriptor "(II)I").map (fun d => d.parameters.length) = some 2 := by decide +kernel
theorem mds_X1_unsureBy : "unsureBy" ≠ "<init>" ∧ (parseMethodDescriptor yX1_unsureBy.desc).map (fun d => d.parameters.length) = some 2 := by decide +kernel
theorem mdo_X1_tells : RX1 ≠ "java/lang/invoke/MethodHandle" ∧ RX1 ≠ "java/lang/invoke/VarHandle" ∧ (parseMethodDescriptor "(I)I").map (fun d => d.parameters.length) = some 1 := by decide +kernel
theorem mds_X1_tells : "tells" ≠ "<init>" ∧ (parseMethodDescriptor yX1_tells.desc).map (fun d => d.parameters.length) = some 1 := by decide +kernel
theorem mdo_X2_unsureBy : RX2 ≠ "java/lang/invoke/MethodHandle" ∧ RX2 ≠ "java/lang/invoke/VarHandle" ∧ (parseMethodDescriptor "(II)I").map (fun d => d.parameters.length) = some 2 := by decide +kernel
theorem mds_X2_unsureBy : "unsureBy" ≠ "<init>" ∧ (parseMethodDescriptor yX2_unsureBy.desc).map (fun d => d.parameters.length) = some 2 := by decide +kernel
theorem mdo_X2_strikes : RX2 ≠ "java/lang/invoke/MethodHandle" ∧ RX2 ≠ "java/lang/invoke/VarHandle" ∧ (parseMethodDescriptor "(I)I").map (fun d => d.parameters.length) = some 1 := by decide +kernel
theorem mds_X2_strikes : "strikes" ≠ "<init>" ∧ (parseMethodDescriptor yX2_strikes.desc).map (fun d => d.parameters.length) = some 1 := by decide +kernel
theorem mdo_X5_ofKind : RX5 ≠ "java/lang/invoke/MethodHandle" ∧ RX5 ≠ "java/lang/invoke/VarHandle" ∧ (parseMethodDescriptor "(I[I)LMatFlip$Player;").map (fun d => d.parameters.length) = some 2 := by decide +kernel
theorem mds_X5_ofKind : "ofKind" ≠ "<init>" ∧ (parseMethodDescriptor yX5_ofKind.desc).map (fun d => d.parameters.length) = some 2 := by decide +kernel
theorem mdo_X5_twin : RX5 ≠ "java/lang/invoke/MethodHandle" ∧ RX5 ≠ "java/lang/invoke/VarHandle" ∧ (parseMethodDescriptor "()LMatFlip$Player;").map (fun d => d.parameters.length) = some 0 := by decide +kernel
theorem mds_X5_twin : "twin" ≠ "<init>" ∧ (parseMethodDescriptor yX5_twin.desc).map (fun d => d.parameters.length) = some 0 := by decide +kernel
theorem mdo_X5_copyFrom : RX5 ≠ "java/lang/invoke/MethodHandle" ∧ RX5 ≠ "java/lang/invoke/VarHandle" ∧ (parseMethodDescriptor "(LMatFlip$Player;)V").map (fun d => d.parameters.length) = some 1 := by decide +kernel
theorem mds_X5_copyFrom : "copyFrom" ≠ "<init>" ∧ (parseMethodDescriptor yX5_copyFrom.desc).map (fun d => d.parameters.length) = some 1 := by decide +kernel
theorem mdo_X5_lean : RX5 ≠ "java/lang/invoke/MethodHandle" ∧ RX5 ≠ "java/lang/invoke/VarHandle" ∧ (parseMethodDescriptor "(I)I").map (fun d => d.parameters.length) = some 1 := by decide +kernel
theorem mds_X5_lean : "lean" ≠ "<init>" ∧ (parseMethodDescriptor yX5_lean.desc).map (fun d => d.parameters.length) = some 1 := by decide +kernel
theorem mdo_X5_unsureBy : RX5 ≠ "java/lang/invoke/MethodHandle" ∧ RX5 ≠ "java/lang/invoke/VarHandle" ∧ (parseMethodDescriptor "(II)I").map (fun d => d.parameters.length) = some 2 := by decide +kernel
theorem mds_X5_unsureBy : "unsureBy" ≠ "<init>" ∧ (parseMethodDescriptor yX5_unsureBy.desc).map (fun d => d.parameters.length) = some 2 := by decide +kernel
theorem mdo_X5_hasTried : RX5 ≠ "java/lang/invoke/MethodHandle" ∧ RX5 ≠ "java/lang/invoke/VarHandle" ∧ (parseMethodDescriptor "(III)V").map (fun d => d.parameters.length) = some 3 := by decide +kernel
theorem mds_X5_hasTried : "hasTried" ≠ "<init>" ∧ (parseMethodDescriptor yX5_hasTried.desc).map (fun d => d.parameters.length) = some 3 := by decide +kernel
theorem mdo_X5_strikes : RX5 ≠ "java/lang/invoke/MethodHandle" ∧ RX5 ≠ "java/lang/invoke/VarHandle" ∧ (parseMethodDescriptor "(I)I").map (fun d => d.parameters.length) = some 1 := by decide +kernel
theorem mds_X5_strikes : "strikes" ≠ "<init>" ∧ (parseMethodDescriptor yX5_strikes.desc).map (fun d => d.parameters.length) = some 1 := by decide +kernel
theorem mdo_X5_catches : RX5 ≠ "java/lang/invoke/MethodHandle" ∧ RX5 ≠ "java/lang/invoke/VarHandle" ∧ (parseMethodDescriptor "(I)I").map (fun d => d.parameters.length) = some 1 := by decide +kernel
theorem mds_X5_catches : "catches" ≠ "<init>" ∧ (parseMethodDescriptor yX5_catches.desc).map (fun d => d.parameters.length) = some 1 := by decide +kernel
theorem mdo_X5_tells : RX5 ≠ "java/lang/invoke/MethodHandle" ∧ RX5 ≠ "java/lang/invoke/VarHandle" ∧ (parseMethodDescriptor "(I)I").map (fun d => d.parameters.length) = some 1 := by decide +kernel
theorem mds_X5_tells : "tells" ≠ "<init>" ∧ (parseMethodDescriptor yX5_tells.desc).map (fun d => d.parameters.length) = some 1 := by decide +kernel
theorem mdo_X5_begins : RX5 ≠ "java/lang/invoke/MethodHandle" ∧ RX5 ≠ "java/lang/invoke/VarHandle" ∧ (parseMethodDescriptor "(I)V").map (fun d => d.parameters.length) = some 1 := by decide +kernel
theorem mds_X5_begins : "begins" ≠ "<init>" ∧ (parseMethodDescriptor yX5_begins.desc).map (fun d => d.parameters.length) = some 1 := by decide +kernel
theorem mdo_X7_lean : RX7 ≠ "java/lang/invoke/MethodHandle" ∧ RX7 ≠ "java/lang/invoke/VarHandle" ∧ (parseMethodDescriptor "(I)I").map (fun d => d.parameters.length) = some 1 := by decide +kernel
theorem mds_X7_lean : "lean" ≠ "<init>" ∧ (parseMethodDescriptor yX7_lean.desc).map (fun d => d.parameters.length) = some 1 := by decide +kernel
theorem mdo_X7_tells : RX7 ≠ "java/lang/invoke/MethodHandle" ∧ RX7 ≠ "java/lang/invoke/VarHandle" ∧ (parseMethodDescriptor "(I)I").map (fun d => d.parameters.length) = some 1 := by decide +kernel
theorem mds_X7_tells : "tells" ≠ "<init>" ∧ (parseMethodDescriptor yX7_tells.desc).map (fun d => d.parameters.length) = some 1 := by decide +kernel
theorem mdo_X8_unsureBy : RX8 ≠ "java/lang/invoke/MethodHandle" ∧ RX8 ≠ "java/lang/invoke/VarHandle" ∧ (parseMethodDescriptor "(II)I").map (fun d => d.parameters.length) = some 2 := by decide +kernel
theorem mds_X8_unsureBy : "unsureBy" ≠ "<init>" ∧ (parseMethodDescriptor yX8_unsureBy.desc).map (fun d => d.parameters.length) = some 2 := by decide +kernel
theorem mdo_X8_strikes : RX8 ≠ "java/lang/invoke/MethodHandle" ∧ RX8 ≠ "java/lang/invoke/VarHandle" ∧ (parseMethodDescriptor "(I)I").map (fun d => d.parameters.length) = some 1 := by decide +kernel
theorem mds_X8_strikes : "strikes" ≠ "<init>" ∧ (parseMethodDescriptor yX8_strikes.desc).map (fun d => d.parameters.length) = some 1 := by decide +kernel
theorem mdo_X9_copyFrom : RX9 ≠ "java/lang/invoke/MethodHandle" ∧ RX9 ≠ "java/lang/invoke/VarHandle" ∧ (parseMethodDescriptor "(LMatFlip$Player;)V").map (fun d => d.parameters.length) = some 1 := by decide +kernel
theorem mds_X9_copyFrom : "copyFrom" ≠ "<init>" ∧ (parseMethodDescriptor yX9_copyFrom.desc).map (fun d => d.parameters.length) = some 1 := by decide +kernel
theorem mdo_X9_lean : RX9 ≠ "java/lang/invoke/MethodHandle" ∧ RX9 ≠ "java/lang/invoke/VarHandle" ∧ (parseMethodDescriptor "(I)I").map (fun d => d.parameters.length) = some 1 := by decide +kernel
theorem mds_X9_lean : "lean" ≠ "<init>" ∧ (parseMethodDescriptor yX9_lean.desc).map (fun d => d.parameters.length) = some 1 := by decide +kernel
theorem mdo_X9_catches : RX9 ≠ "java/lang/invoke/MethodHandle" ∧ RX9 ≠ "java/lang/invoke/VarHandle" ∧ (parseMethodDescriptor "(I)I").map (fun d => d.parameters.length) = some 1 := by decide +kernel
theorem mds_X9_catches : "catches" ≠ "<init>" ∧ (parseMethodDescriptor yX9_catches.desc).map (fun d => d.parameters.length) = some 1 := by decide +kernel
set_option maxHeartbeats 4000000 in
set_option maxRecDepth 100000 in
theorem c_X5_begins_k5 {gS : sG} (h : Nat) (ta : Nat) (kd : Int) (num : Int) (pv : Int) (sk : Int) (hn : Int) (gl : Int) (sc : Int) (pu : Int) (bb : Int) (tr : Int → Int) (htr : trB tr 1000) : Ct gS (S := Unit) yX5_begins cX5_begins 3 none 0 0 0 0 [ar h, ai bb] [(ta, cn 0 21 tr)] (fun q => q ∈ ([(h, co 5 [ar ta, ai kd, ai num, ai pv, ai sk, ai hn, ai gl, ai sc, ai pu])] : aW)) (fun _ => True) (fun _ => none) (fun _ => [(ta, cn 0 21 (bg tr bb))]) := by
  refine ct_V RX5 [(0, ar h), (1, ai bb)] (by decide) rfl (Nat.le_of_ble_eq_true rfl) rfl (fun x hgS hnm hro hret => ?_)
  subst hgS
  have r0 := hro _ (mem_at 0 rfl)
  have ht0 : 0 ≤ tr 0 ∧ tr 0 ≤ 1000 := htr
  show V x cX5_begins RX5 3 (rmU 0 0 0 0) [(ta, cn 0 21 tr)] 0 [(0, ar h), (1, ai bb)] [] 0 0
  refine v_aload_n (pc := 0) 0 rfl dX5_begins_0 ?_
  refine v_get (pc := 1) (v := ar ta) 0 (Or.inl r0) fl_5_9_5 rfl dX5_begins_1 ?_
  refine v_iconst (pc := 4) dX5_begins_4 ?_
  refine v_iald (pc := 5) (Or.inr ⟨0, rfl⟩) (by omega) (by omega) (by decide) dX5_begins_5 ?_
  refine v_iconst (pc := 6) dX5_begins_6 ?_
  refine v_iadd (pc := 7) dX5_begins_7 ?_
  refine v_istore_n (pc := 8) (L2 := [(2, ai ((tr 0) + 1)), (0, ar h), (1, ai bb)]) rfl (by decide) dX5_begins_8 ?_
  refine v_aload_n (pc := 9) 1 rfl dX5_begins_9 ?_
  refine v_get (pc := 10) (v := ar ta) 0 (Or.inl r0) fl_5_9_5 rfl dX5_begins_10 ?_
  refine v_iconst (pc := 13) dX5_begins_13 ?_
  refine v_iload_n (pc := 14) 0 rfl dX5_begins_14 ?_
  refine v_iast (pc := 15) 0 rfl (by omega) (by omega) (by decide) (ws2 := [(ta, cn 0 21 (aup tr 0 ((tr 0) + 1)))]) rfl dX5_begins_15 ?_
  refine v_iload_n (pc := 16) 0 rfl dX5_begins_16 ?_
  refine v_if_le (pc := 17) 36 dX5_begins_17 (by decide) (by unfold iB; omega) (fun c_1 => ?_) (fun c_1 => ?_)
  · skip
    exfalso; omega
  · skip
    refine v_iload_n (pc := 20) 0 rfl dX5_begins_20 ?_
    refine v_aload_n (pc := 21) 1 rfl dX5_begins_21 ?_
    refine v_get (pc := 22) (v := ar ta) 0 (Or.inl r0) fl_5_9_5 rfl dX5_begins_22 ?_
    refine v_alen (pc := 25) (by decide) (Or.inr ⟨0, rfl⟩) dX5_begins_25 ?_
    refine v_icmp_ge (pc := 26) 36 dX5_begins_26 (by decide) (by unfold iB; omega) (by unfold iB; omega) (fun c_2 => ?_) (fun c_2 => ?_)
    · skip
      refine v_ws (ws2 := [(ta, cn 0 21 (bg tr bb))]) (by unfold bg; rw [if_neg (by omega)]) ?_
      exact hret () _ _ _ _ _ trivial rfl rfl (Nat.le_of_ble_eq_true rfl) (Nat.le_of_ble_eq_true rfl) dX5_begins_36
    · skip
      refine v_aload_n (pc := 29) 1 rfl dX5_begins_29 ?_
      refine v_get (pc := 30) (v := ar ta) 0 (Or.inl r0) fl_5_9_5 rfl dX5_begins_30 ?_
      refine v_iload_n (pc := 33) 0 rfl dX5_begins_33 ?_
      refine v_iload_n (pc := 34) 2 rfl dX5_begins_34 ?_
      refine v_iast (pc := 35) 0 rfl (by omega) (by omega) (by decide) (ws2 := [(ta, cn 0 21 (aup (aup tr 0 ((tr 0) + 1)) ((tr 0) + 1) bb))]) rfl dX5_begins_35 ?_
      refine v_ws (ws2 := [(ta, cn 0 21 (bg tr bb))]) (by unfold bg; rw [if_pos (by omega)]) ?_
      exact hret () _ _ _ _ _ trivial rfl rfl (Nat.le_of_ble_eq_true rfl) (Nat.le_of_ble_eq_true rfl) dX5_begins_36
set_option maxHeartbeats 4000000 in
set_option maxRecDepth 100000 in
theorem c_X5_begins_k8 {gS : sG} (h : Nat) (ta : Nat) (kd : Int) (num : Int) (pv : Int) (sk : Int) (hn : Int) (gl : Int) (sc : Int) (pu : Int) (bb : Int) (tr : Int → Int) (htr : trB tr 1000) : Ct gS (S := Unit) yX5_begins cX5_begins 3 none 0 0 0 0 [ar h, ai bb] [(ta, cn 0 21 tr)] (fun q => q ∈ ([(h, co 8 [ar ta, ai kd, ai num, ai pv, ai sk, ai hn, ai gl, ai sc, ai pu])] : aW)) (fun _ => True) (fun _ => none) (fun _ => [(ta, cn 0 21 (bg tr bb))]) := by
  refine ct_V RX5 [(0, ar h), (1, ai bb)] (by decide) rfl (Nat.le_of_ble_eq_true rfl) rfl (fun x hgS hnm hro hret => ?_)
  subst hgS
  have r0 := hro _ (mem_at 0 rfl)
  have ht0 : 0 ≤ tr 0 ∧ tr 0 ≤ 1000 := htr
  show V x cX5_begins RX5 3 (rmU 0 0 0 0) [(ta, cn 0 21 tr)] 0 [(0, ar h), (1, ai bb)] [] 0 0
  refine v_aload_n (pc := 0) 0 rfl dX5_begins_0 ?_
  refine v_get (pc := 1) (v := ar ta) 0 (Or.inl r0) fl_5_9_8 rfl dX5_begins_1 ?_
  refine v_iconst (pc := 4) dX5_begins_4 ?_
  refine v_iald (pc := 5) (Or.inr ⟨0, rfl⟩) (by omega) (by omega) (by decide) dX5_begins_5 ?_
  refine v_iconst (pc := 6) dX5_begins_6 ?_
  refine v_iadd (pc := 7) dX5_begins_7 ?_
  refine v_istore_n (pc := 8) (L2 := [(2, ai ((tr 0) + 1)), (0, ar h), (1, ai bb)]) rfl (by decide) dX5_begins_8 ?_
  refine v_aload_n (pc := 9) 1 rfl dX5_begins_9 ?_
  refine v_get (pc := 10) (v := ar ta) 0 (Or.inl r0) fl_5_9_8 rfl dX5_begins_10 ?_
  refine v_iconst (pc := 13) dX5_begins_13 ?_
  refine v_iload_n (pc := 14) 0 rfl dX5_begins_14 ?_
  refine v_iast (pc := 15) 0 rfl (by omega) (by omega) (by decide) (ws2 := [(ta, cn 0 21 (aup tr 0 ((tr 0) + 1)))]) rfl dX5_begins_15 ?_
  refine v_iload_n (pc := 16) 0 rfl dX5_begins_16 ?_
  refine v_if_le (pc := 17) 36 dX5_begins_17 (by decide) (by unfold iB; omega) (fun c_1 => ?_) (fun c_1 => ?_)
  · skip
    exfalso; omega
  · skip
    refine v_iload_n (pc := 20) 0 rfl dX5_begins_20 ?_
    refine v_aload_n (pc := 21) 1 rfl dX5_begins_21 ?_
    refine v_get (pc := 22) (v := ar ta) 0 (Or.inl r0) fl_5_9_8 rfl dX5_begins_22 ?_
    refine v_alen (pc := 25) (by decide) (Or.inr ⟨0, rfl⟩) dX5_begins_25 ?_
    refine v_icmp_ge (pc := 26) 36 dX5_begins_26 (by decide) (by unfold iB; omega) (by unfold iB; omega) (fun c_2 => ?_) (fun c_2 => ?_)
    · skip
      refine v_ws (ws2 := [(ta, cn 0 21 (bg tr bb))]) (by unfold bg; rw [if_neg (by omega)]) ?_
      exact hret () _ _ _ _ _ trivial rfl rfl (Nat.le_of_ble_eq_true rfl) (Nat.le_of_ble_eq_true rfl) dX5_begins_36
    · skip
      refine v_aload_n (pc := 29) 1 rfl dX5_begins_29 ?_
      refine v_get (pc := 30) (v := ar ta) 0 (Or.inl r0) fl_5_9_8 rfl dX5_begins_30 ?_
      refine v_iload_n (pc := 33) 0 rfl dX5_begins_33 ?_
      refine v_iload_n (pc := 34) 2 rfl dX5_begins_34 ?_
      refine v_iast (pc := 35) 0 rfl (by omega) (by omega) (by decide) (ws2 := [(ta, cn 0 21 (aup (aup tr 0 ((tr 0) + 1)) ((tr 0) + 1) bb))]) rfl dX5_begins_35 ?_
      refine v_ws (ws2 := [(ta, cn 0 21 (bg tr bb))]) (by unfold bg; rw [if_pos (by omega)]) ?_
      exact hret () _ _ _ _ _ trivial rfl rfl (Nat.le_of_ble_eq_true rfl) (Nat.le_of_ble_eq_true rfl) dX5_begins_36
set_option maxHeartbeats 4000000 in
set_option maxRecDepth 100000 in
theorem c_X5_begins_k0 {gS : sG} (h : Nat) (ta : Nat) (kd : Int) (num : Int) (pv : Int) (sk : Int) (hn : Int) (gl : Int) (sc : Int) (pu : Int) (bb : Int) (tr : Int → Int) (htr : trB tr 1000) : Ct gS (S := Unit) yX5_begins cX5_begins 3 none 0 0 0 0 [ar h, ai bb] [(ta, cn 0 21 tr)] (fun q => q ∈ ([(h, co 0 [ar ta, ai kd, ai num, ai pv, ai sk, ai hn, ai gl, ai sc, ai pu])] : aW)) (fun _ => True) (fun _ => none) (fun _ => [(ta, cn 0 21 (bg tr bb))]) := by
  refine ct_V RX5 [(0, ar h), (1, ai bb)] (by decide) rfl (Nat.le_of_ble_eq_true rfl) rfl (fun x hgS hnm hro hret => ?_)
  subst hgS
  have r0 := hro _ (mem_at 0 rfl)
  have ht0 : 0 ≤ tr 0 ∧ tr 0 ≤ 1000 := htr
  show V x cX5_begins RX5 3 (rmU 0 0 0 0) [(ta, cn 0 21 tr)] 0 [(0, ar h), (1, ai bb)] [] 0 0
  refine v_aload_n (pc := 0) 0 rfl dX5_begins_0 ?_
  refine v_get (pc := 1) (v := ar ta) 0 (Or.inl r0) fl_5_9_0 rfl dX5_begins_1 ?_
  refine v_iconst (pc := 4) dX5_begins_4 ?_
  refine v_iald (pc := 5) (Or.inr ⟨0, rfl⟩) (by omega) (by omega) (by decide) dX5_begins_5 ?_
  refine v_iconst (pc := 6) dX5_begins_6 ?_
  refine v_iadd (pc := 7) dX5_begins_7 ?_
  refine v_istore_n (pc := 8) (L2 := [(2, ai ((tr 0) + 1)), (0, ar h), (1, ai bb)]) rfl (by decide) dX5_begins_8 ?_
  refine v_aload_n (pc := 9) 1 rfl dX5_begins_9 ?_
  refine v_get (pc := 10) (v := ar ta) 0 (Or.inl r0) fl_5_9_0 rfl dX5_begins_10 ?_
  refine v_iconst (pc := 13) dX5_begins_13 ?_
  refine v_iload_n (pc := 14) 0 rfl dX5_begins_14 ?_
  refine v_iast (pc := 15) 0 rfl (by omega) (by omega) (by decide) (ws2 := [(ta, cn 0 21 (aup tr 0 ((tr 0) + 1)))]) rfl dX5_begins_15 ?_
  refine v_iload_n (pc := 16) 0 rfl dX5_begins_16 ?_
  refine v_if_le (pc := 17) 36 dX5_begins_17 (by decide) (by unfold iB; omega) (fun c_1 => ?_) (fun c_1 => ?_)
  · skip
    exfalso; omega
  · skip
    refine v_iload_n (pc := 20) 0 rfl dX5_begins_20 ?_
    refine v_aload_n (pc := 21) 1 rfl dX5_begins_21 ?_
    refine v_get (pc := 22) (v := ar ta) 0 (Or.inl r0) fl_5_9_0 rfl dX5_begins_22 ?_
    refine v_alen (pc := 25) (by decide) (Or.inr ⟨0, rfl⟩) dX5_begins_25 ?_
    refine v_icmp_ge (pc := 26) 36 dX5_begins_26 (by decide) (by unfold iB; omega) (by unfold iB; omega) (fun c_2 => ?_) (fun c_2 => ?_)
    · skip
      refine v_ws (ws2 := [(ta, cn 0 21 (bg tr bb))]) (by unfold bg; rw [if_neg (by omega)]) ?_
      exact hret () _ _ _ _ _ trivial rfl rfl (Nat.le_of_ble_eq_true rfl) (Nat.le_of_ble_eq_true rfl) dX5_begins_36
    · skip
      refine v_aload_n (pc := 29) 1 rfl dX5_begins_29 ?_
      refine v_get (pc := 30) (v := ar ta) 0 (Or.inl r0) fl_5_9_0 rfl dX5_begins_30 ?_
      refine v_iload_n (pc := 33) 0 rfl dX5_begins_33 ?_
      refine v_iload_n (pc := 34) 2 rfl dX5_begins_34 ?_
      refine v_iast (pc := 35) 0 rfl (by omega) (by omega) (by decide) (ws2 := [(ta, cn 0 21 (aup (aup tr 0 ((tr 0) + 1)) ((tr 0) + 1) bb))]) rfl dX5_begins_35 ?_
      refine v_ws (ws2 := [(ta, cn 0 21 (bg tr bb))]) (by unfold bg; rw [if_pos (by omega)]) ?_
      exact hret () _ _ _ _ _ trivial rfl rfl (Nat.le_of_ble_eq_true rfl) (Nat.le_of_ble_eq_true rfl) dX5_begins_36
set_option maxHeartbeats 4000000 in
set_option maxRecDepth 100000 in
theorem c_X5_begins_k7 {gS : sG} (h : Nat) (ta : Nat) (kd : Int) (num : Int) (pv : Int) (sk : Int) (hn : Int) (gl : Int) (sc : Int) (pu : Int) (bb : Int) (tr : Int → Int) (htr : trB tr 1000) : Ct gS (S := Unit) yX5_begins cX5_begins 3 none 0 0 0 0 [ar h, ai bb] [(ta, cn 0 21 tr)] (fun q => q ∈ ([(h, co 7 [ar ta, ai kd, ai num, ai pv, ai sk, ai hn, ai gl, ai sc, ai pu])] : aW)) (fun _ => True) (fun _ => none) (fun _ => [(ta, cn 0 21 (bg tr bb))]) := by
  refine ct_V RX5 [(0, ar h), (1, ai bb)] (by decide) rfl (Nat.le_of_ble_eq_true rfl) rfl (fun x hgS hnm hro hret => ?_)
  subst hgS
  have r0 := hro _ (mem_at 0 rfl)
  have ht0 : 0 ≤ tr 0 ∧ tr 0 ≤ 1000 := htr
  show V x cX5_begins RX5 3 (rmU 0 0 0 0) [(ta, cn 0 21 tr)] 0 [(0, ar h), (1, ai bb)] [] 0 0
  refine v_aload_n (pc := 0) 0 rfl dX5_begins_0 ?_
  refine v_get (pc := 1) (v := ar ta) 0 (Or.inl r0) fl_5_9_7 rfl dX5_begins_1 ?_
  refine v_iconst (pc := 4) dX5_begins_4 ?_
  refine v_iald (pc := 5) (Or.inr ⟨0, rfl⟩) (by omega) (by omega) (by decide) dX5_begins_5 ?_
  refine v_iconst (pc := 6) dX5_begins_6 ?_
  refine v_iadd (pc := 7) dX5_begins_7 ?_
  refine v_istore_n (pc := 8) (L2 := [(2, ai ((tr 0) + 1)), (0, ar h), (1, ai bb)]) rfl (by decide) dX5_begins_8 ?_
  refine v_aload_n (pc := 9) 1 rfl dX5_begins_9 ?_
  refine v_get (pc := 10) (v := ar ta) 0 (Or.inl r0) fl_5_9_7 rfl dX5_begins_10 ?_
  refine v_iconst (pc := 13) dX5_begins_13 ?_
  refine v_iload_n (pc := 14) 0 rfl dX5_begins_14 ?_
  refine v_iast (pc := 15) 0 rfl (by omega) (by omega) (by decide) (ws2 := [(ta, cn 0 21 (aup tr 0 ((tr 0) + 1)))]) rfl dX5_begins_15 ?_
  refine v_iload_n (pc := 16) 0 rfl dX5_begins_16 ?_
  refine v_if_le (pc := 17) 36 dX5_begins_17 (by decide) (by unfold iB; omega) (fun c_1 => ?_) (fun c_1 => ?_)
  · skip
    exfalso; omega
  · skip
    refine v_iload_n (pc := 20) 0 rfl dX5_begins_20 ?_
    refine v_aload_n (pc := 21) 1 rfl dX5_begins_21 ?_
    refine v_get (pc := 22) (v := ar ta) 0 (Or.inl r0) fl_5_9_7 rfl dX5_begins_22 ?_
    refine v_alen (pc := 25) (by decide) (Or.inr ⟨0, rfl⟩) dX5_begins_25 ?_
    refine v_icmp_ge (pc := 26) 36 dX5_begins_26 (by decide) (by unfold iB; omega) (by unfold iB; omega) (fun c_2 => ?_) (fun c_2 => ?_)
    · skip
      refine v_ws (ws2 := [(ta, cn 0 21 (bg tr bb))]) (by unfold bg; rw [if_neg (by omega)]) ?_
      exact hret () _ _ _ _ _ trivial rfl rfl (Nat.le_of_ble_eq_true rfl) (Nat.le_of_ble_eq_true rfl) dX5_begins_36
    · skip
      refine v_aload_n (pc := 29) 1 rfl dX5_begins_29 ?_
      refine v_get (pc := 30) (v := ar ta) 0 (Or.inl r0) fl_5_9_7 rfl dX5_begins_30 ?_
      refine v_iload_n (pc := 33) 0 rfl dX5_begins_33 ?_
      refine v_iload_n (pc := 34) 2 rfl dX5_begins_34 ?_
      refine v_iast (pc := 35) 0 rfl (by omega) (by omega) (by decide) (ws2 := [(ta, cn 0 21 (aup (aup tr 0 ((tr 0) + 1)) ((tr 0) + 1) bb))]) rfl dX5_begins_35 ?_
      refine v_ws (ws2 := [(ta, cn 0 21 (bg tr bb))]) (by unfold bg; rw [if_pos (by omega)]) ?_
      exact hret () _ _ _ _ _ trivial rfl rfl (Nat.le_of_ble_eq_true rfl) (Nat.le_of_ble_eq_true rfl) dX5_begins_36
set_option maxHeartbeats 4000000 in
set_option maxRecDepth 100000 in
theorem c_X5_begins_k1 {gS : sG} (h : Nat) (ta : Nat) (kd : Int) (num : Int) (pv : Int) (sk : Int) (hn : Int) (gl : Int) (sc : Int) (pu : Int) (bb : Int) (tr : Int → Int) (htr : trB tr 1000) : Ct gS (S := Unit) yX5_begins cX5_begins 3 none 0 0 0 0 [ar h, ai bb] [(ta, cn 0 21 tr)] (fun q => q ∈ ([(h, co 1 [ar ta, ai kd, ai num, ai pv, ai sk, ai hn, ai gl, ai sc, ai pu])] : aW)) (fun _ => True) (fun _ => none) (fun _ => [(ta, cn 0 21 (bg tr bb))]) := by
  refine ct_V RX5 [(0, ar h), (1, ai bb)] (by decide) rfl (Nat.le_of_ble_eq_true rfl) rfl (fun x hgS hnm hro hret => ?_)
  subst hgS
  have r0 := hro _ (mem_at 0 rfl)
  have ht0 : 0 ≤ tr 0 ∧ tr 0 ≤ 1000 := htr
  show V x cX5_begins RX5 3 (rmU 0 0 0 0) [(ta, cn 0 21 tr)] 0 [(0, ar h), (1, ai bb)] [] 0 0
  refine v_aload_n (pc := 0) 0 rfl dX5_begins_0 ?_
  refine v_get (pc := 1) (v := ar ta) 0 (Or.inl r0) fl_5_9_1 rfl dX5_begins_1 ?_
  refine v_iconst (pc := 4) dX5_begins_4 ?_
  refine v_iald (pc := 5) (Or.inr ⟨0, rfl⟩) (by omega) (by omega) (by decide) dX5_begins_5 ?_
  refine v_iconst (pc := 6) dX5_begins_6 ?_
  refine v_iadd (pc := 7) dX5_begins_7 ?_
  refine v_istore_n (pc := 8) (L2 := [(2, ai ((tr 0) + 1)), (0, ar h), (1, ai bb)]) rfl (by decide) dX5_begins_8 ?_
  refine v_aload_n (pc := 9) 1 rfl dX5_begins_9 ?_
  refine v_get (pc := 10) (v := ar ta) 0 (Or.inl r0) fl_5_9_1 rfl dX5_begins_10 ?_
  refine v_iconst (pc := 13) dX5_begins_13 ?_
  refine v_iload_n (pc := 14) 0 rfl dX5_begins_14 ?_
  refine v_iast (pc := 15) 0 rfl (by omega) (by omega) (by decide) (ws2 := [(ta, cn 0 21 (aup tr 0 ((tr 0) + 1)))]) rfl dX5_begins_15 ?_
  refine v_iload_n (pc := 16) 0 rfl dX5_begins_16 ?_
  refine v_if_le (pc := 17) 36 dX5_begins_17 (by decide) (by unfold iB; omega) (fun c_1 => ?_) (fun c_1 => ?_)
  · skip
    exfalso; omega
  · skip
    refine v_iload_n (pc := 20) 0 rfl dX5_begins_20 ?_
    refine v_aload_n (pc := 21) 1 rfl dX5_begins_21 ?_
    refine v_get (pc := 22) (v := ar ta) 0 (Or.inl r0) fl_5_9_1 rfl dX5_begins_22 ?_
    refine v_alen (pc := 25) (by decide) (Or.inr ⟨0, rfl⟩) dX5_begins_25 ?_
    refine v_icmp_ge (pc := 26) 36 dX5_begins_26 (by decide) (by unfold iB; omega) (by unfold iB; omega) (fun c_2 => ?_) (fun c_2 => ?_)
    · skip
      refine v_ws (ws2 := [(ta, cn 0 21 (bg tr bb))]) (by unfold bg; rw [if_neg (by omega)]) ?_
      exact hret () _ _ _ _ _ trivial rfl rfl (Nat.le_of_ble_eq_true rfl) (Nat.le_of_ble_eq_true rfl) dX5_begins_36
    · skip
      refine v_aload_n (pc := 29) 1 rfl dX5_begins_29 ?_
      refine v_get (pc := 30) (v := ar ta) 0 (Or.inl r0) fl_5_9_1 rfl dX5_begins_30 ?_
      refine v_iload_n (pc := 33) 0 rfl dX5_begins_33 ?_
      refine v_iload_n (pc := 34) 2 rfl dX5_begins_34 ?_
      refine v_iast (pc := 35) 0 rfl (by omega) (by omega) (by decide) (ws2 := [(ta, cn 0 21 (aup (aup tr 0 ((tr 0) + 1)) ((tr 0) + 1) bb))]) rfl dX5_begins_35 ?_
      refine v_ws (ws2 := [(ta, cn 0 21 (bg tr bb))]) (by unfold bg; rw [if_pos (by omega)]) ?_
      exact hret () _ _ _ _ _ trivial rfl rfl (Nat.le_of_ble_eq_true rfl) (Nat.le_of_ble_eq_true rfl) dX5_begins_36
set_option maxHeartbeats 4000000 in
set_option maxRecDepth 100000 in
theorem c_X5_begins_k2 {gS : sG} (h : Nat) (ta : Nat) (kd : Int) (num : Int) (pv : Int) (sk : Int) (hn : Int) (gl : Int) (sc : Int) (pu : Int) (bb : Int) (tr : Int → Int) (htr : trB tr 1000) : Ct gS (S := Unit) yX5_begins cX5_begins 3 none 0 0 0 0 [ar h, ai bb] [(ta, cn 0 21 tr)] (fun q => q ∈ ([(h, co 2 [ar ta, ai kd, ai num, ai pv, ai sk, ai hn, ai gl, ai sc, ai pu])] : aW)) (fun _ => True) (fun _ => none) (fun _ => [(ta, cn 0 21 (bg tr bb))]) := by
  refine ct_V RX5 [(0, ar h), (1, ai bb)] (by decide) rfl (Nat.le_of_ble_eq_true rfl) rfl (fun x hgS hnm hro hret => ?_)
  subst hgS
  have r0 := hro _ (mem_at 0 rfl)
  have ht0 : 0 ≤ tr 0 ∧ tr 0 ≤ 1000 := htr
  show V x cX5_begins RX5 3 (rmU 0 0 0 0) [(ta, cn 0 21 tr)] 0 [(0, ar h), (1, ai bb)] [] 0 0
  refine v_aload_n (pc := 0) 0 rfl dX5_begins_0 ?_
  refine v_get (pc := 1) (v := ar ta) 0 (Or.inl r0) fl_5_9_2 rfl dX5_begins_1 ?_
  refine v_iconst (pc := 4) dX5_begins_4 ?_
  refine v_iald (pc := 5) (Or.inr ⟨0, rfl⟩) (by omega) (by omega) (by decide) dX5_begins_5 ?_
  refine v_iconst (pc := 6) dX5_begins_6 ?_
  refine v_iadd (pc := 7) dX5_begins_7 ?_
  refine v_istore_n (pc := 8) (L2 := [(2, ai ((tr 0) + 1)), (0, ar h), (1, ai bb)]) rfl (by decide) dX5_begins_8 ?_
  refine v_aload_n (pc := 9) 1 rfl dX5_begins_9 ?_
  refine v_get (pc := 10) (v := ar ta) 0 (Or.inl r0) fl_5_9_2 rfl dX5_begins_10 ?_
  refine v_iconst (pc := 13) dX5_begins_13 ?_
  refine v_iload_n (pc := 14) 0 rfl dX5_begins_14 ?_
  refine v_iast (pc := 15) 0 rfl (by omega) (by omega) (by decide) (ws2 := [(ta, cn 0 21 (aup tr 0 ((tr 0) + 1)))]) rfl dX5_begins_15 ?_
  refine v_iload_n (pc := 16) 0 rfl dX5_begins_16 ?_
  refine v_if_le (pc := 17) 36 dX5_begins_17 (by decide) (by unfold iB; omega) (fun c_1 => ?_) (fun c_1 => ?_)
  · skip
    exfalso; omega
  · skip
    refine v_iload_n (pc := 20) 0 rfl dX5_begins_20 ?_
    refine v_aload_n (pc := 21) 1 rfl dX5_begins_21 ?_
    refine v_get (pc := 22) (v := ar ta) 0 (Or.inl r0) fl_5_9_2 rfl dX5_begins_22 ?_
    refine v_alen (pc := 25) (by decide) (Or.inr ⟨0, rfl⟩) dX5_begins_25 ?_
    refine v_icmp_ge (pc := 26) 36 dX5_begins_26 (by decide) (by unfold iB; omega) (by unfold iB; omega) (fun c_2 => ?_) (fun c_2 => ?_)
    · skip
      refine v_ws (ws2 := [(ta, cn 0 21 (bg tr bb))]) (by unfold bg; rw [if_neg (by omega)]) ?_
      exact hret () _ _ _ _ _ trivial rfl rfl (Nat.le_of_ble_eq_true rfl) (Nat.le_of_ble_eq_true rfl) dX5_begins_36
    · skip
      refine v_aload_n (pc := 29) 1 rfl dX5_begins_29 ?_
      refine v_get (pc := 30) (v := ar ta) 0 (Or.inl r0) fl_5_9_2 rfl dX5_begins_30 ?_
      refine v_iload_n (pc := 33) 0 rfl dX5_begins_33 ?_
      refine v_iload_n (pc := 34) 2 rfl dX5_begins_34 ?_
      refine v_iast (pc := 35) 0 rfl (by omega) (by omega) (by decide) (ws2 := [(ta, cn 0 21 (aup (aup tr 0 ((tr 0) + 1)) ((tr 0) + 1) bb))]) rfl dX5_begins_35 ?_
      refine v_ws (ws2 := [(ta, cn 0 21 (bg tr bb))]) (by unfold bg; rw [if_pos (by omega)]) ?_
      exact hret () _ _ _ _ _ trivial rfl rfl (Nat.le_of_ble_eq_true rfl) (Nat.le_of_ble_eq_true rfl) dX5_begins_36
set_option maxHeartbeats 4000000 in
set_option maxRecDepth 100000 in
theorem c_X5_begins_k9 {gS : sG} (h : Nat) (ta : Nat) (kd : Int) (num : Int) (pv : Int) (sk : Int) (hn : Int) (gl : Int) (sc : Int) (pu : Int) (tu : Nat) (bb : Int) (tr : Int → Int) (htr : trB tr 1000) : Ct gS (S := Unit) yX5_begins cX5_begins 3 none 0 0 0 0 [ar h, ai bb] [(ta, cn 0 21 tr)] (fun q => q ∈ ([(h, co 9 [ar ta, ai kd, ai num, ai pv, ai sk, ai hn, ai gl, ai sc, ai pu, ar tu])] : aW)) (fun _ => True) (fun _ => none) (fun _ => [(ta, cn 0 21 (bg tr bb))]) := by
  refine ct_V RX5 [(0, ar h), (1, ai bb)] (by decide) rfl (Nat.le_of_ble_eq_true rfl) rfl (fun x hgS hnm hro hret => ?_)
  subst hgS
  have r0 := hro _ (mem_at 0 rfl)
  have ht0 : 0 ≤ tr 0 ∧ tr 0 ≤ 1000 := htr
  show V x cX5_begins RX5 3 (rmU 0 0 0 0) [(ta, cn 0 21 tr)] 0 [(0, ar h), (1, ai bb)] [] 0 0
  refine v_aload_n (pc := 0) 0 rfl dX5_begins_0 ?_
  refine v_get (pc := 1) (v := ar ta) 0 (Or.inl r0) fl_5_9_9 rfl dX5_begins_1 ?_
  refine v_iconst (pc := 4) dX5_begins_4 ?_
  refine v_iald (pc := 5) (Or.inr ⟨0, rfl⟩) (by omega) (by omega) (by decide) dX5_begins_5 ?_
  refine v_iconst (pc := 6) dX5_begins_6 ?_
  refine v_iadd (pc := 7) dX5_begins_7 ?_
  refine v_istore_n (pc := 8) (L2 := [(2, ai ((tr 0) + 1)), (0, ar h), (1, ai bb)]) rfl (by decide) dX5_begins_8 ?_
  refine v_aload_n (pc := 9) 1 rfl dX5_begins_9 ?_
  refine v_get (pc := 10) (v := ar ta) 0 (Or.inl r0) fl_5_9_9 rfl dX5_begins_10 ?_
  refine v_iconst (pc := 13) dX5_begins_13 ?_
  refine v_iload_n (pc := 14) 0 rfl dX5_begins_14 ?_
  refine v_iast (pc := 15) 0 rfl (by omega) (by omega) (by decide) (ws2 := [(ta, cn 0 21 (aup tr 0 ((tr 0) + 1)))]) rfl dX5_begins_15 ?_
  refine v_iload_n (pc := 16) 0 rfl dX5_begins_16 ?_
  refine v_if_le (pc := 17) 36 dX5_begins_17 (by decide) (by unfold iB; omega) (fun c_1 => ?_) (fun c_1 => ?_)
  · skip
    exfalso; omega
  · skip
    refine v_iload_n (pc := 20) 0 rfl dX5_begins_20 ?_
    refine v_aload_n (pc := 21) 1 rfl dX5_begins_21 ?_
    refine v_get (pc := 22) (v := ar ta) 0 (Or.inl r0) fl_5_9_9 rfl dX5_begins_22 ?_
    refine v_alen (pc := 25) (by decide) (Or.inr ⟨0, rfl⟩) dX5_begins_25 ?_
    refine v_icmp_ge (pc := 26) 36 dX5_begins_26 (by decide) (by unfold iB; omega) (by unfold iB; omega) (fun c_2 => ?_) (fun c_2 => ?_)
    · skip
      refine v_ws (ws2 := [(ta, cn 0 21 (bg tr bb))]) (by unfold bg; rw [if_neg (by omega)]) ?_
      exact hret () _ _ _ _ _ trivial rfl rfl (Nat.le_of_ble_eq_true rfl) (Nat.le_of_ble_eq_true rfl) dX5_begins_36
    · skip
      refine v_aload_n (pc := 29) 1 rfl dX5_begins_29 ?_
      refine v_get (pc := 30) (v := ar ta) 0 (Or.inl r0) fl_5_9_9 rfl dX5_begins_30 ?_
      refine v_iload_n (pc := 33) 0 rfl dX5_begins_33 ?_
      refine v_iload_n (pc := 34) 2 rfl dX5_begins_34 ?_
      refine v_iast (pc := 35) 0 rfl (by omega) (by omega) (by decide) (ws2 := [(ta, cn 0 21 (aup (aup tr 0 ((tr 0) + 1)) ((tr 0) + 1) bb))]) rfl dX5_begins_35 ?_
      refine v_ws (ws2 := [(ta, cn 0 21 (bg tr bb))]) (by unfold bg; rw [if_pos (by omega)]) ?_
      exact hret () _ _ _ _ _ trivial rfl rfl (Nat.le_of_ble_eq_true rfl) (Nat.le_of_ble_eq_true rfl) dX5_begins_36
