set_option maxHeartbeats 4000000 in
set_option maxRecDepth 100000 in
theorem c_X5_copyFrom_k5 {gS : sG} (h : Nat) (ta : Nat) (fro : Nat) (ta2 : Nat) (kd : Int) (kd2 : Int) (num : Int) (pv : Int) (sk : Int) (hn : Int) (gl : Int) (sc : Int) (pu : Int) (z1 : Int) (z2 : Int) (z3 : Int) (z4 : Int) (z5 : Int) (z6 : Int) (z7 : Int) : Ct gS (S := Unit) yX5_copyFrom cX5_copyFrom 2 none 0 0 0 0 [ar h, ar fro] [(h, co 5 [ar ta, ai kd, ai z1, ai z2, ai z3, ai z4, ai z5, ai z6, ai z7])] (fun q => q ∈ ([(fro, co 5 [ar ta2, ai kd2, ai num, ai pv, ai sk, ai hn, ai gl, ai sc, ai pu])] : aW)) (fun _ => True) (fun _ => none) (fun _ => [(h, co 5 [ar ta, ai kd, ai num, ai pv, ai sk, ai hn, ai gl, ai sc, ai pu])]) := by
  refine ct_V RX5 [(0, ar h), (1, ar fro)] (by decide) rfl (Nat.le_of_ble_eq_true rfl) rfl (fun x hgS hnm hro hret => ?_)
  subst hgS
  have r0 := hro _ (mem_at 0 rfl)
  show V x cX5_copyFrom RX5 2 (rmU 0 0 0 0) [(h, co 5 [ar ta, ai kd, ai z1, ai z2, ai z3, ai z4, ai z5, ai z6, ai z7])] 0 [(0, ar h), (1, ar fro)] [] 0 0
  refine v_aload_n (pc := 0) 0 rfl dX5_copyFrom_0 ?_
  refine v_aload_n (pc := 1) 1 rfl dX5_copyFrom_1 ?_
  refine v_get (pc := 2) (v := ai num) 2 (Or.inl r0) fl_5_48_5 rfl dX5_copyFrom_2 ?_
  refine v_put (pc := 5) 2 0 rfl fl_5_48_5 ck_5 ft_5_2 (okV_i _) (Nat.le_of_ble_eq_true rfl) (ws2 := [(h, co 5 [ar ta, ai kd, ai num, ai z2, ai z3, ai z4, ai z5, ai z6, ai z7])]) rfl dX5_copyFrom_5 ?_
  refine v_aload_n (pc := 8) 0 rfl dX5_copyFrom_8 ?_
  refine v_aload_n (pc := 9) 1 rfl dX5_copyFrom_9 ?_
  refine v_get (pc := 10) (v := ai pv) 3 (Or.inl r0) fl_5_51_5 rfl dX5_copyFrom_10 ?_
  refine v_put (pc := 13) 3 0 rfl fl_5_51_5 ck_5 ft_5_3 (okV_i _) (Nat.le_of_ble_eq_true rfl) (ws2 := [(h, co 5 [ar ta, ai kd, ai num, ai pv, ai z3, ai z4, ai z5, ai z6, ai z7])]) rfl dX5_copyFrom_13 ?_
  refine v_aload_n (pc := 16) 0 rfl dX5_copyFrom_16 ?_
  refine v_aload_n (pc := 17) 1 rfl dX5_copyFrom_17 ?_
  refine v_get (pc := 18) (v := ai sk) 4 (Or.inl r0) fl_5_54_5 rfl dX5_copyFrom_18 ?_
  refine v_put (pc := 21) 4 0 rfl fl_5_54_5 ck_5 ft_5_4 (okV_i _) (Nat.le_of_ble_eq_true rfl) (ws2 := [(h, co 5 [ar ta, ai kd, ai num, ai pv, ai sk, ai z4, ai z5, ai z6, ai z7])]) rfl dX5_copyFrom_21 ?_
  refine v_aload_n (pc := 24) 0 rfl dX5_copyFrom_24 ?_
  refine v_aload_n (pc := 25) 1 rfl dX5_copyFrom_25 ?_
  refine v_get (pc := 26) (v := ai hn) 5 (Or.inl r0) fl_5_57_5 rfl dX5_copyFrom_26 ?_
  refine v_put (pc := 29) 5 0 rfl fl_5_57_5 ck_5 ft_5_5 (okV_i _) (Nat.le_of_ble_eq_true rfl) (ws2 := [(h, co 5 [ar ta, ai kd, ai num, ai pv, ai sk, ai hn, ai z5, ai z6, ai z7])]) rfl dX5_copyFrom_29 ?_
  refine v_aload_n (pc := 32) 0 rfl dX5_copyFrom_32 ?_
  refine v_aload_n (pc := 33) 1 rfl dX5_copyFrom_33 ?_
  refine v_get (pc := 34) (v := ai gl) 6 (Or.inl r0) fl_5_60_5 rfl dX5_copyFrom_34 ?_
  refine v_put (pc := 37) 6 0 rfl fl_5_60_5 ck_5 ft_5_6 (okV_i _) (Nat.le_of_ble_eq_true rfl) (ws2 := [(h, co 5 [ar ta, ai kd, ai num, ai pv, ai sk, ai hn, ai gl, ai z6, ai z7])]) rfl dX5_copyFrom_37 ?_
  refine v_aload_n (pc := 40) 0 rfl dX5_copyFrom_40 ?_
  refine v_aload_n (pc := 41) 1 rfl dX5_copyFrom_41 ?_
  refine v_get (pc := 42) (v := ai sc) 7 (Or.inl r0) fl_5_63_5 rfl dX5_copyFrom_42 ?_
  refine v_put (pc := 45) 7 0 rfl fl_5_63_5 ck_5 ft_5_7 (okV_i _) (Nat.le_of_ble_eq_true rfl) (ws2 := [(h, co 5 [ar ta, ai kd, ai num, ai pv, ai sk, ai hn, ai gl, ai sc, ai z7])]) rfl dX5_copyFrom_45 ?_
  refine v_aload_n (pc := 48) 0 rfl dX5_copyFrom_48 ?_
  refine v_aload_n (pc := 49) 1 rfl dX5_copyFrom_49 ?_
  refine v_get (pc := 50) (v := ai pu) 8 (Or.inl r0) fl_5_66_5 rfl dX5_copyFrom_50 ?_
  refine v_put (pc := 53) 8 0 rfl fl_5_66_5 ck_5 ft_5_8 (okV_i _) (Nat.le_of_ble_eq_true rfl) (ws2 := [(h, co 5 [ar ta, ai kd, ai num, ai pv, ai sk, ai hn, ai gl, ai sc, ai pu])]) rfl dX5_copyFrom_53 ?_
  exact hret () _ _ _ _ _ trivial rfl rfl (Nat.le_of_ble_eq_true rfl) (Nat.le_of_ble_eq_true rfl) dX5_copyFrom_56
set_option maxHeartbeats 4000000 in
set_option maxRecDepth 100000 in
theorem c_X5_copyFrom_k8 {gS : sG} (h : Nat) (ta : Nat) (fro : Nat) (ta2 : Nat) (kd : Int) (kd2 : Int) (num : Int) (pv : Int) (sk : Int) (hn : Int) (gl : Int) (sc : Int) (pu : Int) (z1 : Int) (z2 : Int) (z3 : Int) (z4 : Int) (z5 : Int) (z6 : Int) (z7 : Int) : Ct gS (S := Unit) yX5_copyFrom cX5_copyFrom 2 none 0 0 0 0 [ar h, ar fro] [(h, co 8 [ar ta, ai kd, ai z1, ai z2, ai z3, ai z4, ai z5, ai z6, ai z7])] (fun q => q ∈ ([(fro, co 8 [ar ta2, ai kd2, ai num, ai pv, ai sk, ai hn, ai gl, ai sc, ai pu])] : aW)) (fun _ => True) (fun _ => none) (fun _ => [(h, co 8 [ar ta, ai kd, ai num, ai pv, ai sk, ai hn, ai gl, ai sc, ai pu])]) := by
  refine ct_V RX5 [(0, ar h), (1, ar fro)] (by decide) rfl (Nat.le_of_ble_eq_true rfl) rfl (fun x hgS hnm hro hret => ?_)
  subst hgS
  have r0 := hro _ (mem_at 0 rfl)
  show V x cX5_copyFrom RX5 2 (rmU 0 0 0 0) [(h, co 8 [ar ta, ai kd, ai z1, ai z2, ai z3, ai z4, ai z5, ai z6, ai z7])] 0 [(0, ar h), (1, ar fro)] [] 0 0
  refine v_aload_n (pc := 0) 0 rfl dX5_copyFrom_0 ?_
  refine v_aload_n (pc := 1) 1 rfl dX5_copyFrom_1 ?_
  refine v_get (pc := 2) (v := ai num) 2 (Or.inl r0) fl_5_48_8 rfl dX5_copyFrom_2 ?_
  refine v_put (pc := 5) 2 0 rfl fl_5_48_8 ck_8 ft_8_2 (okV_i _) (Nat.le_of_ble_eq_true rfl) (ws2 := [(h, co 8 [ar ta, ai kd, ai num, ai z2, ai z3, ai z4, ai z5, ai z6, ai z7])]) rfl dX5_copyFrom_5 ?_
  refine v_aload_n (pc := 8) 0 rfl dX5_copyFrom_8 ?_
  refine v_aload_n (pc := 9) 1 rfl dX5_copyFrom_9 ?_
  refine v_get (pc := 10) (v := ai pv) 3 (Or.inl r0) fl_5_51_8 rfl dX5_copyFrom_10 ?_
  refine v_put (pc := 13) 3 0 rfl fl_5_51_8 ck_8 ft_8_3 (okV_i _) (Nat.le_of_ble_eq_true rfl) (ws2 := [(h, co 8 [ar ta, ai kd, ai num, ai pv, ai z3, ai z4, ai z5, ai z6, ai z7])]) rfl dX5_copyFrom_13 ?_
  refine v_aload_n (pc := 16) 0 rfl dX5_copyFrom_16 ?_
  refine v_aload_n (pc := 17) 1 rfl dX5_copyFrom_17 ?_
  refine v_get (pc := 18) (v := ai sk) 4 (Or.inl r0) fl_5_54_8 rfl dX5_copyFrom_18 ?_
  refine v_put (pc := 21) 4 0 rfl fl_5_54_8 ck_8 ft_8_4 (okV_i _) (Nat.le_of_ble_eq_true rfl) (ws2 := [(h, co 8 [ar ta, ai kd, ai num, ai pv, ai sk, ai z4, ai z5, ai z6, ai z7])]) rfl dX5_copyFrom_21 ?_
  refine v_aload_n (pc := 24) 0 rfl dX5_copyFrom_24 ?_
  refine v_aload_n (pc := 25) 1 rfl dX5_copyFrom_25 ?_
  refine v_get (pc := 26) (v := ai hn) 5 (Or.inl r0) fl_5_57_8 rfl dX5_copyFrom_26 ?_
  refine v_put (pc := 29) 5 0 rfl fl_5_57_8 ck_8 ft_8_5 (okV_i _) (Nat.le_of_ble_eq_true rfl) (ws2 := [(h, co 8 [ar ta, ai kd, ai num, ai pv, ai sk, ai hn, ai z5, ai z6, ai z7])]) rfl dX5_copyFrom_29 ?_
  refine v_aload_n (pc := 32) 0 rfl dX5_copyFrom_32 ?_
  refine v_aload_n (pc := 33) 1 rfl dX5_copyFrom_33 ?_
  refine v_get (pc := 34) (v := ai gl) 6 (Or.inl r0) fl_5_60_8 rfl dX5_copyFrom_34 ?_
  refine v_put (pc := 37) 6 0 rfl fl_5_60_8 ck_8 ft_8_6 (okV_i _) (Nat.le_of_ble_eq_true rfl) (ws2 := [(h, co 8 [ar ta, ai kd, ai num, ai pv, ai sk, ai hn, ai gl, ai z6, ai z7])]) rfl dX5_copyFrom_37 ?_
  refine v_aload_n (pc := 40) 0 rfl dX5_copyFrom_40 ?_
  refine v_aload_n (pc := 41) 1 rfl dX5_copyFrom_41 ?_
  refine v_get (pc := 42) (v := ai sc) 7 (Or.inl r0) fl_5_63_8 rfl dX5_copyFrom_42 ?_
  refine v_put (pc := 45) 7 0 rfl fl_5_63_8 ck_8 ft_8_7 (okV_i _) (Nat.le_of_ble_eq_true rfl) (ws2 := [(h, co 8 [ar ta, ai kd, ai num, ai pv, ai sk, ai hn, ai gl, ai sc, ai z7])]) rfl dX5_copyFrom_45 ?_
  refine v_aload_n (pc := 48) 0 rfl dX5_copyFrom_48 ?_
  refine v_aload_n (pc := 49) 1 rfl dX5_copyFrom_49 ?_
  refine v_get (pc := 50) (v := ai pu) 8 (Or.inl r0) fl_5_66_8 rfl dX5_copyFrom_50 ?_
  refine v_put (pc := 53) 8 0 rfl fl_5_66_8 ck_8 ft_8_8 (okV_i _) (Nat.le_of_ble_eq_true rfl) (ws2 := [(h, co 8 [ar ta, ai kd, ai num, ai pv, ai sk, ai hn, ai gl, ai sc, ai pu])]) rfl dX5_copyFrom_53 ?_
  exact hret () _ _ _ _ _ trivial rfl rfl (Nat.le_of_ble_eq_true rfl) (Nat.le_of_ble_eq_true rfl) dX5_copyFrom_56
set_option maxHeartbeats 4000000 in
set_option maxRecDepth 100000 in
theorem c_X5_copyFrom_k0 {gS : sG} (h : Nat) (ta : Nat) (fro : Nat) (ta2 : Nat) (kd : Int) (kd2 : Int) (num : Int) (pv : Int) (sk : Int) (hn : Int) (gl : Int) (sc : Int) (pu : Int) (z1 : Int) (z2 : Int) (z3 : Int) (z4 : Int) (z5 : Int) (z6 : Int) (z7 : Int) : Ct gS (S := Unit) yX5_copyFrom cX5_copyFrom 2 none 0 0 0 0 [ar h, ar fro] [(h, co 0 [ar ta, ai kd, ai z1, ai z2, ai z3, ai z4, ai z5, ai z6, ai z7])] (fun q => q ∈ ([(fro, co 0 [ar ta2, ai kd2, ai num, ai pv, ai sk, ai hn, ai gl, ai sc, ai pu])] : aW)) (fun _ => True) (fun _ => none) (fun _ => [(h, co 0 [ar ta, ai kd, ai num, ai pv, ai sk, ai hn, ai gl, ai sc, ai pu])]) := by
  refine ct_V RX5 [(0, ar h), (1, ar fro)] (by decide) rfl (Nat.le_of_ble_eq_true rfl) rfl (fun x hgS hnm hro hret => ?_)
  subst hgS
  have r0 := hro _ (mem_at 0 rfl)
  show V x cX5_copyFrom RX5 2 (rmU 0 0 0 0) [(h, co 0 [ar ta, ai kd, ai z1, ai z2, ai z3, ai z4, ai z5, ai z6, ai z7])] 0 [(0, ar h), (1, ar fro)] [] 0 0
  refine v_aload_n (pc := 0) 0 rfl dX5_copyFrom_0 ?_
  refine v_aload_n (pc := 1) 1 rfl dX5_copyFrom_1 ?_
  refine v_get (pc := 2) (v := ai num) 2 (Or.inl r0) fl_5_48_0 rfl dX5_copyFrom_2 ?_
  refine v_put (pc := 5) 2 0 rfl fl_5_48_0 ck_0 ft_0_2 (okV_i _) (Nat.le_of_ble_eq_true rfl) (ws2 := [(h, co 0 [ar ta, ai kd, ai num, ai z2, ai z3, ai z4, ai z5, ai z6, ai z7])]) rfl dX5_copyFrom_5 ?_
  refine v_aload_n (pc := 8) 0 rfl dX5_copyFrom_8 ?_
  refine v_aload_n (pc := 9) 1 rfl dX5_copyFrom_9 ?_
  refine v_get (pc := 10) (v := ai pv) 3 (Or.inl r0) fl_5_51_0 rfl dX5_copyFrom_10 ?_
  refine v_put (pc := 13) 3 0 rfl fl_5_51_0 ck_0 ft_0_3 (okV_i _) (Nat.le_of_ble_eq_true rfl) (ws2 := [(h, co 0 [ar ta, ai kd, ai num, ai pv, ai z3, ai z4, ai z5, ai z6, ai z7])]) rfl dX5_copyFrom_13 ?_
  refine v_aload_n (pc := 16) 0 rfl dX5_copyFrom_16 ?_
  refine v_aload_n (pc := 17) 1 rfl dX5_copyFrom_17 ?_
  refine v_get (pc := 18) (v := ai sk) 4 (Or.inl r0) fl_5_54_0 rfl dX5_copyFrom_18 ?_
  refine v_put (pc := 21) 4 0 rfl fl_5_54_0 ck_0 ft_0_4 (okV_i _) (Nat.le_of_ble_eq_true rfl) (ws2 := [(h, co 0 [ar ta, ai kd, ai num, ai pv, ai sk, ai z4, ai z5, ai z6, ai z7])]) rfl dX5_copyFrom_21 ?_
  refine v_aload_n (pc := 24) 0 rfl dX5_copyFrom_24 ?_
  refine v_aload_n (pc := 25) 1 rfl dX5_copyFrom_25 ?_
  refine v_get (pc := 26) (v := ai hn) 5 (Or.inl r0) fl_5_57_0 rfl dX5_copyFrom_26 ?_
  refine v_put (pc := 29) 5 0 rfl fl_5_57_0 ck_0 ft_0_5 (okV_i _) (Nat.le_of_ble_eq_true rfl) (ws2 := [(h, co 0 [ar ta, ai kd, ai num, ai pv, ai sk, ai hn, ai z5, ai z6, ai z7])]) rfl dX5_copyFrom_29 ?_
  refine v_aload_n (pc := 32) 0 rfl dX5_copyFrom_32 ?_
  refine v_aload_n (pc := 33) 1 rfl dX5_copyFrom_33 ?_
  refine v_get (pc := 34) (v := ai gl) 6 (Or.inl r0) fl_5_60_0 rfl dX5_copyFrom_34 ?_
  refine v_put (pc := 37) 6 0 rfl fl_5_60_0 ck_0 ft_0_6 (okV_i _) (Nat.le_of_ble_eq_true rfl) (ws2 := [(h, co 0 [ar ta, ai kd, ai num, ai pv, ai sk, ai hn, ai gl, ai z6, ai z7])]) rfl dX5_copyFrom_37 ?_
  refine v_aload_n (pc := 40) 0 rfl dX5_copyFrom_40 ?_
  refine v_aload_n (pc := 41) 1 rfl dX5_copyFrom_41 ?_
  refine v_get (pc := 42) (v := ai sc) 7 (Or.inl r0) fl_5_63_0 rfl dX5_copyFrom_42 ?_
  refine v_put (pc := 45) 7 0 rfl fl_5_63_0 ck_0 ft_0_7 (okV_i _) (Nat.le_of_ble_eq_true rfl) (ws2 := [(h, co 0 [ar ta, ai kd, ai num, ai pv, ai sk, ai hn, ai gl, ai sc, ai z7])]) rfl dX5_copyFrom_45 ?_
  refine v_aload_n (pc := 48) 0 rfl dX5_copyFrom_48 ?_
  refine v_aload_n (pc := 49) 1 rfl dX5_copyFrom_49 ?_
  refine v_get (pc := 50) (v := ai pu) 8 (Or.inl r0) fl_5_66_0 rfl dX5_copyFrom_50 ?_
  refine v_put (pc := 53) 8 0 rfl fl_5_66_0 ck_0 ft_0_8 (okV_i _) (Nat.le_of_ble_eq_true rfl) (ws2 := [(h, co 0 [ar ta, ai kd, ai num, ai pv, ai sk, ai hn, ai gl, ai sc, ai pu])]) rfl dX5_copyFrom_53 ?_
  exact hret () _ _ _ _ _ trivial rfl rfl (Nat.le_of_ble_eq_true rfl) (Nat.le_of_ble_eq_true rfl) dX5_copyFrom_56
set_option maxHeartbeats 4000000 in
set_option maxRecDepth 100000 in
theorem c_X5_copyFrom_k7 {gS : sG} (h : Nat) (ta : Nat) (fro : Nat) (ta2 : Nat) (kd : Int) (kd2 : Int) (num : Int) (pv : Int) (sk : Int) (hn : Int) (gl : Int) (sc : Int) (pu : Int) (z1 : Int) (z2 : Int) (z3 : Int) (z4 : Int) (z5 : Int) (z6 : Int) (z7 : Int) : Ct gS (S := Unit) yX5_copyFrom cX5_copyFrom 2 none 0 0 0 0 [ar h, ar fro] [(h, co 7 [ar ta, ai kd, ai z1, ai z2, ai z3, ai z4, ai z5, ai z6, ai z7])] (fun q => q ∈ ([(fro, co 7 [ar ta2, ai kd2, ai num, ai pv, ai sk, ai hn, ai gl, ai sc, ai pu])] : aW)) (fun _ => True) (fun _ => none) (fun _ => [(h, co 7 [ar ta, ai kd, ai num, ai pv, ai sk, ai hn, ai gl, ai sc, ai pu])]) := by
  refine ct_V RX5 [(0, ar h), (1, ar fro)] (by decide) rfl (Nat.le_of_ble_eq_true rfl) rfl (fun x hgS hnm hro hret => ?_)
  subst hgS
  have r0 := hro _ (mem_at 0 rfl)
  show V x cX5_copyFrom RX5 2 (rmU 0 0 0 0) [(h, co 7 [ar ta, ai kd, ai z1, ai z2, ai z3, ai z4, ai z5, ai z6, ai z7])] 0 [(0, ar h), (1, ar fro)] [] 0 0
  refine v_aload_n (pc := 0) 0 rfl dX5_copyFrom_0 ?_
  refine v_aload_n (pc := 1) 1 rfl dX5_copyFrom_1 ?_
  refine v_get (pc := 2) (v := ai num) 2 (Or.inl r0) fl_5_48_7 rfl dX5_copyFrom_2 ?_
  refine v_put (pc := 5) 2 0 rfl fl_5_48_7 ck_7 ft_7_2 (okV_i _) (Nat.le_of_ble_eq_true rfl) (ws2 := [(h, co 7 [ar ta, ai kd, ai num, ai z2, ai z3, ai z4, ai z5, ai z6, ai z7])]) rfl dX5_copyFrom_5 ?_
  refine v_aload_n (pc := 8) 0 rfl dX5_copyFrom_8 ?_
  refine v_aload_n (pc := 9) 1 rfl dX5_copyFrom_9 ?_
  refine v_get (pc := 10) (v := ai pv) 3 (Or.inl r0) fl_5_51_7 rfl dX5_copyFrom_10 ?_
  refine v_put (pc := 13) 3 0 rfl fl_5_51_7 ck_7 ft_7_3 (okV_i _) (Nat.le_of_ble_eq_true rfl) (ws2 := [(h, co 7 [ar ta, ai kd, ai num, ai pv, ai z3, ai z4, ai z5, ai z6, ai z7])]) rfl dX5_copyFrom_13 ?_
  refine v_aload_n (pc := 16) 0 rfl dX5_copyFrom_16 ?_
  refine v_aload_n (pc := 17) 1 rfl dX5_copyFrom_17 ?_
  refine v_get (pc := 18) (v := ai sk) 4 (Or.inl r0) fl_5_54_7 rfl dX5_copyFrom_18 ?_
  refine v_put (pc := 21) 4 0 rfl fl_5_54_7 ck_7 ft_7_4 (okV_i _) (Nat.le_of_ble_eq_true rfl) (ws2 := [(h, co 7 [ar ta, ai kd, ai num, ai pv, ai sk, ai z4, ai z5, ai z6, ai z7])]) rfl dX5_copyFrom_21 ?_
  refine v_aload_n (pc := 24) 0 rfl dX5_copyFrom_24 ?_
  refine v_aload_n (pc := 25) 1 rfl dX5_copyFrom_25 ?_
  refine v_get (pc := 26) (v := ai hn) 5 (Or.inl r0) fl_5_57_7 rfl dX5_copyFrom_26 ?_
  refine v_put (pc := 29) 5 0 rfl fl_5_57_7 ck_7 ft_7_5 (okV_i _) (Nat.le_of_ble_eq_true rfl) (ws2 := [(h, co 7 [ar ta, ai kd, ai num, ai pv, ai sk, ai hn, ai z5, ai z6, ai z7])]) rfl dX5_copyFrom_29 ?_
  refine v_aload_n (pc := 32) 0 rfl dX5_copyFrom_32 ?_
  refine v_aload_n (pc := 33) 1 rfl dX5_copyFrom_33 ?_
  refine v_get (pc := 34) (v := ai gl) 6 (Or.inl r0) fl_5_60_7 rfl dX5_copyFrom_34 ?_
  refine v_put (pc := 37) 6 0 rfl fl_5_60_7 ck_7 ft_7_6 (okV_i _) (Nat.le_of_ble_eq_true rfl) (ws2 := [(h, co 7 [ar ta, ai kd, ai num, ai pv, ai sk, ai hn, ai gl, ai z6, ai z7])]) rfl dX5_copyFrom_37 ?_
  refine v_aload_n (pc := 40) 0 rfl dX5_copyFrom_40 ?_
  refine v_aload_n (pc := 41) 1 rfl dX5_copyFrom_41 ?_
  refine v_get (pc := 42) (v := ai sc) 7 (Or.inl r0) fl_5_63_7 rfl dX5_copyFrom_42 ?_
  refine v_put (pc := 45) 7 0 rfl fl_5_63_7 ck_7 ft_7_7 (okV_i _) (Nat.le_of_ble_eq_true rfl) (ws2 := [(h, co 7 [ar ta, ai kd, ai num, ai pv, ai sk, ai hn, ai gl, ai sc, ai z7])]) rfl dX5_copyFrom_45 ?_
  refine v_aload_n (pc := 48) 0 rfl dX5_copyFrom_48 ?_
  refine v_aload_n (pc := 49) 1 rfl dX5_copyFrom_49 ?_
  refine v_get (pc := 50) (v := ai pu) 8 (Or.inl r0) fl_5_66_7 rfl dX5_copyFrom_50 ?_
  refine v_put (pc := 53) 8 0 rfl fl_5_66_7 ck_7 ft_7_8 (okV_i _) (Nat.le_of_ble_eq_true rfl) (ws2 := [(h, co 7 [ar ta, ai kd, ai num, ai pv, ai sk, ai hn, ai gl, ai sc, ai pu])]) rfl dX5_copyFrom_53 ?_
  exact hret () _ _ _ _ _ trivial rfl rfl (Nat.le_of_ble_eq_true rfl) (Nat.le_of_ble_eq_true rfl) dX5_copyFrom_56
set_option maxHeartbeats 4000000 in
set_option maxRecDepth 100000 in
theorem c_X5_copyFrom_k1 {gS : sG} (h : Nat) (ta : Nat) (fro : Nat) (ta2 : Nat) (kd : Int) (kd2 : Int) (num : Int) (pv : Int) (sk : Int) (hn : Int) (gl : Int) (sc : Int) (pu : Int) (z1 : Int) (z2 : Int) (z3 : Int) (z4 : Int) (z5 : Int) (z6 : Int) (z7 : Int) : Ct gS (S := Unit) yX5_copyFrom cX5_copyFrom 2 none 0 0 0 0 [ar h, ar fro] [(h, co 1 [ar ta, ai kd, ai z1, ai z2, ai z3, ai z4, ai z5, ai z6, ai z7])] (fun q => q ∈ ([(fro, co 1 [ar ta2, ai kd2, ai num, ai pv, ai sk, ai hn, ai gl, ai sc, ai pu])] : aW)) (fun _ => True) (fun _ => none) (fun _ => [(h, co 1 [ar ta, ai kd, ai num, ai pv, ai sk, ai hn, ai gl, ai sc, ai pu])]) := by
  refine ct_V RX5 [(0, ar h), (1, ar fro)] (by decide) rfl (Nat.le_of_ble_eq_true rfl) rfl (fun x hgS hnm hro hret => ?_)
  subst hgS
  have r0 := hro _ (mem_at 0 rfl)
  show V x cX5_copyFrom RX5 2 (rmU 0 0 0 0) [(h, co 1 [ar ta, ai kd, ai z1, ai z2, ai z3, ai z4, ai z5, ai z6, ai z7])] 0 [(0, ar h), (1, ar fro)] [] 0 0
  refine v_aload_n (pc := 0) 0 rfl dX5_copyFrom_0 ?_
  refine v_aload_n (pc := 1) 1 rfl dX5_copyFrom_1 ?_
  refine v_get (pc := 2) (v := ai num) 2 (Or.inl r0) fl_5_48_1 rfl dX5_copyFrom_2 ?_
  refine v_put (pc := 5) 2 0 rfl fl_5_48_1 ck_1 ft_1_2 (okV_i _) (Nat.le_of_ble_eq_true rfl) (ws2 := [(h, co 1 [ar ta, ai kd, ai num, ai z2, ai z3, ai z4, ai z5, ai z6, ai z7])]) rfl dX5_copyFrom_5 ?_
  refine v_aload_n (pc := 8) 0 rfl dX5_copyFrom_8 ?_
  refine v_aload_n (pc := 9) 1 rfl dX5_copyFrom_9 ?_
  refine v_get (pc := 10) (v := ai pv) 3 (Or.inl r0) fl_5_51_1 rfl dX5_copyFrom_10 ?_
  refine v_put (pc := 13) 3 0 rfl fl_5_51_1 ck_1 ft_1_3 (okV_i _) (Nat.le_of_ble_eq_true rfl) (ws2 := [(h, co 1 [ar ta, ai kd, ai num, ai pv, ai z3, ai z4, ai z5, ai z6, ai z7])]) rfl dX5_copyFrom_13 ?_
  refine v_aload_n (pc := 16) 0 rfl dX5_copyFrom_16 ?_
  refine v_aload_n (pc := 17) 1 rfl dX5_copyFrom_17 ?_
  refine v_get (pc := 18) (v := ai sk) 4 (Or.inl r0) fl_5_54_1 rfl dX5_copyFrom_18 ?_
  refine v_put (pc := 21) 4 0 rfl fl_5_54_1 ck_1 ft_1_4 (okV_i _) (Nat.le_of_ble_eq_true rfl) (ws2 := [(h, co 1 [ar ta, ai kd, ai num, ai pv, ai sk, ai z4, ai z5, ai z6, ai z7])]) rfl dX5_copyFrom_21 ?_
  refine v_aload_n (pc := 24) 0 rfl dX5_copyFrom_24 ?_
  refine v_aload_n (pc := 25) 1 rfl dX5_copyFrom_25 ?_
  refine v_get (pc := 26) (v := ai hn) 5 (Or.inl r0) fl_5_57_1 rfl dX5_copyFrom_26 ?_
  refine v_put (pc := 29) 5 0 rfl fl_5_57_1 ck_1 ft_1_5 (okV_i _) (Nat.le_of_ble_eq_true rfl) (ws2 := [(h, co 1 [ar ta, ai kd, ai num, ai pv, ai sk, ai hn, ai z5, ai z6, ai z7])]) rfl dX5_copyFrom_29 ?_
  refine v_aload_n (pc := 32) 0 rfl dX5_copyFrom_32 ?_
  refine v_aload_n (pc := 33) 1 rfl dX5_copyFrom_33 ?_
  refine v_get (pc := 34) (v := ai gl) 6 (Or.inl r0) fl_5_60_1 rfl dX5_copyFrom_34 ?_
  refine v_put (pc := 37) 6 0 rfl fl_5_60_1 ck_1 ft_1_6 (okV_i _) (Nat.le_of_ble_eq_true rfl) (ws2 := [(h, co 1 [ar ta, ai kd, ai num, ai pv, ai sk, ai hn, ai gl, ai z6, ai z7])]) rfl dX5_copyFrom_37 ?_
  refine v_aload_n (pc := 40) 0 rfl dX5_copyFrom_40 ?_
  refine v_aload_n (pc := 41) 1 rfl dX5_copyFrom_41 ?_
  refine v_get (pc := 42) (v := ai sc) 7 (Or.inl r0) fl_5_63_1 rfl dX5_copyFrom_42 ?_
  refine v_put (pc := 45) 7 0 rfl fl_5_63_1 ck_1 ft_1_7 (okV_i _) (Nat.le_of_ble_eq_true rfl) (ws2 := [(h, co 1 [ar ta, ai kd, ai num, ai pv, ai sk, ai hn, ai gl, ai sc, ai z7])]) rfl dX5_copyFrom_45 ?_
  refine v_aload_n (pc := 48) 0 rfl dX5_copyFrom_48 ?_
  refine v_aload_n (pc := 49) 1 rfl dX5_copyFrom_49 ?_
  refine v_get (pc := 50) (v := ai pu) 8 (Or.inl r0) fl_5_66_1 rfl dX5_copyFrom_50 ?_
  refine v_put (pc := 53) 8 0 rfl fl_5_66_1 ck_1 ft_1_8 (okV_i _) (Nat.le_of_ble_eq_true rfl) (ws2 := [(h, co 1 [ar ta, ai kd, ai num, ai pv, ai sk, ai hn, ai gl, ai sc, ai pu])]) rfl dX5_copyFrom_53 ?_
  exact hret () _ _ _ _ _ trivial rfl rfl (Nat.le_of_ble_eq_true rfl) (Nat.le_of_ble_eq_true rfl) dX5_copyFrom_56
set_option maxHeartbeats 4000000 in
set_option maxRecDepth 100000 in
theorem c_X5_copyFrom_k2 {gS : sG} (h : Nat) (ta : Nat) (fro : Nat) (ta2 : Nat) (kd : Int) (kd2 : Int) (num : Int) (pv : Int) (sk : Int) (hn : Int) (gl : Int) (sc : Int) (pu : Int) (z1 : Int) (z2 : Int) (z3 : Int) (z4 : Int) (z5 : Int) (z6 : Int) (z7 : Int) : Ct gS (S := Unit) yX5_copyFrom cX5_copyFrom 2 none 0 0 0 0 [ar h, ar fro] [(h, co 2 [ar ta, ai kd, ai z1, ai z2, ai z3, ai z4, ai z5, ai z6, ai z7])] (fun q => q ∈ ([(fro, co 2 [ar ta2, ai kd2, ai num, ai pv, ai sk, ai hn, ai gl, ai sc, ai pu])] : aW)) (fun _ => True) (fun _ => none) (fun _ => [(h, co 2 [ar ta, ai kd, ai num, ai pv, ai sk, ai hn, ai gl, ai sc, ai pu])]) := by
  refine ct_V RX5 [(0, ar h), (1, ar fro)] (by decide) rfl (Nat.le_of_ble_eq_true rfl) rfl (fun x hgS hnm hro hret => ?_)
  subst hgS
  have r0 := hro _ (mem_at 0 rfl)
  show V x cX5_copyFrom RX5 2 (rmU 0 0 0 0) [(h, co 2 [ar ta, ai kd, ai z1, ai z2, ai z3, ai z4, ai z5, ai z6, ai z7])] 0 [(0, ar h), (1, ar fro)] [] 0 0
  refine v_aload_n (pc := 0) 0 rfl dX5_copyFrom_0 ?_
  refine v_aload_n (pc := 1) 1 rfl dX5_copyFrom_1 ?_
  refine v_get (pc := 2) (v := ai num) 2 (Or.inl r0) fl_5_48_2 rfl dX5_copyFrom_2 ?_
  refine v_put (pc := 5) 2 0 rfl fl_5_48_2 ck_2 ft_2_2 (okV_i _) (Nat.le_of_ble_eq_true rfl) (ws2 := [(h, co 2 [ar ta, ai kd, ai num, ai z2, ai z3, ai z4, ai z5, ai z6, ai z7])]) rfl dX5_copyFrom_5 ?_
  refine v_aload_n (pc := 8) 0 rfl dX5_copyFrom_8 ?_
  refine v_aload_n (pc := 9) 1 rfl dX5_copyFrom_9 ?_
  refine v_get (pc := 10) (v := ai pv) 3 (Or.inl r0) fl_5_51_2 rfl dX5_copyFrom_10 ?_
  refine v_put (pc := 13) 3 0 rfl fl_5_51_2 ck_2 ft_2_3 (okV_i _) (Nat.le_of_ble_eq_true rfl) (ws2 := [(h, co 2 [ar ta, ai kd, ai num, ai pv, ai z3, ai z4, ai z5, ai z6, ai z7])]) rfl dX5_copyFrom_13 ?_
  refine v_aload_n (pc := 16) 0 rfl dX5_copyFrom_16 ?_
  refine v_aload_n (pc := 17) 1 rfl dX5_copyFrom_17 ?_
  refine v_get (pc := 18) (v := ai sk) 4 (Or.inl r0) fl_5_54_2 rfl dX5_copyFrom_18 ?_
  refine v_put (pc := 21) 4 0 rfl fl_5_54_2 ck_2 ft_2_4 (okV_i _) (Nat.le_of_ble_eq_true rfl) (ws2 := [(h, co 2 [ar ta, ai kd, ai num, ai pv, ai sk, ai z4, ai z5, ai z6, ai z7])]) rfl dX5_copyFrom_21 ?_
  refine v_aload_n (pc := 24) 0 rfl dX5_copyFrom_24 ?_
  refine v_aload_n (pc := 25) 1 rfl dX5_copyFrom_25 ?_
  refine v_get (pc := 26) (v := ai hn) 5 (Or.inl r0) fl_5_57_2 rfl dX5_copyFrom_26 ?_
  refine v_put (pc := 29) 5 0 rfl fl_5_57_2 ck_2 ft_2_5 (okV_i _) (Nat.le_of_ble_eq_true rfl) (ws2 := [(h, co 2 [ar ta, ai kd, ai num, ai pv, ai sk, ai hn, ai z5, ai z6, ai z7])]) rfl dX5_copyFrom_29 ?_
  refine v_aload_n (pc := 32) 0 rfl dX5_copyFrom_32 ?_
  refine v_aload_n (pc := 33) 1 rfl dX5_copyFrom_33 ?_
  refine v_get (pc := 34) (v := ai gl) 6 (Or.inl r0) fl_5_60_2 rfl dX5_copyFrom_34 ?_
  refine v_put (pc := 37) 6 0 rfl fl_5_60_2 ck_2 ft_2_6 (okV_i _) (Nat.le_of_ble_eq_true rfl) (ws2 := [(h, co 2 [ar ta, ai kd, ai num, ai pv, ai sk, ai hn, ai gl, ai z6, ai z7])]) rfl dX5_copyFrom_37 ?_
  refine v_aload_n (pc := 40) 0 rfl dX5_copyFrom_40 ?_
  refine v_aload_n (pc := 41) 1 rfl dX5_copyFrom_41 ?_
  refine v_get (pc := 42) (v := ai sc) 7 (Or.inl r0) fl_5_63_2 rfl dX5_copyFrom_42 ?_
  refine v_put (pc := 45) 7 0 rfl fl_5_63_2 ck_2 ft_2_7 (okV_i _) (Nat.le_of_ble_eq_true rfl) (ws2 := [(h, co 2 [ar ta, ai kd, ai num, ai pv, ai sk, ai hn, ai gl, ai sc, ai z7])]) rfl dX5_copyFrom_45 ?_
  refine v_aload_n (pc := 48) 0 rfl dX5_copyFrom_48 ?_
  refine v_aload_n (pc := 49) 1 rfl dX5_copyFrom_49 ?_
  refine v_get (pc := 50) (v := ai pu) 8 (Or.inl r0) fl_5_66_2 rfl dX5_copyFrom_50 ?_
  refine v_put (pc := 53) 8 0 rfl fl_5_66_2 ck_2 ft_2_8 (okV_i _) (Nat.le_of_ble_eq_true rfl) (ws2 := [(h, co 2 [ar ta, ai kd, ai num, ai pv, ai sk, ai hn, ai gl, ai sc, ai pu])]) rfl dX5_copyFrom_53 ?_
  exact hret () _ _ _ _ _ trivial rfl rfl (Nat.le_of_ble_eq_true rfl) (Nat.le_of_ble_eq_true rfl) dX5_copyFrom_56
set_option maxHeartbeats 4000000 in
set_option maxRecDepth 100000 in
theorem c_X5_copyFrom_k9 {gS : sG} (h : Nat) (ta : Nat) (fro : Nat) (ta2 : Nat) (kd : Int) (kd2 : Int) (num : Int) (pv : Int) (sk : Int) (hn : Int) (gl : Int) (sc : Int) (pu : Int) (z1 : Int) (z2 : Int) (z3 : Int) (z4 : Int) (z5 : Int) (z6 : Int) (z7 : Int) (tu : Nat) (tu2 : Nat) : Ct gS (S := Unit) yX5_copyFrom cX5_copyFrom 2 none 0 0 0 0 [ar h, ar fro] [(h, co 9 [ar ta, ai kd, ai z1, ai z2, ai z3, ai z4, ai z5, ai z6, ai z7, ar tu])] (fun q => q ∈ ([(fro, co 9 [ar ta2, ai kd2, ai num, ai pv, ai sk, ai hn, ai gl, ai sc, ai pu, ar tu2])] : aW)) (fun _ => True) (fun _ => none) (fun _ => [(h, co 9 [ar ta, ai kd, ai num, ai pv, ai sk, ai hn, ai gl, ai sc, ai pu, ar tu])]) := by
  refine ct_V RX5 [(0, ar h), (1, ar fro)] (by decide) rfl (Nat.le_of_ble_eq_true rfl) rfl (fun x hgS hnm hro hret => ?_)
  subst hgS
  have r0 := hro _ (mem_at 0 rfl)
  show V x cX5_copyFrom RX5 2 (rmU 0 0 0 0) [(h, co 9 [ar ta, ai kd, ai z1, ai z2, ai z3, ai z4, ai z5, ai z6, ai z7, ar tu])] 0 [(0, ar h), (1, ar fro)] [] 0 0
  refine v_aload_n (pc := 0) 0 rfl dX5_copyFrom_0 ?_
  refine v_aload_n (pc := 1) 1 rfl dX5_copyFrom_1 ?_
  refine v_get (pc := 2) (v := ai num) 2 (Or.inl r0) fl_5_48_9 rfl dX5_copyFrom_2 ?_
  refine v_put (pc := 5) 2 0 rfl fl_5_48_9 ck_9 ft_9_2 (okV_i _) (Nat.le_of_ble_eq_true rfl) (ws2 := [(h, co 9 [ar ta, ai kd, ai num, ai z2, ai z3, ai z4, ai z5, ai z6, ai z7, ar tu])]) rfl dX5_copyFrom_5 ?_
  refine v_aload_n (pc := 8) 0 rfl dX5_copyFrom_8 ?_
  refine v_aload_n (pc := 9) 1 rfl dX5_copyFrom_9 ?_
  refine v_get (pc := 10) (v := ai pv) 3 (Or.inl r0) fl_5_51_9 rfl dX5_copyFrom_10 ?_
  refine v_put (pc := 13) 3 0 rfl fl_5_51_9 ck_9 ft_9_3 (okV_i _) (Nat.le_of_ble_eq_true rfl) (ws2 := [(h, co 9 [ar ta, ai kd, ai num, ai pv, ai z3, ai z4, ai z5, ai z6, ai z7, ar tu])]) rfl dX5_copyFrom_13 ?_
  refine v_aload_n (pc := 16) 0 rfl dX5_copyFrom_16 ?_
  refine v_aload_n (pc := 17) 1 rfl dX5_copyFrom_17 ?_
  refine v_get (pc := 18) (v := ai sk) 4 (Or.inl r0) fl_5_54_9 rfl dX5_copyFrom_18 ?_
  refine v_put (pc := 21) 4 0 rfl fl_5_54_9 ck_9 ft_9_4 (okV_i _) (Nat.le_of_ble_eq_true rfl) (ws2 := [(h, co 9 [ar ta, ai kd, ai num, ai pv, ai sk, ai z4, ai z5, ai z6, ai z7, ar tu])]) rfl dX5_copyFrom_21 ?_
  refine v_aload_n (pc := 24) 0 rfl dX5_copyFrom_24 ?_
  refine v_aload_n (pc := 25) 1 rfl dX5_copyFrom_25 ?_
  refine v_get (pc := 26) (v := ai hn) 5 (Or.inl r0) fl_5_57_9 rfl dX5_copyFrom_26 ?_
  refine v_put (pc := 29) 5 0 rfl fl_5_57_9 ck_9 ft_9_5 (okV_i _) (Nat.le_of_ble_eq_true rfl) (ws2 := [(h, co 9 [ar ta, ai kd, ai num, ai pv, ai sk, ai hn, ai z5, ai z6, ai z7, ar tu])]) rfl dX5_copyFrom_29 ?_
  refine v_aload_n (pc := 32) 0 rfl dX5_copyFrom_32 ?_
  refine v_aload_n (pc := 33) 1 rfl dX5_copyFrom_33 ?_
  refine v_get (pc := 34) (v := ai gl) 6 (Or.inl r0) fl_5_60_9 rfl dX5_copyFrom_34 ?_
  refine v_put (pc := 37) 6 0 rfl fl_5_60_9 ck_9 ft_9_6 (okV_i _) (Nat.le_of_ble_eq_true rfl) (ws2 := [(h, co 9 [ar ta, ai kd, ai num, ai pv, ai sk, ai hn, ai gl, ai z6, ai z7, ar tu])]) rfl dX5_copyFrom_37 ?_
  refine v_aload_n (pc := 40) 0 rfl dX5_copyFrom_40 ?_
  refine v_aload_n (pc := 41) 1 rfl dX5_copyFrom_41 ?_
  refine v_get (pc := 42) (v := ai sc) 7 (Or.inl r0) fl_5_63_9 rfl dX5_copyFrom_42 ?_
  refine v_put (pc := 45) 7 0 rfl fl_5_63_9 ck_9 ft_9_7 (okV_i _) (Nat.le_of_ble_eq_true rfl) (ws2 := [(h, co 9 [ar ta, ai kd, ai num, ai pv, ai sk, ai hn, ai gl, ai sc, ai z7, ar tu])]) rfl dX5_copyFrom_45 ?_
  refine v_aload_n (pc := 48) 0 rfl dX5_copyFrom_48 ?_
  refine v_aload_n (pc := 49) 1 rfl dX5_copyFrom_49 ?_
  refine v_get (pc := 50) (v := ai pu) 8 (Or.inl r0) fl_5_66_9 rfl dX5_copyFrom_50 ?_
  refine v_put (pc := 53) 8 0 rfl fl_5_66_9 ck_9 ft_9_8 (okV_i _) (Nat.le_of_ble_eq_true rfl) (ws2 := [(h, co 9 [ar ta, ai kd, ai num, ai pv, ai sk, ai hn, ai gl, ai sc, ai pu, ar tu])]) rfl dX5_copyFrom_53 ?_
  exact hret () _ _ _ _ _ trivial rfl rfl (Nat.le_of_ble_eq_true rfl) (Nat.le_of_ble_eq_true rfl) dX5_copyFrom_56
