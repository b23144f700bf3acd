set_option maxHeartbeats 4000000 in
set_option maxRecDepth 100000 in
theorem c_X5_lean_k5 {gS : sG} (h : Nat) (ta : Nat) (kd : Int) (num : Int) (pv : Int) (sk : Int) (hn : Int) (gl : Int) (sc : Int) (pu : Int) (tt : Int) : Ct gS (S := Unit) yX5_lean cX5_lean 2 (some .int) 0 0 0 0 [ar h, ai tt] [] (fun q => q ∈ ([(h, co 5 [ar ta, ai kd, ai num, ai pv, ai sk, ai hn, ai gl, ai sc, ai pu])] : aW)) (fun _ => True) (fun _ => some (ai 0)) (fun _ => []) := by
  refine ct_I RX5 [(0, ar h), (1, ai tt)] (by decide) rfl (Nat.le_of_ble_eq_true rfl) rfl (fun x hgS hro hret => ?_)
  subst hgS
  have r0 := hro _ (mem_at 0 rfl)
  show V x cX5_lean RX5 2 (rmU 0 0 0 0) [] 0 [(0, ar h), (1, ai tt)] [] 0 0
  refine v_iconst (pc := 0) dX5_lean_0 ?_
  exact hret () _ _ _ _ _ _ trivial (congrArg (fun z => some (ai z)) (by rfl)) rfl (Nat.le_of_ble_eq_true rfl) (Nat.le_of_ble_eq_true rfl) dX5_lean_1
set_option maxHeartbeats 4000000 in
set_option maxRecDepth 100000 in
theorem c_X5_unsureBy_k5 {gS : sG} (h : Nat) (ta : Nat) (kd : Int) (num : Int) (pv : Int) (sk : Int) (hn : Int) (gl : Int) (sc : Int) (pu : Int) (s1 : Int) (g1 : Int) (hsk : 0 ≤ s1 ∧ s1 ≤ 40) (hgl : 0 ≤ g1 ∧ g1 ≤ 40) : Ct gS (S := Unit) yX5_unsureBy cX5_unsureBy 4 (some .int) 0 0 0 0 [ar h, ai s1, ai g1] [] (fun q => q ∈ ([(h, co 5 [ar ta, ai kd, ai num, ai pv, ai sk, ai hn, ai gl, ai sc, ai pu])] : aW)) (fun _ => True) (fun _ => some (ai (kUns s1 g1))) (fun _ => []) := by
  refine ct_I RX5 [(0, ar h), (1, ai s1), (2, ai g1)] (by decide) rfl (Nat.le_of_ble_eq_true rfl) rfl (fun x hgS hro hret => ?_)
  subst hgS
  have r0 := hro _ (mem_at 0 rfl)
  show V x cX5_unsureBy RX5 4 (rmU 0 0 0 0) [] 0 [(0, ar h), (1, ai s1), (2, ai g1)] [] 0 0
  refine v_iconst (pc := 0) dX5_unsureBy_0 ?_
  refine v_iload_n (pc := 1) 2 rfl dX5_unsureBy_1 ?_
  refine v_iadd (pc := 2) dX5_unsureBy_2 ?_
  refine v_iload_n (pc := 3) 1 rfl dX5_unsureBy_3 ?_
  refine v_iconst (pc := 4) dX5_unsureBy_4 ?_
  refine v_idiv (pc := 5) (by omega) (by omega) (by unfold iB; omega) (by unfold iB; omega) dX5_unsureBy_5 ?_
  refine v_isub (pc := 6) dX5_unsureBy_6 ?_
  refine v_istore_n (pc := 7) (L2 := [(3, ai ((3 + g1) - (s1 / 4))), (0, ar h), (1, ai s1), (2, ai g1)]) rfl (by decide) dX5_unsureBy_7 ?_
  refine v_iload_n (pc := 8) 0 rfl dX5_unsureBy_8 ?_
  refine v_if_ge (pc := 9) 16 dX5_unsureBy_9 (by decide) (by unfold iB; omega) (fun c_1 => ?_) (fun c_1 => ?_)
  · skip
    refine v_iload_n (pc := 16) 0 rfl dX5_unsureBy_16 ?_
    exact hret () _ _ _ _ _ _ trivial (congrArg (fun z => some (ai z)) (by unfold kUns; split <;> omega)) rfl (Nat.le_of_ble_eq_true rfl) (Nat.le_of_ble_eq_true rfl) dX5_unsureBy_17
  · skip
    refine v_iconst (pc := 12) dX5_unsureBy_12 ?_
    refine v_goto (pc := 13) 17 dX5_unsureBy_13 (by decide) ?_
    exact hret () _ _ _ _ _ _ trivial (congrArg (fun z => some (ai z)) (by unfold kUns; split <;> omega)) rfl (Nat.le_of_ble_eq_true rfl) (Nat.le_of_ble_eq_true rfl) dX5_unsureBy_17
set_option maxHeartbeats 4000000 in
set_option maxRecDepth 100000 in
theorem c_X5_hasTried_k5 {gS : sG} (h : Nat) (ta : Nat) (kd : Int) (num : Int) (pv : Int) (sk : Int) (hn : Int) (gl : Int) (sc : Int) (pu : Int) (ma : Int) (ca : Int) (py : Int) (hma : 0 ≤ ma ∧ ma ≤ 99) (hca : 0 ≤ ca ∧ ca ≤ ma) (hpy : 0 ≤ py ∧ py ≤ 99) (hsc : 0 ≤ sc ∧ sc ≤ 99) (hskk : 0 ≤ sk ∧ sk ≤ 20) (hpu : 0 ≤ pu ∧ pu ≤ 9999) : Ct gS (S := Unit) yX5_hasTried cX5_hasTried 4 none 1 32 0 0 [ar h, ai ma, ai ca, ai py] [(h, co 5 [ar ta, ai kd, ai num, ai pv, ai sk, ai hn, ai gl, ai sc, ai pu])] (fun q => q ∈ ([] : aW)) (fun _ => True) (fun _ => none) (fun _ => [(h, co 5 [ar ta, ai kd, ai num, ai pv, ai (if ca = ma ∧ (-5 ≤ sc - ma ∧ sc - ma ≤ 5) then (if sk + 1 < 20 then sk + 1 else 20) else sk), ai hn, ai gl, ai (if ca = ma then (if sc < ma then ma else sc) else sc), ai (if 0 < pu - py * (ma - ca) then pu - py * (ma - ca) else 0)])]) := by
  refine ct_V RX5 [(0, ar h), (1, ai ma), (2, ai ca), (3, ai py)] (by decide) rfl (Nat.le_of_ble_eq_true rfl) rfl (fun x hgS hnm hro hret => ?_)
  subst hgS
  have hab : kAbs (sc - ma) ≤ 5 ↔ (-5 ≤ sc - ma ∧ sc - ma ≤ 5) := by unfold kAbs; split <;> omega
  have hab2 : 0 ≤ kAbs (sc - ma) ∧ kAbs (sc - ma) ≤ 200 := by unfold kAbs; split <;> omega
  have hmul : 0 ≤ py * (ma - ca) ∧ py * (ma - ca) ≤ 99 * 99 := ⟨Int.mul_nonneg hpy.1 (by omega), Int.mul_le_mul hpy.2 (by omega) (by omega) (by decide)⟩
  show V x cX5_hasTried RX5 4 (rmU 1 32 0 0) [(h, co 5 [ar ta, ai kd, ai num, ai pv, ai sk, ai hn, ai gl, ai sc, ai pu])] 0 [(0, ar h), (1, ai ma), (2, ai ca), (3, ai py)] [] 0 0
  refine v_iload_n (pc := 0) 2 rfl dX5_hasTried_0 ?_
  refine v_iload_n (pc := 1) 1 rfl dX5_hasTried_1 ?_
  refine v_icmp_ne (pc := 2) 45 dX5_hasTried_2 (by decide) (by unfold iB; omega) (by unfold iB; omega) (fun c_1 => ?_) (fun c_1 => ?_)
  · skip
    refine v_aload_n (pc := 45) 0 rfl dX5_hasTried_45 ?_
    refine v_iconst (pc := 46) dX5_hasTried_46 ?_
    refine v_aload_n (pc := 47) 0 rfl dX5_hasTried_47 ?_
    refine v_get (pc := 48) (v := ai pu) 8 (Or.inr ⟨0, rfl⟩) fl_5_66_5 rfl dX5_hasTried_48 ?_
    refine v_iload_n (pc := 51) 3 rfl dX5_hasTried_51 ?_
    refine v_iload_n (pc := 52) 1 rfl dX5_hasTried_52 ?_
    refine v_iload_n (pc := 53) 2 rfl dX5_hasTried_53 ?_
    refine v_isub (pc := 54) dX5_hasTried_54 ?_
    refine v_imul (pc := 55) dX5_hasTried_55 ?_
    refine v_isub (pc := 56) dX5_hasTried_56 ?_
    refine v_callS (pc := 57) [] [0] [(h, co 5 [ar ta, ai kd, ai num, ai pv, ai sk, ai hn, ai gl, ai sc, ai pu])] (As := [ai 0, ai (pu - (py * (ma - ca)))]) (rest := [ar h]) (c_J9_max_7cf53 0 (pu - (py * (ma - ca))) (by first | omega | assumption) (by first | omega | assumption)) wl_X5_79 ws_J9_max_7cf53 wk_J9_max_7cf53 wz_J9 md_J9_max_7cf53 rfl (Nat.le_of_ble_eq_true rfl) ⟨Nat.le_of_ble_eq_true rfl, Nat.le_of_ble_eq_true rfl, Nat.le_of_ble_eq_true rfl, Nat.le_of_ble_eq_true rfl⟩ rfl rfl rfl rfl (by decide) ro_nil dX5_hasTried_57 (fun u hu => ?_)
    show V x cX5_hasTried RX5 4 (rmU 1 32 0 0) [(h, co 5 [ar ta, ai kd, ai num, ai pv, ai sk, ai hn, ai gl, ai sc, ai pu])] 60 [(0, ar h), (1, ai ma), (2, ai ca), (3, ai py)] [ai (if 0 < (pu - (py * (ma - ca))) then (pu - (py * (ma - ca))) else 0), ar h] 0 0
    refine v_put (pc := 60) 8 0 rfl fl_5_66_5 ck_5 ft_5_8 (okV_i _) (Nat.le_of_ble_eq_true rfl) (ws2 := [(h, co 5 [ar ta, ai kd, ai num, ai pv, ai sk, ai hn, ai gl, ai sc, ai (if 0 < (pu - (py * (ma - ca))) then (pu - (py * (ma - ca))) else 0)])]) rfl dX5_hasTried_60 ?_
    refine v_ws (ws2 := [(h, co 5 [ar ta, ai kd, ai num, ai pv, ai (if ca = ma ∧ (-5 ≤ sc - ma ∧ sc - ma ≤ 5) then (if sk + 1 < 20 then sk + 1 else 20) else sk), ai hn, ai gl, ai (if ca = ma then (if sc < ma then ma else sc) else sc), ai (if 0 < pu - py * (ma - ca) then pu - py * (ma - ca) else 0)])]) (by rw [show (if ca = ma ∧ (-5 ≤ sc - ma ∧ sc - ma ≤ 5) then (if sk + 1 < 20 then sk + 1 else 20) else sk) = sk by first | (rw [if_pos (by omega)]; done) | (rw [if_neg (by omega)]; done), show (if ca = ma then (if sc < ma then ma else sc) else sc) = sc by first | (rw [if_pos (by omega)]; done) | (rw [if_neg (by omega)]; done)]) ?_
    exact hret () _ _ _ _ _ trivial rfl rfl (Nat.le_of_ble_eq_true rfl) (Nat.le_of_ble_eq_true rfl) dX5_hasTried_63
  · skip
    refine v_aload_n (pc := 5) 0 rfl dX5_hasTried_5 ?_
    refine v_get (pc := 6) (v := ai sc) 7 (Or.inr ⟨0, rfl⟩) fl_5_63_5 rfl dX5_hasTried_6 ?_
    refine v_iload_n (pc := 9) 1 rfl dX5_hasTried_9 ?_
    refine v_isub (pc := 10) dX5_hasTried_10 ?_
    refine v_callS (pc := 11) [] [0] [(h, co 5 [ar ta, ai kd, ai num, ai pv, ai sk, ai hn, ai gl, ai sc, ai pu])] (As := [ai (sc - ma)]) (rest := []) (c_J9_abs_0f7a4 (sc - ma) (by first | omega | assumption)) wl_X5_69 ws_J9_abs_0f7a4 wk_J9_abs_0f7a4 wz_J9 md_J9_abs_0f7a4 rfl (Nat.le_of_ble_eq_true rfl) ⟨Nat.le_of_ble_eq_true rfl, Nat.le_of_ble_eq_true rfl, Nat.le_of_ble_eq_true rfl, Nat.le_of_ble_eq_true rfl⟩ rfl rfl rfl rfl (by decide) ro_nil dX5_hasTried_11 (fun u hu => ?_)
    show V x cX5_hasTried RX5 4 (rmU 1 32 0 0) [(h, co 5 [ar ta, ai kd, ai num, ai pv, ai sk, ai hn, ai gl, ai sc, ai pu])] 14 [(0, ar h), (1, ai ma), (2, ai ca), (3, ai py)] [ai (kAbs (sc - ma))] 0 0
    refine v_iconst (pc := 14) dX5_hasTried_14 ?_
    refine v_icmp_gt (pc := 15) 33 dX5_hasTried_15 (by decide) (by unfold iB; omega) (by unfold iB; omega) (fun c_2 => ?_) (fun c_2 => ?_)
    · skip
      refine v_aload_n (pc := 33) 0 rfl dX5_hasTried_33 ?_
      refine v_aload_n (pc := 34) 0 rfl dX5_hasTried_34 ?_
      refine v_get (pc := 35) (v := ai sc) 7 (Or.inr ⟨0, rfl⟩) fl_5_63_5 rfl dX5_hasTried_35 ?_
      refine v_iload_n (pc := 38) 1 rfl dX5_hasTried_38 ?_
      refine v_callS (pc := 39) [] [0] [(h, co 5 [ar ta, ai kd, ai num, ai pv, ai sk, ai hn, ai gl, ai sc, ai pu])] (As := [ai sc, ai ma]) (rest := [ar h]) (c_J9_max_7cf53 sc ma (by first | omega | assumption) (by first | omega | assumption)) wl_X5_79 ws_J9_max_7cf53 wk_J9_max_7cf53 wz_J9 md_J9_max_7cf53 rfl (Nat.le_of_ble_eq_true rfl) ⟨Nat.le_of_ble_eq_true rfl, Nat.le_of_ble_eq_true rfl, Nat.le_of_ble_eq_true rfl, Nat.le_of_ble_eq_true rfl⟩ rfl rfl rfl rfl (by decide) ro_nil dX5_hasTried_39 (fun u hu => ?_)
      show V x cX5_hasTried RX5 4 (rmU 1 32 0 0) [(h, co 5 [ar ta, ai kd, ai num, ai pv, ai sk, ai hn, ai gl, ai sc, ai pu])] 42 [(0, ar h), (1, ai ma), (2, ai ca), (3, ai py)] [ai (if sc < ma then ma else sc), ar h] 0 0
      refine v_put (pc := 42) 7 0 rfl fl_5_63_5 ck_5 ft_5_7 (okV_i _) (Nat.le_of_ble_eq_true rfl) (ws2 := [(h, co 5 [ar ta, ai kd, ai num, ai pv, ai sk, ai hn, ai gl, ai (if sc < ma then ma else sc), ai pu])]) rfl dX5_hasTried_42 ?_
      refine v_aload_n (pc := 45) 0 rfl dX5_hasTried_45 ?_
      refine v_iconst (pc := 46) dX5_hasTried_46 ?_
      refine v_aload_n (pc := 47) 0 rfl dX5_hasTried_47 ?_
      refine v_get (pc := 48) (v := ai pu) 8 (Or.inr ⟨0, rfl⟩) fl_5_66_5 rfl dX5_hasTried_48 ?_
      refine v_iload_n (pc := 51) 3 rfl dX5_hasTried_51 ?_
      refine v_iload_n (pc := 52) 1 rfl dX5_hasTried_52 ?_
      refine v_iload_n (pc := 53) 2 rfl dX5_hasTried_53 ?_
      refine v_isub (pc := 54) dX5_hasTried_54 ?_
      refine v_imul (pc := 55) dX5_hasTried_55 ?_
      refine v_isub (pc := 56) dX5_hasTried_56 ?_
      refine v_callS (pc := 57) [] [0] [(h, co 5 [ar ta, ai kd, ai num, ai pv, ai sk, ai hn, ai gl, ai (if sc < ma then ma else sc), ai pu])] (As := [ai 0, ai (pu - (py * (ma - ca)))]) (rest := [ar h]) (c_J9_max_7cf53 0 (pu - (py * (ma - ca))) (by first | omega | assumption) (by first | omega | assumption)) wl_X5_79 ws_J9_max_7cf53 wk_J9_max_7cf53 wz_J9 md_J9_max_7cf53 rfl (Nat.le_of_ble_eq_true rfl) ⟨Nat.le_of_ble_eq_true rfl, Nat.le_of_ble_eq_true rfl, Nat.le_of_ble_eq_true rfl, Nat.le_of_ble_eq_true rfl⟩ rfl rfl rfl rfl (by decide) ro_nil dX5_hasTried_57 (fun u hu => ?_)
      show V x cX5_hasTried RX5 4 (rmU 1 32 0 0) [(h, co 5 [ar ta, ai kd, ai num, ai pv, ai sk, ai hn, ai gl, ai (if sc < ma then ma else sc), ai pu])] 60 [(0, ar h), (1, ai ma), (2, ai ca), (3, ai py)] [ai (if 0 < (pu - (py * (ma - ca))) then (pu - (py * (ma - ca))) else 0), ar h] 0 0
      refine v_put (pc := 60) 8 0 rfl fl_5_66_5 ck_5 ft_5_8 (okV_i _) (Nat.le_of_ble_eq_true rfl) (ws2 := [(h, co 5 [ar ta, ai kd, ai num, ai pv, ai sk, ai hn, ai gl, ai (if sc < ma then ma else sc), ai (if 0 < (pu - (py * (ma - ca))) then (pu - (py * (ma - ca))) else 0)])]) rfl dX5_hasTried_60 ?_
      refine v_ws (ws2 := [(h, co 5 [ar ta, ai kd, ai num, ai pv, ai (if ca = ma ∧ (-5 ≤ sc - ma ∧ sc - ma ≤ 5) then (if sk + 1 < 20 then sk + 1 else 20) else sk), ai hn, ai gl, ai (if ca = ma then (if sc < ma then ma else sc) else sc), ai (if 0 < pu - py * (ma - ca) then pu - py * (ma - ca) else 0)])]) (by rw [show (if ca = ma ∧ (-5 ≤ sc - ma ∧ sc - ma ≤ 5) then (if sk + 1 < 20 then sk + 1 else 20) else sk) = sk by first | (rw [if_pos (by omega)]; done) | (rw [if_neg (by omega)]; done), show (if ca = ma then (if sc < ma then ma else sc) else sc) = (if sc < ma then ma else sc) by first | (rw [if_pos (by omega)]; done) | (rw [if_neg (by omega)]; done)]) ?_
      exact hret () _ _ _ _ _ trivial rfl rfl (Nat.le_of_ble_eq_true rfl) (Nat.le_of_ble_eq_true rfl) dX5_hasTried_63
    · skip
      refine v_aload_n (pc := 18) 0 rfl dX5_hasTried_18 ?_
      refine v_bipush (pc := 19) dX5_hasTried_19 (by decide) ?_
      refine v_aload_n (pc := 21) 0 rfl dX5_hasTried_21 ?_
      refine v_get (pc := 22) (v := ai sk) 4 (Or.inr ⟨0, rfl⟩) fl_5_54_5 rfl dX5_hasTried_22 ?_
      refine v_iconst (pc := 25) dX5_hasTried_25 ?_
      refine v_iadd (pc := 26) dX5_hasTried_26 ?_
      refine v_callS (pc := 27) [] [0] [(h, co 5 [ar ta, ai kd, ai num, ai pv, ai sk, ai hn, ai gl, ai sc, ai pu])] (As := [ai 20, ai (sk + 1)]) (rest := [ar h]) (c_J9_min_7cf53 20 (sk + 1) (by first | omega | assumption) (by first | omega | assumption)) wl_X5_75 ws_J9_min_7cf53 wk_J9_min_7cf53 wz_J9 md_J9_min_7cf53 rfl (Nat.le_of_ble_eq_true rfl) ⟨Nat.le_of_ble_eq_true rfl, Nat.le_of_ble_eq_true rfl, Nat.le_of_ble_eq_true rfl, Nat.le_of_ble_eq_true rfl⟩ rfl rfl rfl rfl (by decide) ro_nil dX5_hasTried_27 (fun u hu => ?_)
      show V x cX5_hasTried RX5 4 (rmU 1 32 0 0) [(h, co 5 [ar ta, ai kd, ai num, ai pv, ai sk, ai hn, ai gl, ai sc, ai pu])] 30 [(0, ar h), (1, ai ma), (2, ai ca), (3, ai py)] [ai (if (sk + 1) < 20 then (sk + 1) else 20), ar h] 0 0
      refine v_put (pc := 30) 4 0 rfl fl_5_54_5 ck_5 ft_5_4 (okV_i _) (Nat.le_of_ble_eq_true rfl) (ws2 := [(h, co 5 [ar ta, ai kd, ai num, ai pv, ai (if (sk + 1) < 20 then (sk + 1) else 20), ai hn, ai gl, ai sc, ai pu])]) rfl dX5_hasTried_30 ?_
      refine v_aload_n (pc := 33) 0 rfl dX5_hasTried_33 ?_
      refine v_aload_n (pc := 34) 0 rfl dX5_hasTried_34 ?_
      refine v_get (pc := 35) (v := ai sc) 7 (Or.inr ⟨0, rfl⟩) fl_5_63_5 rfl dX5_hasTried_35 ?_
      refine v_iload_n (pc := 38) 1 rfl dX5_hasTried_38 ?_
      refine v_callS (pc := 39) [] [0] [(h, co 5 [ar ta, ai kd, ai num, ai pv, ai (if (sk + 1) < 20 then (sk + 1) else 20), ai hn, ai gl, ai sc, ai pu])] (As := [ai sc, ai ma]) (rest := [ar h]) (c_J9_max_7cf53 sc ma (by first | omega | assumption) (by first | omega | assumption)) wl_X5_79 ws_J9_max_7cf53 wk_J9_max_7cf53 wz_J9 md_J9_max_7cf53 rfl (Nat.le_of_ble_eq_true rfl) ⟨Nat.le_of_ble_eq_true rfl, Nat.le_of_ble_eq_true rfl, Nat.le_of_ble_eq_true rfl, Nat.le_of_ble_eq_true rfl⟩ rfl rfl rfl rfl (by decide) ro_nil dX5_hasTried_39 (fun u hu => ?_)
      show V x cX5_hasTried RX5 4 (rmU 1 32 0 0) [(h, co 5 [ar ta, ai kd, ai num, ai pv, ai (if (sk + 1) < 20 then (sk + 1) else 20), ai hn, ai gl, ai sc, ai pu])] 42 [(0, ar h), (1, ai ma), (2, ai ca), (3, ai py)] [ai (if sc < ma then ma else sc), ar h] 0 0
      refine v_put (pc := 42) 7 0 rfl fl_5_63_5 ck_5 ft_5_7 (okV_i _) (Nat.le_of_ble_eq_true rfl) (ws2 := [(h, co 5 [ar ta, ai kd, ai num, ai pv, ai (if (sk + 1) < 20 then (sk + 1) else 20), ai hn, ai gl, ai (if sc < ma then ma else sc), ai pu])]) rfl dX5_hasTried_42 ?_
      refine v_aload_n (pc := 45) 0 rfl dX5_hasTried_45 ?_
      refine v_iconst (pc := 46) dX5_hasTried_46 ?_
      refine v_aload_n (pc := 47) 0 rfl dX5_hasTried_47 ?_
      refine v_get (pc := 48) (v := ai pu) 8 (Or.inr ⟨0, rfl⟩) fl_5_66_5 rfl dX5_hasTried_48 ?_
      refine v_iload_n (pc := 51) 3 rfl dX5_hasTried_51 ?_
      refine v_iload_n (pc := 52) 1 rfl dX5_hasTried_52 ?_
      refine v_iload_n (pc := 53) 2 rfl dX5_hasTried_53 ?_
      refine v_isub (pc := 54) dX5_hasTried_54 ?_
      refine v_imul (pc := 55) dX5_hasTried_55 ?_
      refine v_isub (pc := 56) dX5_hasTried_56 ?_
      refine v_callS (pc := 57) [] [0] [(h, co 5 [ar ta, ai kd, ai num, ai pv, ai (if (sk + 1) < 20 then (sk + 1) else 20), ai hn, ai gl, ai (if sc < ma then ma else sc), ai pu])] (As := [ai 0, ai (pu - (py * (ma - ca)))]) (rest := [ar h]) (c_J9_max_7cf53 0 (pu - (py * (ma - ca))) (by first | omega | assumption) (by first | omega | assumption)) wl_X5_79 ws_J9_max_7cf53 wk_J9_max_7cf53 wz_J9 md_J9_max_7cf53 rfl (Nat.le_of_ble_eq_true rfl) ⟨Nat.le_of_ble_eq_true rfl, Nat.le_of_ble_eq_true rfl, Nat.le_of_ble_eq_true rfl, Nat.le_of_ble_eq_true rfl⟩ rfl rfl rfl rfl (by decide) ro_nil dX5_hasTried_57 (fun u hu => ?_)
      show V x cX5_hasTried RX5 4 (rmU 1 32 0 0) [(h, co 5 [ar ta, ai kd, ai num, ai pv, ai (if (sk + 1) < 20 then (sk + 1) else 20), ai hn, ai gl, ai (if sc < ma then ma else sc), ai pu])] 60 [(0, ar h), (1, ai ma), (2, ai ca), (3, ai py)] [ai (if 0 < (pu - (py * (ma - ca))) then (pu - (py * (ma - ca))) else 0), ar h] 0 0
      refine v_put (pc := 60) 8 0 rfl fl_5_66_5 ck_5 ft_5_8 (okV_i _) (Nat.le_of_ble_eq_true rfl) (ws2 := [(h, co 5 [ar ta, ai kd, ai num, ai pv, ai (if (sk + 1) < 20 then (sk + 1) else 20), ai hn, ai gl, ai (if sc < ma then ma else sc), ai (if 0 < (pu - (py * (ma - ca))) then (pu - (py * (ma - ca))) else 0)])]) rfl dX5_hasTried_60 ?_
      refine v_ws (ws2 := [(h, co 5 [ar ta, ai kd, ai num, ai pv, ai (if ca = ma ∧ (-5 ≤ sc - ma ∧ sc - ma ≤ 5) then (if sk + 1 < 20 then sk + 1 else 20) else sk), ai hn, ai gl, ai (if ca = ma then (if sc < ma then ma else sc) else sc), ai (if 0 < pu - py * (ma - ca) then pu - py * (ma - ca) else 0)])]) (by rw [show (if ca = ma ∧ (-5 ≤ sc - ma ∧ sc - ma ≤ 5) then (if sk + 1 < 20 then sk + 1 else 20) else sk) = (if (sk + 1) < 20 then (sk + 1) else 20) by first | (rw [if_pos (by omega)]; done) | (rw [if_neg (by omega)]; done), show (if ca = ma then (if sc < ma then ma else sc) else sc) = (if sc < ma then ma else sc) by first | (rw [if_pos (by omega)]; done) | (rw [if_neg (by omega)]; done)]) ?_
      exact hret () _ _ _ _ _ trivial rfl rfl (Nat.le_of_ble_eq_true rfl) (Nat.le_of_ble_eq_true rfl) dX5_hasTried_63
set_option maxHeartbeats 4000000 in
set_option maxRecDepth 100000 in
theorem c_X5_lean_k8 {gS : sG} (h : Nat) (ta : Nat) (kd : Int) (num : Int) (pv : Int) (sk : Int) (hn : Int) (gl : Int) (sc : Int) (pu : Int) (tt : Int) : Ct gS (S := Unit) yX5_lean cX5_lean 2 (some .int) 0 0 0 0 [ar h, ai tt] [] (fun q => q ∈ ([(h, co 8 [ar ta, ai kd, ai num, ai pv, ai sk, ai hn, ai gl, ai sc, ai pu])] : aW)) (fun _ => True) (fun _ => some (ai 0)) (fun _ => []) := by
  refine ct_I RX5 [(0, ar h), (1, ai tt)] (by decide) rfl (Nat.le_of_ble_eq_true rfl) rfl (fun x hgS hro hret => ?_)
  subst hgS
  have r0 := hro _ (mem_at 0 rfl)
  show V x cX5_lean RX5 2 (rmU 0 0 0 0) [] 0 [(0, ar h), (1, ai tt)] [] 0 0
  refine v_iconst (pc := 0) dX5_lean_0 ?_
  exact hret () _ _ _ _ _ _ trivial (congrArg (fun z => some (ai z)) (by rfl)) rfl (Nat.le_of_ble_eq_true rfl) (Nat.le_of_ble_eq_true rfl) dX5_lean_1
set_option maxHeartbeats 4000000 in
set_option maxRecDepth 100000 in
theorem c_X5_unsureBy_k8 {gS : sG} (h : Nat) (ta : Nat) (kd : Int) (num : Int) (pv : Int) (sk : Int) (hn : Int) (gl : Int) (sc : Int) (pu : Int) (s1 : Int) (g1 : Int) (hsk : 0 ≤ s1 ∧ s1 ≤ 40) (hgl : 0 ≤ g1 ∧ g1 ≤ 40) : Ct gS (S := Unit) yX5_unsureBy cX5_unsureBy 4 (some .int) 0 0 0 0 [ar h, ai s1, ai g1] [] (fun q => q ∈ ([(h, co 8 [ar ta, ai kd, ai num, ai pv, ai sk, ai hn, ai gl, ai sc, ai pu])] : aW)) (fun _ => True) (fun _ => some (ai (kUns s1 g1))) (fun _ => []) := by
  refine ct_I RX5 [(0, ar h), (1, ai s1), (2, ai g1)] (by decide) rfl (Nat.le_of_ble_eq_true rfl) rfl (fun x hgS hro hret => ?_)
  subst hgS
  have r0 := hro _ (mem_at 0 rfl)
  show V x cX5_unsureBy RX5 4 (rmU 0 0 0 0) [] 0 [(0, ar h), (1, ai s1), (2, ai g1)] [] 0 0
  refine v_iconst (pc := 0) dX5_unsureBy_0 ?_
  refine v_iload_n (pc := 1) 2 rfl dX5_unsureBy_1 ?_
  refine v_iadd (pc := 2) dX5_unsureBy_2 ?_
  refine v_iload_n (pc := 3) 1 rfl dX5_unsureBy_3 ?_
  refine v_iconst (pc := 4) dX5_unsureBy_4 ?_
  refine v_idiv (pc := 5) (by omega) (by omega) (by unfold iB; omega) (by unfold iB; omega) dX5_unsureBy_5 ?_
  refine v_isub (pc := 6) dX5_unsureBy_6 ?_
  refine v_istore_n (pc := 7) (L2 := [(3, ai ((3 + g1) - (s1 / 4))), (0, ar h), (1, ai s1), (2, ai g1)]) rfl (by decide) dX5_unsureBy_7 ?_
  refine v_iload_n (pc := 8) 0 rfl dX5_unsureBy_8 ?_
  refine v_if_ge (pc := 9) 16 dX5_unsureBy_9 (by decide) (by unfold iB; omega) (fun c_1 => ?_) (fun c_1 => ?_)
  · skip
    refine v_iload_n (pc := 16) 0 rfl dX5_unsureBy_16 ?_
    exact hret () _ _ _ _ _ _ trivial (congrArg (fun z => some (ai z)) (by unfold kUns; split <;> omega)) rfl (Nat.le_of_ble_eq_true rfl) (Nat.le_of_ble_eq_true rfl) dX5_unsureBy_17
  · skip
    refine v_iconst (pc := 12) dX5_unsureBy_12 ?_
    refine v_goto (pc := 13) 17 dX5_unsureBy_13 (by decide) ?_
    exact hret () _ _ _ _ _ _ trivial (congrArg (fun z => some (ai z)) (by unfold kUns; split <;> omega)) rfl (Nat.le_of_ble_eq_true rfl) (Nat.le_of_ble_eq_true rfl) dX5_unsureBy_17
set_option maxHeartbeats 4000000 in
set_option maxRecDepth 100000 in
theorem c_X8_unsureBy_k8 {gS : sG} (h : Nat) (ta : Nat) (kd : Int) (num : Int) (pv : Int) (sk : Int) (hn : Int) (gl : Int) (sc : Int) (pu : Int) (s1 : Int) (g1 : Int) (hsk : 0 ≤ s1 ∧ s1 ≤ 40) (hgl : 0 ≤ g1 ∧ g1 ≤ 40) : Ct gS (S := Unit) yX8_unsureBy cX8_unsureBy 3 (some .int) 1 23 0 0 [ar h, ai s1, ai g1] [] (fun q => q ∈ ([(h, co 8 [ar ta, ai kd, ai num, ai pv, ai sk, ai hn, ai gl, ai sc, ai pu])] : aW)) (fun _ => True) (fun _ => some (ai (kUns s1 g1 / 2))) (fun _ => []) := by
  refine ct_I RX8 [(0, ar h), (1, ai s1), (2, ai g1)] (by decide) rfl (Nat.le_of_ble_eq_true rfl) rfl (fun x hgS hro hret => ?_)
  subst hgS
  have r0 := hro _ (mem_at 0 rfl)
  have hku : 0 ≤ kUns s1 g1 ∧ kUns s1 g1 ≤ 50 := by unfold kUns; split <;> omega
  show V x cX8_unsureBy RX8 3 (rmU 1 23 0 0) [] 0 [(0, ar h), (1, ai s1), (2, ai g1)] [] 0 0
  refine v_aload_n (pc := 0) 0 rfl dX8_unsureBy_0 ?_
  refine v_iload_n (pc := 1) 1 rfl dX8_unsureBy_1 ?_
  refine v_iload_n (pc := 2) 2 rfl dX8_unsureBy_2 ?_
  refine v_callSU (pc := 3) [] [] [] (z := yX5_unsureBy) (As := [ai s1, ai g1]) (rest := []) (c_X5_unsureBy_k8 h ta kd num pv sk hn gl sc pu s1 g1 (by first | omega | assumption) (by first | omega | assumption)) (c := 8) rfl wsc_8 (Or.inl r0) wl_X8_7 wsm_0 wsc_8 (Or.inl rfl) rfl wi_X5_unsureBy wk_X5_unsureBy wz_X5 mds_X5_unsureBy rfl (Nat.le_of_ble_eq_true rfl) ⟨Nat.le_of_ble_eq_true rfl, Nat.le_of_ble_eq_true rfl, Nat.le_of_ble_eq_true rfl, Nat.le_of_ble_eq_true rfl⟩ rfl rfl rfl rfl (by decide) (ro_cons (Or.inl r0) ro_nil) dX8_unsureBy_3 (fun u hu => ?_)
  show V x cX8_unsureBy RX8 3 (rmU 1 23 0 0) [] 6 [(0, ar h), (1, ai s1), (2, ai g1)] [ai (kUns s1 g1)] 0 0
  refine v_iconst (pc := 6) dX8_unsureBy_6 ?_
  refine v_idiv (pc := 7) (by omega) (by omega) (by unfold iB; omega) (by unfold iB; omega) dX8_unsureBy_7 ?_
  exact hret () _ _ _ _ _ _ trivial (congrArg (fun z => some (ai z)) (by rfl)) rfl (Nat.le_of_ble_eq_true rfl) (Nat.le_of_ble_eq_true rfl) dX8_unsureBy_8
set_option maxHeartbeats 4000000 in
set_option maxRecDepth 100000 in
theorem c_X5_hasTried_k8 {gS : sG} (h : Nat) (ta : Nat) (kd : Int) (num : Int) (pv : Int) (sk : Int) (hn : Int) (gl : Int) (sc : Int) (pu : Int) (ma : Int) (ca : Int) (py : Int) (hma : 0 ≤ ma ∧ ma ≤ 99) (hca : 0 ≤ ca ∧ ca ≤ ma) (hpy : 0 ≤ py ∧ py ≤ 99) (hsc : 0 ≤ sc ∧ sc ≤ 99) (hskk : 0 ≤ sk ∧ sk ≤ 20) (hpu : 0 ≤ pu ∧ pu ≤ 9999) : Ct gS (S := Unit) yX5_hasTried cX5_hasTried 4 none 1 32 0 0 [ar h, ai ma, ai ca, ai py] [(h, co 8 [ar ta, ai kd, ai num, ai pv, ai sk, ai hn, ai gl, ai sc, ai pu])] (fun q => q ∈ ([] : aW)) (fun _ => True) (fun _ => none) (fun _ => [(h, co 8 [ar ta, ai kd, ai num, ai pv, ai (if ca = ma ∧ (-5 ≤ sc - ma ∧ sc - ma ≤ 5) then (if sk + 1 < 20 then sk + 1 else 20) else sk), ai hn, ai gl, ai (if ca = ma then (if sc < ma then ma else sc) else sc), ai (if 0 < pu - py * (ma - ca) then pu - py * (ma - ca) else 0)])]) := by
  refine ct_V RX5 [(0, ar h), (1, ai ma), (2, ai ca), (3, ai py)] (by decide) rfl (Nat.le_of_ble_eq_true rfl) rfl (fun x hgS hnm hro hret => ?_)
  subst hgS
  have hab : kAbs (sc - ma) ≤ 5 ↔ (-5 ≤ sc - ma ∧ sc - ma ≤ 5) := by unfold kAbs; split <;> omega
  have hab2 : 0 ≤ kAbs (sc - ma) ∧ kAbs (sc - ma) ≤ 200 := by unfold kAbs; split <;> omega
  have hmul : 0 ≤ py * (ma - ca) ∧ py * (ma - ca) ≤ 99 * 99 := ⟨Int.mul_nonneg hpy.1 (by omega), Int.mul_le_mul hpy.2 (by omega) (by omega) (by decide)⟩
  show V x cX5_hasTried RX5 4 (rmU 1 32 0 0) [(h, co 8 [ar ta, ai kd, ai num, ai pv, ai sk, ai hn, ai gl, ai sc, ai pu])] 0 [(0, ar h), (1, ai ma), (2, ai ca), (3, ai py)] [] 0 0
  refine v_iload_n (pc := 0) 2 rfl dX5_hasTried_0 ?_
  refine v_iload_n (pc := 1) 1 rfl dX5_hasTried_1 ?_
  refine v_icmp_ne (pc := 2) 45 dX5_hasTried_2 (by decide) (by unfold iB; omega) (by unfold iB; omega) (fun c_1 => ?_) (fun c_1 => ?_)
  · skip
    refine v_aload_n (pc := 45) 0 rfl dX5_hasTried_45 ?_
    refine v_iconst (pc := 46) dX5_hasTried_46 ?_
    refine v_aload_n (pc := 47) 0 rfl dX5_hasTried_47 ?_
    refine v_get (pc := 48) (v := ai pu) 8 (Or.inr ⟨0, rfl⟩) fl_5_66_8 rfl dX5_hasTried_48 ?_
    refine v_iload_n (pc := 51) 3 rfl dX5_hasTried_51 ?_
    refine v_iload_n (pc := 52) 1 rfl dX5_hasTried_52 ?_
    refine v_iload_n (pc := 53) 2 rfl dX5_hasTried_53 ?_
    refine v_isub (pc := 54) dX5_hasTried_54 ?_
    refine v_imul (pc := 55) dX5_hasTried_55 ?_
    refine v_isub (pc := 56) dX5_hasTried_56 ?_
    refine v_callS (pc := 57) [] [0] [(h, co 8 [ar ta, ai kd, ai num, ai pv, ai sk, ai hn, ai gl, ai sc, ai pu])] (As := [ai 0, ai (pu - (py * (ma - ca)))]) (rest := [ar h]) (c_J9_max_7cf53 0 (pu - (py * (ma - ca))) (by first | omega | assumption) (by first | omega | assumption)) wl_X5_79 ws_J9_max_7cf53 wk_J9_max_7cf53 wz_J9 md_J9_max_7cf53 rfl (Nat.le_of_ble_eq_true rfl) ⟨Nat.le_of_ble_eq_true rfl, Nat.le_of_ble_eq_true rfl, Nat.le_of_ble_eq_true rfl, Nat.le_of_ble_eq_true rfl⟩ rfl rfl rfl rfl (by decide) ro_nil dX5_hasTried_57 (fun u hu => ?_)
    show V x cX5_hasTried RX5 4 (rmU 1 32 0 0) [(h, co 8 [ar ta, ai kd, ai num, ai pv, ai sk, ai hn, ai gl, ai sc, ai pu])] 60 [(0, ar h), (1, ai ma), (2, ai ca), (3, ai py)] [ai (if 0 < (pu - (py * (ma - ca))) then (pu - (py * (ma - ca))) else 0), ar h] 0 0
    refine v_put (pc := 60) 8 0 rfl fl_5_66_8 ck_8 ft_8_8 (okV_i _) (Nat.le_of_ble_eq_true rfl) (ws2 := [(h, co 8 [ar ta, ai kd, ai num, ai pv, ai sk, ai hn, ai gl, ai sc, ai (if 0 < (pu - (py * (ma - ca))) then (pu - (py * (ma - ca))) else 0)])]) rfl dX5_hasTried_60 ?_
    refine v_ws (ws2 := [(h, co 8 [ar ta, ai kd, ai num, ai pv, ai (if ca = ma ∧ (-5 ≤ sc - ma ∧ sc - ma ≤ 5) then (if sk + 1 < 20 then sk + 1 else 20) else sk), ai hn, ai gl, ai (if ca = ma then (if sc < ma then ma else sc) else sc), ai (if 0 < pu - py * (ma - ca) then pu - py * (ma - ca) else 0)])]) (by rw [show (if ca = ma ∧ (-5 ≤ sc - ma ∧ sc - ma ≤ 5) then (if sk + 1 < 20 then sk + 1 else 20) else sk) = sk by first | (rw [if_pos (by omega)]; done) | (rw [if_neg (by omega)]; done), show (if ca = ma then (if sc < ma then ma else sc) else sc) = sc by first | (rw [if_pos (by omega)]; done) | (rw [if_neg (by omega)]; done)]) ?_
    exact hret () _ _ _ _ _ trivial rfl rfl (Nat.le_of_ble_eq_true rfl) (Nat.le_of_ble_eq_true rfl) dX5_hasTried_63
  · skip
    refine v_aload_n (pc := 5) 0 rfl dX5_hasTried_5 ?_
    refine v_get (pc := 6) (v := ai sc) 7 (Or.inr ⟨0, rfl⟩) fl_5_63_8 rfl dX5_hasTried_6 ?_
    refine v_iload_n (pc := 9) 1 rfl dX5_hasTried_9 ?_
    refine v_isub (pc := 10) dX5_hasTried_10 ?_
    refine v_callS (pc := 11) [] [0] [(h, co 8 [ar ta, ai kd, ai num, ai pv, ai sk, ai hn, ai gl, ai sc, ai pu])] (As := [ai (sc - ma)]) (rest := []) (c_J9_abs_0f7a4 (sc - ma) (by first | omega | assumption)) wl_X5_69 ws_J9_abs_0f7a4 wk_J9_abs_0f7a4 wz_J9 md_J9_abs_0f7a4 rfl (Nat.le_of_ble_eq_true rfl) ⟨Nat.le_of_ble_eq_true rfl, Nat.le_of_ble_eq_true rfl, Nat.le_of_ble_eq_true rfl, Nat.le_of_ble_eq_true rfl⟩ rfl rfl rfl rfl (by decide) ro_nil dX5_hasTried_11 (fun u hu => ?_)
    show V x cX5_hasTried RX5 4 (rmU 1 32 0 0) [(h, co 8 [ar ta, ai kd, ai num, ai pv, ai sk, ai hn, ai gl, ai sc, ai pu])] 14 [(0, ar h), (1, ai ma), (2, ai ca), (3, ai py)] [ai (kAbs (sc - ma))] 0 0
    refine v_iconst (pc := 14) dX5_hasTried_14 ?_
    refine v_icmp_gt (pc := 15) 33 dX5_hasTried_15 (by decide) (by unfold iB; omega) (by unfold iB; omega) (fun c_2 => ?_) (fun c_2 => ?_)
    · skip
      refine v_aload_n (pc := 33) 0 rfl dX5_hasTried_33 ?_
      refine v_aload_n (pc := 34) 0 rfl dX5_hasTried_34 ?_
      refine v_get (pc := 35) (v := ai sc) 7 (Or.inr ⟨0, rfl⟩) fl_5_63_8 rfl dX5_hasTried_35 ?_
      refine v_iload_n (pc := 38) 1 rfl dX5_hasTried_38 ?_
      refine v_callS (pc := 39) [] [0] [(h, co 8 [ar ta, ai kd, ai num, ai pv, ai sk, ai hn, ai gl, ai sc, ai pu])] (As := [ai sc, ai ma]) (rest := [ar h]) (c_J9_max_7cf53 sc ma (by first | omega | assumption) (by first | omega | assumption)) wl_X5_79 ws_J9_max_7cf53 wk_J9_max_7cf53 wz_J9 md_J9_max_7cf53 rfl (Nat.le_of_ble_eq_true rfl) ⟨Nat.le_of_ble_eq_true rfl, Nat.le_of_ble_eq_true rfl, Nat.le_of_ble_eq_true rfl, Nat.le_of_ble_eq_true rfl⟩ rfl rfl rfl rfl (by decide) ro_nil dX5_hasTried_39 (fun u hu => ?_)
      show V x cX5_hasTried RX5 4 (rmU 1 32 0 0) [(h, co 8 [ar ta, ai kd, ai num, ai pv, ai sk, ai hn, ai gl, ai sc, ai pu])] 42 [(0, ar h), (1, ai ma), (2, ai ca), (3, ai py)] [ai (if sc < ma then ma else sc), ar h] 0 0
      refine v_put (pc := 42) 7 0 rfl fl_5_63_8 ck_8 ft_8_7 (okV_i _) (Nat.le_of_ble_eq_true rfl) (ws2 := [(h, co 8 [ar ta, ai kd, ai num, ai pv, ai sk, ai hn, ai gl, ai (if sc < ma then ma else sc), ai pu])]) rfl dX5_hasTried_42 ?_
      refine v_aload_n (pc := 45) 0 rfl dX5_hasTried_45 ?_
      refine v_iconst (pc := 46) dX5_hasTried_46 ?_
      refine v_aload_n (pc := 47) 0 rfl dX5_hasTried_47 ?_
      refine v_get (pc := 48) (v := ai pu) 8 (Or.inr ⟨0, rfl⟩) fl_5_66_8 rfl dX5_hasTried_48 ?_
      refine v_iload_n (pc := 51) 3 rfl dX5_hasTried_51 ?_
      refine v_iload_n (pc := 52) 1 rfl dX5_hasTried_52 ?_
      refine v_iload_n (pc := 53) 2 rfl dX5_hasTried_53 ?_
      refine v_isub (pc := 54) dX5_hasTried_54 ?_
      refine v_imul (pc := 55) dX5_hasTried_55 ?_
      refine v_isub (pc := 56) dX5_hasTried_56 ?_
      refine v_callS (pc := 57) [] [0] [(h, co 8 [ar ta, ai kd, ai num, ai pv, ai sk, ai hn, ai gl, ai (if sc < ma then ma else sc), ai pu])] (As := [ai 0, ai (pu - (py * (ma - ca)))]) (rest := [ar h]) (c_J9_max_7cf53 0 (pu - (py * (ma - ca))) (by first | omega | assumption) (by first | omega | assumption)) wl_X5_79 ws_J9_max_7cf53 wk_J9_max_7cf53 wz_J9 md_J9_max_7cf53 rfl (Nat.le_of_ble_eq_true rfl) ⟨Nat.le_of_ble_eq_true rfl, Nat.le_of_ble_eq_true rfl, Nat.le_of_ble_eq_true rfl, Nat.le_of_ble_eq_true rfl⟩ rfl rfl rfl rfl (by decide) ro_nil dX5_hasTried_57 (fun u hu => ?_)
      show V x cX5_hasTried RX5 4 (rmU 1 32 0 0) [(h, co 8 [ar ta, ai kd, ai num, ai pv, ai sk, ai hn, ai gl, ai (if sc < ma then ma else sc), ai pu])] 60 [(0, ar h), (1, ai ma), (2, ai ca), (3, ai py)] [ai (if 0 < (pu - (py * (ma - ca))) then (pu - (py * (ma - ca))) else 0), ar h] 0 0
      refine v_put (pc := 60) 8 0 rfl fl_5_66_8 ck_8 ft_8_8 (okV_i _) (Nat.le_of_ble_eq_true rfl) (ws2 := [(h, co 8 [ar ta, ai kd, ai num, ai pv, ai sk, ai hn, ai gl, ai (if sc < ma then ma else sc), ai (if 0 < (pu - (py * (ma - ca))) then (pu - (py * (ma - ca))) else 0)])]) rfl dX5_hasTried_60 ?_
      refine v_ws (ws2 := [(h, co 8 [ar ta, ai kd, ai num, ai pv, ai (if ca = ma ∧ (-5 ≤ sc - ma ∧ sc - ma ≤ 5) then (if sk + 1 < 20 then sk + 1 else 20) else sk), ai hn, ai gl, ai (if ca = ma then (if sc < ma then ma else sc) else sc), ai (if 0 < pu - py * (ma - ca) then pu - py * (ma - ca) else 0)])]) (by rw [show (if ca = ma ∧ (-5 ≤ sc - ma ∧ sc - ma ≤ 5) then (if sk + 1 < 20 then sk + 1 else 20) else sk) = sk by first | (rw [if_pos (by omega)]; done) | (rw [if_neg (by omega)]; done), show (if ca = ma then (if sc < ma then ma else sc) else sc) = (if sc < ma then ma else sc) by first | (rw [if_pos (by omega)]; done) | (rw [if_neg (by omega)]; done)]) ?_
      exact hret () _ _ _ _ _ trivial rfl rfl (Nat.le_of_ble_eq_true rfl) (Nat.le_of_ble_eq_true rfl) dX5_hasTried_63
    · skip
      refine v_aload_n (pc := 18) 0 rfl dX5_hasTried_18 ?_
      refine v_bipush (pc := 19) dX5_hasTried_19 (by decide) ?_
      refine v_aload_n (pc := 21) 0 rfl dX5_hasTried_21 ?_
      refine v_get (pc := 22) (v := ai sk) 4 (Or.inr ⟨0, rfl⟩) fl_5_54_8 rfl dX5_hasTried_22 ?_
      refine v_iconst (pc := 25) dX5_hasTried_25 ?_
      refine v_iadd (pc := 26) dX5_hasTried_26 ?_
      refine v_callS (pc := 27) [] [0] [(h, co 8 [ar ta, ai kd, ai num, ai pv, ai sk, ai hn, ai gl, ai sc, ai pu])] (As := [ai 20, ai (sk + 1)]) (rest := [ar h]) (c_J9_min_7cf53 20 (sk + 1) (by first | omega | assumption) (by first | omega | assumption)) wl_X5_75 ws_J9_min_7cf53 wk_J9_min_7cf53 wz_J9 md_J9_min_7cf53 rfl (Nat.le_of_ble_eq_true rfl) ⟨Nat.le_of_ble_eq_true rfl, Nat.le_of_ble_eq_true rfl, Nat.le_of_ble_eq_true rfl, Nat.le_of_ble_eq_true rfl⟩ rfl rfl rfl rfl (by decide) ro_nil dX5_hasTried_27 (fun u hu => ?_)
      show V x cX5_hasTried RX5 4 (rmU 1 32 0 0) [(h, co 8 [ar ta, ai kd, ai num, ai pv, ai sk, ai hn, ai gl, ai sc, ai pu])] 30 [(0, ar h), (1, ai ma), (2, ai ca), (3, ai py)] [ai (if (sk + 1) < 20 then (sk + 1) else 20), ar h] 0 0
      refine v_put (pc := 30) 4 0 rfl fl_5_54_8 ck_8 ft_8_4 (okV_i _) (Nat.le_of_ble_eq_true rfl) (ws2 := [(h, co 8 [ar ta, ai kd, ai num, ai pv, ai (if (sk + 1) < 20 then (sk + 1) else 20), ai hn, ai gl, ai sc, ai pu])]) rfl dX5_hasTried_30 ?_
      refine v_aload_n (pc := 33) 0 rfl dX5_hasTried_33 ?_
      refine v_aload_n (pc := 34) 0 rfl dX5_hasTried_34 ?_
      refine v_get (pc := 35) (v := ai sc) 7 (Or.inr ⟨0, rfl⟩) fl_5_63_8 rfl dX5_hasTried_35 ?_
      refine v_iload_n (pc := 38) 1 rfl dX5_hasTried_38 ?_
      refine v_callS (pc := 39) [] [0] [(h, co 8 [ar ta, ai kd, ai num, ai pv, ai (if (sk + 1) < 20 then (sk + 1) else 20), ai hn, ai gl, ai sc, ai pu])] (As := [ai sc, ai ma]) (rest := [ar h]) (c_J9_max_7cf53 sc ma (by first | omega | assumption) (by first | omega | assumption)) wl_X5_79 ws_J9_max_7cf53 wk_J9_max_7cf53 wz_J9 md_J9_max_7cf53 rfl (Nat.le_of_ble_eq_true rfl) ⟨Nat.le_of_ble_eq_true rfl, Nat.le_of_ble_eq_true rfl, Nat.le_of_ble_eq_true rfl, Nat.le_of_ble_eq_true rfl⟩ rfl rfl rfl rfl (by decide) ro_nil dX5_hasTried_39 (fun u hu => ?_)
      show V x cX5_hasTried RX5 4 (rmU 1 32 0 0) [(h, co 8 [ar ta, ai kd, ai num, ai pv, ai (if (sk + 1) < 20 then (sk + 1) else 20), ai hn, ai gl, ai sc, ai pu])] 42 [(0, ar h), (1, ai ma), (2, ai ca), (3, ai py)] [ai (if sc < ma then ma else sc), ar h] 0 0
      refine v_put (pc := 42) 7 0 rfl fl_5_63_8 ck_8 ft_8_7 (okV_i _) (Nat.le_of_ble_eq_true rfl) (ws2 := [(h, co 8 [ar ta, ai kd, ai num, ai pv, ai (if (sk + 1) < 20 then (sk + 1) else 20), ai hn, ai gl, ai (if sc < ma then ma else sc), ai pu])]) rfl dX5_hasTried_42 ?_
      refine v_aload_n (pc := 45) 0 rfl dX5_hasTried_45 ?_
      refine v_iconst (pc := 46) dX5_hasTried_46 ?_
      refine v_aload_n (pc := 47) 0 rfl dX5_hasTried_47 ?_
      refine v_get (pc := 48) (v := ai pu) 8 (Or.inr ⟨0, rfl⟩) fl_5_66_8 rfl dX5_hasTried_48 ?_
      refine v_iload_n (pc := 51) 3 rfl dX5_hasTried_51 ?_
      refine v_iload_n (pc := 52) 1 rfl dX5_hasTried_52 ?_
      refine v_iload_n (pc := 53) 2 rfl dX5_hasTried_53 ?_
      refine v_isub (pc := 54) dX5_hasTried_54 ?_
      refine v_imul (pc := 55) dX5_hasTried_55 ?_
      refine v_isub (pc := 56) dX5_hasTried_56 ?_
      refine v_callS (pc := 57) [] [0] [(h, co 8 [ar ta, ai kd, ai num, ai pv, ai (if (sk + 1) < 20 then (sk + 1) else 20), ai hn, ai gl, ai (if sc < ma then ma else sc), ai pu])] (As := [ai 0, ai (pu - (py * (ma - ca)))]) (rest := [ar h]) (c_J9_max_7cf53 0 (pu - (py * (ma - ca))) (by first | omega | assumption) (by first | omega | assumption)) wl_X5_79 ws_J9_max_7cf53 wk_J9_max_7cf53 wz_J9 md_J9_max_7cf53 rfl (Nat.le_of_ble_eq_true rfl) ⟨Nat.le_of_ble_eq_true rfl, Nat.le_of_ble_eq_true rfl, Nat.le_of_ble_eq_true rfl, Nat.le_of_ble_eq_true rfl⟩ rfl rfl rfl rfl (by decide) ro_nil dX5_hasTried_57 (fun u hu => ?_)
      show V x cX5_hasTried RX5 4 (rmU 1 32 0 0) [(h, co 8 [ar ta, ai kd, ai num, ai pv, ai (if (sk + 1) < 20 then (sk + 1) else 20), ai hn, ai gl, ai (if sc < ma then ma else sc), ai pu])] 60 [(0, ar h), (1, ai ma), (2, ai ca), (3, ai py)] [ai (if 0 < (pu - (py * (ma - ca))) then (pu - (py * (ma - ca))) else 0), ar h] 0 0
      refine v_put (pc := 60) 8 0 rfl fl_5_66_8 ck_8 ft_8_8 (okV_i _) (Nat.le_of_ble_eq_true rfl) (ws2 := [(h, co 8 [ar ta, ai kd, ai num, ai pv, ai (if (sk + 1) < 20 then (sk + 1) else 20), ai hn, ai gl, ai (if sc < ma then ma else sc), ai (if 0 < (pu - (py * (ma - ca))) then (pu - (py * (ma - ca))) else 0)])]) rfl dX5_hasTried_60 ?_
      refine v_ws (ws2 := [(h, co 8 [ar ta, ai kd, ai num, ai pv, ai (if ca = ma ∧ (-5 ≤ sc - ma ∧ sc - ma ≤ 5) then (if sk + 1 < 20 then sk + 1 else 20) else sk), ai hn, ai gl, ai (if ca = ma then (if sc < ma then ma else sc) else sc), ai (if 0 < pu - py * (ma - ca) then pu - py * (ma - ca) else 0)])]) (by rw [show (if ca = ma ∧ (-5 ≤ sc - ma ∧ sc - ma ≤ 5) then (if sk + 1 < 20 then sk + 1 else 20) else sk) = (if (sk + 1) < 20 then (sk + 1) else 20) by first | (rw [if_pos (by omega)]; done) | (rw [if_neg (by omega)]; done), show (if ca = ma then (if sc < ma then ma else sc) else sc) = (if sc < ma then ma else sc) by first | (rw [if_pos (by omega)]; done) | (rw [if_neg (by omega)]; done)]) ?_
      exact hret () _ _ _ _ _ trivial rfl rfl (Nat.le_of_ble_eq_true rfl) (Nat.le_of_ble_eq_true rfl) dX5_hasTried_63
set_option maxHeartbeats 4000000 in
set_option maxRecDepth 100000 in
theorem c_X0_lean_k0 {gS : sG} (h : Nat) (ta : Nat) (kd : Int) (num : Int) (pv : Int) (sk : Int) (hn : Int) (gl : Int) (sc : Int) (pu : Int) (tt : Int) : Ct gS (S := Unit) yX0_lean cX0_lean 2 (some .int) 0 0 0 0 [ar h, ai tt] [] (fun q => q ∈ ([(h, co 0 [ar ta, ai kd, ai num, ai pv, ai sk, ai hn, ai gl, ai sc, ai pu])] : aW)) (fun _ => True) (fun _ => some (ai pv)) (fun _ => []) := by
  refine ct_I RX0 [(0, ar h), (1, ai tt)] (by decide) rfl (Nat.le_of_ble_eq_true rfl) rfl (fun x hgS hro hret => ?_)
  subst hgS
  have r0 := hro _ (mem_at 0 rfl)
  show V x cX0_lean RX0 2 (rmU 0 0 0 0) [] 0 [(0, ar h), (1, ai tt)] [] 0 0
  refine v_aload_n (pc := 0) 0 rfl dX0_lean_0 ?_
  refine v_get (pc := 1) (v := ai pv) 3 (Or.inl r0) fl_0_7_0 rfl dX0_lean_1 ?_
  exact hret () _ _ _ _ _ _ trivial (congrArg (fun z => some (ai z)) (by rfl)) rfl (Nat.le_of_ble_eq_true rfl) (Nat.le_of_ble_eq_true rfl) dX0_lean_4
set_option maxHeartbeats 4000000 in
set_option maxRecDepth 100000 in
theorem c_X5_unsureBy_k0 {gS : sG} (h : Nat) (ta : Nat) (kd : Int) (num : Int) (pv : Int) (sk : Int) (hn : Int) (gl : Int) (sc : Int) (pu : Int) (s1 : Int) (g1 : Int) (hsk : 0 ≤ s1 ∧ s1 ≤ 40) (hgl : 0 ≤ g1 ∧ g1 ≤ 40) : Ct gS (S := Unit) yX5_unsureBy cX5_unsureBy 4 (some .int) 0 0 0 0 [ar h, ai s1, ai g1] [] (fun q => q ∈ ([(h, co 0 [ar ta, ai kd, ai num, ai pv, ai sk, ai hn, ai gl, ai sc, ai pu])] : aW)) (fun _ => True) (fun _ => some (ai (kUns s1 g1))) (fun _ => []) := by
  refine ct_I RX5 [(0, ar h), (1, ai s1), (2, ai g1)] (by decide) rfl (Nat.le_of_ble_eq_true rfl) rfl (fun x hgS hro hret => ?_)
  subst hgS
  have r0 := hro _ (mem_at 0 rfl)
  show V x cX5_unsureBy RX5 4 (rmU 0 0 0 0) [] 0 [(0, ar h), (1, ai s1), (2, ai g1)] [] 0 0
  refine v_iconst (pc := 0) dX5_unsureBy_0 ?_
  refine v_iload_n (pc := 1) 2 rfl dX5_unsureBy_1 ?_
  refine v_iadd (pc := 2) dX5_unsureBy_2 ?_
  refine v_iload_n (pc := 3) 1 rfl dX5_unsureBy_3 ?_
  refine v_iconst (pc := 4) dX5_unsureBy_4 ?_
  refine v_idiv (pc := 5) (by omega) (by omega) (by unfold iB; omega) (by unfold iB; omega) dX5_unsureBy_5 ?_
  refine v_isub (pc := 6) dX5_unsureBy_6 ?_
  refine v_istore_n (pc := 7) (L2 := [(3, ai ((3 + g1) - (s1 / 4))), (0, ar h), (1, ai s1), (2, ai g1)]) rfl (by decide) dX5_unsureBy_7 ?_
  refine v_iload_n (pc := 8) 0 rfl dX5_unsureBy_8 ?_
  refine v_if_ge (pc := 9) 16 dX5_unsureBy_9 (by decide) (by unfold iB; omega) (fun c_1 => ?_) (fun c_1 => ?_)
  · skip
    refine v_iload_n (pc := 16) 0 rfl dX5_unsureBy_16 ?_
    exact hret () _ _ _ _ _ _ trivial (congrArg (fun z => some (ai z)) (by unfold kUns; split <;> omega)) rfl (Nat.le_of_ble_eq_true rfl) (Nat.le_of_ble_eq_true rfl) dX5_unsureBy_17
  · skip
    refine v_iconst (pc := 12) dX5_unsureBy_12 ?_
    refine v_goto (pc := 13) 17 dX5_unsureBy_13 (by decide) ?_
    exact hret () _ _ _ _ _ _ trivial (congrArg (fun z => some (ai z)) (by unfold kUns; split <;> omega)) rfl (Nat.le_of_ble_eq_true rfl) (Nat.le_of_ble_eq_true rfl) dX5_unsureBy_17
set_option maxHeartbeats 4000000 in
set_option maxRecDepth 100000 in
theorem c_X5_hasTried_k0 {gS : sG} (h : Nat) (ta : Nat) (kd : Int) (num : Int) (pv : Int) (sk : Int) (hn : Int) (gl : Int) (sc : Int) (pu : Int) (ma : Int) (ca : Int) (py : Int) (hma : 0 ≤ ma ∧ ma ≤ 99) (hca : 0 ≤ ca ∧ ca ≤ ma) (hpy : 0 ≤ py ∧ py ≤ 99) (hsc : 0 ≤ sc ∧ sc ≤ 99) (hskk : 0 ≤ sk ∧ sk ≤ 20) (hpu : 0 ≤ pu ∧ pu ≤ 9999) : Ct gS (S := Unit) yX5_hasTried cX5_hasTried 4 none 1 32 0 0 [ar h, ai ma, ai ca, ai py] [(h, co 0 [ar ta, ai kd, ai num, ai pv, ai sk, ai hn, ai gl, ai sc, ai pu])] (fun q => q ∈ ([] : aW)) (fun _ => True) (fun _ => none) (fun _ => [(h, co 0 [ar ta, ai kd, ai num, ai pv, ai (if ca = ma ∧ (-5 ≤ sc - ma ∧ sc - ma ≤ 5) then (if sk + 1 < 20 then sk + 1 else 20) else sk), ai hn, ai gl, ai (if ca = ma then (if sc < ma then ma else sc) else sc), ai (if 0 < pu - py * (ma - ca) then pu - py * (ma - ca) else 0)])]) := by
  refine ct_V RX5 [(0, ar h), (1, ai ma), (2, ai ca), (3, ai py)] (by decide) rfl (Nat.le_of_ble_eq_true rfl) rfl (fun x hgS hnm hro hret => ?_)
  subst hgS
  have hab : kAbs (sc - ma) ≤ 5 ↔ (-5 ≤ sc - ma ∧ sc - ma ≤ 5) := by unfold kAbs; split <;> omega
  have hab2 : 0 ≤ kAbs (sc - ma) ∧ kAbs (sc - ma) ≤ 200 := by unfold kAbs; split <;> omega
  have hmul : 0 ≤ py * (ma - ca) ∧ py * (ma - ca) ≤ 99 * 99 := ⟨Int.mul_nonneg hpy.1 (by omega), Int.mul_le_mul hpy.2 (by omega) (by omega) (by decide)⟩
  show V x cX5_hasTried RX5 4 (rmU 1 32 0 0) [(h, co 0 [ar ta, ai kd, ai num, ai pv, ai sk, ai hn, ai gl, ai sc, ai pu])] 0 [(0, ar h), (1, ai ma), (2, ai ca), (3, ai py)] [] 0 0
  refine v_iload_n (pc := 0) 2 rfl dX5_hasTried_0 ?_
  refine v_iload_n (pc := 1) 1 rfl dX5_hasTried_1 ?_
  refine v_icmp_ne (pc := 2) 45 dX5_hasTried_2 (by decide) (by unfold iB; omega) (by unfold iB; omega) (fun c_1 => ?_) (fun c_1 => ?_)
  · skip
    refine v_aload_n (pc := 45) 0 rfl dX5_hasTried_45 ?_
    refine v_iconst (pc := 46) dX5_hasTried_46 ?_
    refine v_aload_n (pc := 47) 0 rfl dX5_hasTried_47 ?_
    refine v_get (pc := 48) (v := ai pu) 8 (Or.inr ⟨0, rfl⟩) fl_5_66_0 rfl dX5_hasTried_48 ?_
    refine v_iload_n (pc := 51) 3 rfl dX5_hasTried_51 ?_
    refine v_iload_n (pc := 52) 1 rfl dX5_hasTried_52 ?_
    refine v_iload_n (pc := 53) 2 rfl dX5_hasTried_53 ?_
    refine v_isub (pc := 54) dX5_hasTried_54 ?_
    refine v_imul (pc := 55) dX5_hasTried_55 ?_
    refine v_isub (pc := 56) dX5_hasTried_56 ?_
    refine v_callS (pc := 57) [] [0] [(h, co 0 [ar ta, ai kd, ai num, ai pv, ai sk, ai hn, ai gl, ai sc, ai pu])] (As := [ai 0, ai (pu - (py * (ma - ca)))]) (rest := [ar h]) (c_J9_max_7cf53 0 (pu - (py * (ma - ca))) (by first | omega | assumption) (by first | omega | assumption)) wl_X5_79 ws_J9_max_7cf53 wk_J9_max_7cf53 wz_J9 md_J9_max_7cf53 rfl (Nat.le_of_ble_eq_true rfl) ⟨Nat.le_of_ble_eq_true rfl, Nat.le_of_ble_eq_true rfl, Nat.le_of_ble_eq_true rfl, Nat.le_of_ble_eq_true rfl⟩ rfl rfl rfl rfl (by decide) ro_nil dX5_hasTried_57 (fun u hu => ?_)
    show V x cX5_hasTried RX5 4 (rmU 1 32 0 0) [(h, co 0 [ar ta, ai kd, ai num, ai pv, ai sk, ai hn, ai gl, ai sc, ai pu])] 60 [(0, ar h), (1, ai ma), (2, ai ca), (3, ai py)] [ai (if 0 < (pu - (py * (ma - ca))) then (pu - (py * (ma - ca))) else 0), ar h] 0 0
    refine v_put (pc := 60) 8 0 rfl fl_5_66_0 ck_0 ft_0_8 (okV_i _) (Nat.le_of_ble_eq_true rfl) (ws2 := [(h, co 0 [ar ta, ai kd, ai num, ai pv, ai sk, ai hn, ai gl, ai sc, ai (if 0 < (pu - (py * (ma - ca))) then (pu - (py * (ma - ca))) else 0)])]) rfl dX5_hasTried_60 ?_
    refine v_ws (ws2 := [(h, co 0 [ar ta, ai kd, ai num, ai pv, ai (if ca = ma ∧ (-5 ≤ sc - ma ∧ sc - ma ≤ 5) then (if sk + 1 < 20 then sk + 1 else 20) else sk), ai hn, ai gl, ai (if ca = ma then (if sc < ma then ma else sc) else sc), ai (if 0 < pu - py * (ma - ca) then pu - py * (ma - ca) else 0)])]) (by rw [show (if ca = ma ∧ (-5 ≤ sc - ma ∧ sc - ma ≤ 5) then (if sk + 1 < 20 then sk + 1 else 20) else sk) = sk by first | (rw [if_pos (by omega)]; done) | (rw [if_neg (by omega)]; done), show (if ca = ma then (if sc < ma then ma else sc) else sc) = sc by first | (rw [if_pos (by omega)]; done) | (rw [if_neg (by omega)]; done)]) ?_
    exact hret () _ _ _ _ _ trivial rfl rfl (Nat.le_of_ble_eq_true rfl) (Nat.le_of_ble_eq_true rfl) dX5_hasTried_63
  · skip
    refine v_aload_n (pc := 5) 0 rfl dX5_hasTried_5 ?_
    refine v_get (pc := 6) (v := ai sc) 7 (Or.inr ⟨0, rfl⟩) fl_5_63_0 rfl dX5_hasTried_6 ?_
    refine v_iload_n (pc := 9) 1 rfl dX5_hasTried_9 ?_
    refine v_isub (pc := 10) dX5_hasTried_10 ?_
    refine v_callS (pc := 11) [] [0] [(h, co 0 [ar ta, ai kd, ai num, ai pv, ai sk, ai hn, ai gl, ai sc, ai pu])] (As := [ai (sc - ma)]) (rest := []) (c_J9_abs_0f7a4 (sc - ma) (by first | omega | assumption)) wl_X5_69 ws_J9_abs_0f7a4 wk_J9_abs_0f7a4 wz_J9 md_J9_abs_0f7a4 rfl (Nat.le_of_ble_eq_true rfl) ⟨Nat.le_of_ble_eq_true rfl, Nat.le_of_ble_eq_true rfl, Nat.le_of_ble_eq_true rfl, Nat.le_of_ble_eq_true rfl⟩ rfl rfl rfl rfl (by decide) ro_nil dX5_hasTried_11 (fun u hu => ?_)
    show V x cX5_hasTried RX5 4 (rmU 1 32 0 0) [(h, co 0 [ar ta, ai kd, ai num, ai pv, ai sk, ai hn, ai gl, ai sc, ai pu])] 14 [(0, ar h), (1, ai ma), (2, ai ca), (3, ai py)] [ai (kAbs (sc - ma))] 0 0
    refine v_iconst (pc := 14) dX5_hasTried_14 ?_
    refine v_icmp_gt (pc := 15) 33 dX5_hasTried_15 (by decide) (by unfold iB; omega) (by unfold iB; omega) (fun c_2 => ?_) (fun c_2 => ?_)
    · skip
      refine v_aload_n (pc := 33) 0 rfl dX5_hasTried_33 ?_
      refine v_aload_n (pc := 34) 0 rfl dX5_hasTried_34 ?_
      refine v_get (pc := 35) (v := ai sc) 7 (Or.inr ⟨0, rfl⟩) fl_5_63_0 rfl dX5_hasTried_35 ?_
      refine v_iload_n (pc := 38) 1 rfl dX5_hasTried_38 ?_
      refine v_callS (pc := 39) [] [0] [(h, co 0 [ar ta, ai kd, ai num, ai pv, ai sk, ai hn, ai gl, ai sc, ai pu])] (As := [ai sc, ai ma]) (rest := [ar h]) (c_J9_max_7cf53 sc ma (by first | omega | assumption) (by first | omega | assumption)) wl_X5_79 ws_J9_max_7cf53 wk_J9_max_7cf53 wz_J9 md_J9_max_7cf53 rfl (Nat.le_of_ble_eq_true rfl) ⟨Nat.le_of_ble_eq_true rfl, Nat.le_of_ble_eq_true rfl, Nat.le_of_ble_eq_true rfl, Nat.le_of_ble_eq_true rfl⟩ rfl rfl rfl rfl (by decide) ro_nil dX5_hasTried_39 (fun u hu => ?_)
      show V x cX5_hasTried RX5 4 (rmU 1 32 0 0) [(h, co 0 [ar ta, ai kd, ai num, ai pv, ai sk, ai hn, ai gl, ai sc, ai pu])] 42 [(0, ar h), (1, ai ma), (2, ai ca), (3, ai py)] [ai (if sc < ma then ma else sc), ar h] 0 0
      refine v_put (pc := 42) 7 0 rfl fl_5_63_0 ck_0 ft_0_7 (okV_i _) (Nat.le_of_ble_eq_true rfl) (ws2 := [(h, co 0 [ar ta, ai kd, ai num, ai pv, ai sk, ai hn, ai gl, ai (if sc < ma then ma else sc), ai pu])]) rfl dX5_hasTried_42 ?_
      refine v_aload_n (pc := 45) 0 rfl dX5_hasTried_45 ?_
      refine v_iconst (pc := 46) dX5_hasTried_46 ?_
      refine v_aload_n (pc := 47) 0 rfl dX5_hasTried_47 ?_
      refine v_get (pc := 48) (v := ai pu) 8 (Or.inr ⟨0, rfl⟩) fl_5_66_0 rfl dX5_hasTried_48 ?_
      refine v_iload_n (pc := 51) 3 rfl dX5_hasTried_51 ?_
      refine v_iload_n (pc := 52) 1 rfl dX5_hasTried_52 ?_
      refine v_iload_n (pc := 53) 2 rfl dX5_hasTried_53 ?_
      refine v_isub (pc := 54) dX5_hasTried_54 ?_
      refine v_imul (pc := 55) dX5_hasTried_55 ?_
      refine v_isub (pc := 56) dX5_hasTried_56 ?_
      refine v_callS (pc := 57) [] [0] [(h, co 0 [ar ta, ai kd, ai num, ai pv, ai sk, ai hn, ai gl, ai (if sc < ma then ma else sc), ai pu])] (As := [ai 0, ai (pu - (py * (ma - ca)))]) (rest := [ar h]) (c_J9_max_7cf53 0 (pu - (py * (ma - ca))) (by first | omega | assumption) (by first | omega | assumption)) wl_X5_79 ws_J9_max_7cf53 wk_J9_max_7cf53 wz_J9 md_J9_max_7cf53 rfl (Nat.le_of_ble_eq_true rfl) ⟨Nat.le_of_ble_eq_true rfl, Nat.le_of_ble_eq_true rfl, Nat.le_of_ble_eq_true rfl, Nat.le_of_ble_eq_true rfl⟩ rfl rfl rfl rfl (by decide) ro_nil dX5_hasTried_57 (fun u hu => ?_)
      show V x cX5_hasTried RX5 4 (rmU 1 32 0 0) [(h, co 0 [ar ta, ai kd, ai num, ai pv, ai sk, ai hn, ai gl, ai (if sc < ma then ma else sc), ai pu])] 60 [(0, ar h), (1, ai ma), (2, ai ca), (3, ai py)] [ai (if 0 < (pu - (py * (ma - ca))) then (pu - (py * (ma - ca))) else 0), ar h] 0 0
      refine v_put (pc := 60) 8 0 rfl fl_5_66_0 ck_0 ft_0_8 (okV_i _) (Nat.le_of_ble_eq_true rfl) (ws2 := [(h, co 0 [ar ta, ai kd, ai num, ai pv, ai sk, ai hn, ai gl, ai (if sc < ma then ma else sc), ai (if 0 < (pu - (py * (ma - ca))) then (pu - (py * (ma - ca))) else 0)])]) rfl dX5_hasTried_60 ?_
      refine v_ws (ws2 := [(h, co 0 [ar ta, ai kd, ai num, ai pv, ai (if ca = ma ∧ (-5 ≤ sc - ma ∧ sc - ma ≤ 5) then (if sk + 1 < 20 then sk + 1 else 20) else sk), ai hn, ai gl, ai (if ca = ma then (if sc < ma then ma else sc) else sc), ai (if 0 < pu - py * (ma - ca) then pu - py * (ma - ca) else 0)])]) (by rw [show (if ca = ma ∧ (-5 ≤ sc - ma ∧ sc - ma ≤ 5) then (if sk + 1 < 20 then sk + 1 else 20) else sk) = sk by first | (rw [if_pos (by omega)]; done) | (rw [if_neg (by omega)]; done), show (if ca = ma then (if sc < ma then ma else sc) else sc) = (if sc < ma then ma else sc) by first | (rw [if_pos (by omega)]; done) | (rw [if_neg (by omega)]; done)]) ?_
      exact hret () _ _ _ _ _ trivial rfl rfl (Nat.le_of_ble_eq_true rfl) (Nat.le_of_ble_eq_true rfl) dX5_hasTried_63
    · skip
      refine v_aload_n (pc := 18) 0 rfl dX5_hasTried_18 ?_
      refine v_bipush (pc := 19) dX5_hasTried_19 (by decide) ?_
      refine v_aload_n (pc := 21) 0 rfl dX5_hasTried_21 ?_
      refine v_get (pc := 22) (v := ai sk) 4 (Or.inr ⟨0, rfl⟩) fl_5_54_0 rfl dX5_hasTried_22 ?_
      refine v_iconst (pc := 25) dX5_hasTried_25 ?_
      refine v_iadd (pc := 26) dX5_hasTried_26 ?_
      refine v_callS (pc := 27) [] [0] [(h, co 0 [ar ta, ai kd, ai num, ai pv, ai sk, ai hn, ai gl, ai sc, ai pu])] (As := [ai 20, ai (sk + 1)]) (rest := [ar h]) (c_J9_min_7cf53 20 (sk + 1) (by first | omega | assumption) (by first | omega | assumption)) wl_X5_75 ws_J9_min_7cf53 wk_J9_min_7cf53 wz_J9 md_J9_min_7cf53 rfl (Nat.le_of_ble_eq_true rfl) ⟨Nat.le_of_ble_eq_true rfl, Nat.le_of_ble_eq_true rfl, Nat.le_of_ble_eq_true rfl, Nat.le_of_ble_eq_true rfl⟩ rfl rfl rfl rfl (by decide) ro_nil dX5_hasTried_27 (fun u hu => ?_)
      show V x cX5_hasTried RX5 4 (rmU 1 32 0 0) [(h, co 0 [ar ta, ai kd, ai num, ai pv, ai sk, ai hn, ai gl, ai sc, ai pu])] 30 [(0, ar h), (1, ai ma), (2, ai ca), (3, ai py)] [ai (if (sk + 1) < 20 then (sk + 1) else 20), ar h] 0 0
      refine v_put (pc := 30) 4 0 rfl fl_5_54_0 ck_0 ft_0_4 (okV_i _) (Nat.le_of_ble_eq_true rfl) (ws2 := [(h, co 0 [ar ta, ai kd, ai num, ai pv, ai (if (sk + 1) < 20 then (sk + 1) else 20), ai hn, ai gl, ai sc, ai pu])]) rfl dX5_hasTried_30 ?_
      refine v_aload_n (pc := 33) 0 rfl dX5_hasTried_33 ?_
      refine v_aload_n (pc := 34) 0 rfl dX5_hasTried_34 ?_
      refine v_get (pc := 35) (v := ai sc) 7 (Or.inr ⟨0, rfl⟩) fl_5_63_0 rfl dX5_hasTried_35 ?_
      refine v_iload_n (pc := 38) 1 rfl dX5_hasTried_38 ?_
      refine v_callS (pc := 39) [] [0] [(h, co 0 [ar ta, ai kd, ai num, ai pv, ai (if (sk + 1) < 20 then (sk + 1) else 20), ai hn, ai gl, ai sc, ai pu])] (As := [ai sc, ai ma]) (rest := [ar h]) (c_J9_max_7cf53 sc ma (by first | omega | assumption) (by first | omega | assumption)) wl_X5_79 ws_J9_max_7cf53 wk_J9_max_7cf53 wz_J9 md_J9_max_7cf53 rfl (Nat.le_of_ble_eq_true rfl) ⟨Nat.le_of_ble_eq_true rfl, Nat.le_of_ble_eq_true rfl, Nat.le_of_ble_eq_true rfl, Nat.le_of_ble_eq_true rfl⟩ rfl rfl rfl rfl (by decide) ro_nil dX5_hasTried_39 (fun u hu => ?_)
      show V x cX5_hasTried RX5 4 (rmU 1 32 0 0) [(h, co 0 [ar ta, ai kd, ai num, ai pv, ai (if (sk + 1) < 20 then (sk + 1) else 20), ai hn, ai gl, ai sc, ai pu])] 42 [(0, ar h), (1, ai ma), (2, ai ca), (3, ai py)] [ai (if sc < ma then ma else sc), ar h] 0 0
      refine v_put (pc := 42) 7 0 rfl fl_5_63_0 ck_0 ft_0_7 (okV_i _) (Nat.le_of_ble_eq_true rfl) (ws2 := [(h, co 0 [ar ta, ai kd, ai num, ai pv, ai (if (sk + 1) < 20 then (sk + 1) else 20), ai hn, ai gl, ai (if sc < ma then ma else sc), ai pu])]) rfl dX5_hasTried_42 ?_
      refine v_aload_n (pc := 45) 0 rfl dX5_hasTried_45 ?_
      refine v_iconst (pc := 46) dX5_hasTried_46 ?_
      refine v_aload_n (pc := 47) 0 rfl dX5_hasTried_47 ?_
      refine v_get (pc := 48) (v := ai pu) 8 (Or.inr ⟨0, rfl⟩) fl_5_66_0 rfl dX5_hasTried_48 ?_
      refine v_iload_n (pc := 51) 3 rfl dX5_hasTried_51 ?_
      refine v_iload_n (pc := 52) 1 rfl dX5_hasTried_52 ?_
      refine v_iload_n (pc := 53) 2 rfl dX5_hasTried_53 ?_
      refine v_isub (pc := 54) dX5_hasTried_54 ?_
      refine v_imul (pc := 55) dX5_hasTried_55 ?_
      refine v_isub (pc := 56) dX5_hasTried_56 ?_
      refine v_callS (pc := 57) [] [0] [(h, co 0 [ar ta, ai kd, ai num, ai pv, ai (if (sk + 1) < 20 then (sk + 1) else 20), ai hn, ai gl, ai (if sc < ma then ma else sc), ai pu])] (As := [ai 0, ai (pu - (py * (ma - ca)))]) (rest := [ar h]) (c_J9_max_7cf53 0 (pu - (py * (ma - ca))) (by first | omega | assumption) (by first | omega | assumption)) wl_X5_79 ws_J9_max_7cf53 wk_J9_max_7cf53 wz_J9 md_J9_max_7cf53 rfl (Nat.le_of_ble_eq_true rfl) ⟨Nat.le_of_ble_eq_true rfl, Nat.le_of_ble_eq_true rfl, Nat.le_of_ble_eq_true rfl, Nat.le_of_ble_eq_true rfl⟩ rfl rfl rfl rfl (by decide) ro_nil dX5_hasTried_57 (fun u hu => ?_)
      show V x cX5_hasTried RX5 4 (rmU 1 32 0 0) [(h, co 0 [ar ta, ai kd, ai num, ai pv, ai (if (sk + 1) < 20 then (sk + 1) else 20), ai hn, ai gl, ai (if sc < ma then ma else sc), ai pu])] 60 [(0, ar h), (1, ai ma), (2, ai ca), (3, ai py)] [ai (if 0 < (pu - (py * (ma - ca))) then (pu - (py * (ma - ca))) else 0), ar h] 0 0
      refine v_put (pc := 60) 8 0 rfl fl_5_66_0 ck_0 ft_0_8 (okV_i _) (Nat.le_of_ble_eq_true rfl) (ws2 := [(h, co 0 [ar ta, ai kd, ai num, ai pv, ai (if (sk + 1) < 20 then (sk + 1) else 20), ai hn, ai gl, ai (if sc < ma then ma else sc), ai (if 0 < (pu - (py * (ma - ca))) then (pu - (py * (ma - ca))) else 0)])]) rfl dX5_hasTried_60 ?_
      refine v_ws (ws2 := [(h, co 0 [ar ta, ai kd, ai num, ai pv, ai (if ca = ma ∧ (-5 ≤ sc - ma ∧ sc - ma ≤ 5) then (if sk + 1 < 20 then sk + 1 else 20) else sk), ai hn, ai gl, ai (if ca = ma then (if sc < ma then ma else sc) else sc), ai (if 0 < pu - py * (ma - ca) then pu - py * (ma - ca) else 0)])]) (by rw [show (if ca = ma ∧ (-5 ≤ sc - ma ∧ sc - ma ≤ 5) then (if sk + 1 < 20 then sk + 1 else 20) else sk) = (if (sk + 1) < 20 then (sk + 1) else 20) by first | (rw [if_pos (by omega)]; done) | (rw [if_neg (by omega)]; done), show (if ca = ma then (if sc < ma then ma else sc) else sc) = (if sc < ma then ma else sc) by first | (rw [if_pos (by omega)]; done) | (rw [if_neg (by omega)]; done)]) ?_
      exact hret () _ _ _ _ _ trivial rfl rfl (Nat.le_of_ble_eq_true rfl) (Nat.le_of_ble_eq_true rfl) dX5_hasTried_63
set_option maxHeartbeats 4000000 in
set_option maxRecDepth 100000 in
theorem c_X7_lean_k7 {gS : sG} (h : Nat) (ta : Nat) (kd : Int) (num : Int) (pv : Int) (sk : Int) (hn : Int) (gl : Int) (sc : Int) (pu : Int) (tt : Int) : Ct gS (S := Unit) yX7_lean cX7_lean 2 (some .int) 0 0 0 0 [ar h, ai tt] [] (fun q => q ∈ ([(h, co 7 [ar ta, ai kd, ai num, ai pv, ai sk, ai hn, ai gl, ai sc, ai pu])] : aW)) (fun _ => True) (fun _ => some (ai (-pv))) (fun _ => []) := by
  refine ct_I RX7 [(0, ar h), (1, ai tt)] (by decide) rfl (Nat.le_of_ble_eq_true rfl) rfl (fun x hgS hro hret => ?_)
  subst hgS
  have r0 := hro _ (mem_at 0 rfl)
  show V x cX7_lean RX7 2 (rmU 0 0 0 0) [] 0 [(0, ar h), (1, ai tt)] [] 0 0
  refine v_aload_n (pc := 0) 0 rfl dX7_lean_0 ?_
  refine v_get (pc := 1) (v := ai pv) 3 (Or.inl r0) fl_7_7_7 rfl dX7_lean_1 ?_
  refine v_ineg (pc := 4) dX7_lean_4 ?_
  exact hret () _ _ _ _ _ _ trivial (congrArg (fun z => some (ai z)) (by rfl)) rfl (Nat.le_of_ble_eq_true rfl) (Nat.le_of_ble_eq_true rfl) dX7_lean_5
set_option maxHeartbeats 4000000 in
set_option maxRecDepth 100000 in
theorem c_X5_unsureBy_k7 {gS : sG} (h : Nat) (ta : Nat) (kd : Int) (num : Int) (pv : Int) (sk : Int) (hn : Int) (gl : Int) (sc : Int) (pu : Int) (s1 : Int) (g1 : Int) (hsk : 0 ≤ s1 ∧ s1 ≤ 40) (hgl : 0 ≤ g1 ∧ g1 ≤ 40) : Ct gS (S := Unit) yX5_unsureBy cX5_unsureBy 4 (some .int) 0 0 0 0 [ar h, ai s1, ai g1] [] (fun q => q ∈ ([(h, co 7 [ar ta, ai kd, ai num, ai pv, ai sk, ai hn, ai gl, ai sc, ai pu])] : aW)) (fun _ => True) (fun _ => some (ai (kUns s1 g1))) (fun _ => []) := by
  refine ct_I RX5 [(0, ar h), (1, ai s1), (2, ai g1)] (by decide) rfl (Nat.le_of_ble_eq_true rfl) rfl (fun x hgS hro hret => ?_)
  subst hgS
  have r0 := hro _ (mem_at 0 rfl)
  show V x cX5_unsureBy RX5 4 (rmU 0 0 0 0) [] 0 [(0, ar h), (1, ai s1), (2, ai g1)] [] 0 0
  refine v_iconst (pc := 0) dX5_unsureBy_0 ?_
  refine v_iload_n (pc := 1) 2 rfl dX5_unsureBy_1 ?_
  refine v_iadd (pc := 2) dX5_unsureBy_2 ?_
  refine v_iload_n (pc := 3) 1 rfl dX5_unsureBy_3 ?_
  refine v_iconst (pc := 4) dX5_unsureBy_4 ?_
  refine v_idiv (pc := 5) (by omega) (by omega) (by unfold iB; omega) (by unfold iB; omega) dX5_unsureBy_5 ?_
  refine v_isub (pc := 6) dX5_unsureBy_6 ?_
  refine v_istore_n (pc := 7) (L2 := [(3, ai ((3 + g1) - (s1 / 4))), (0, ar h), (1, ai s1), (2, ai g1)]) rfl (by decide) dX5_unsureBy_7 ?_
  refine v_iload_n (pc := 8) 0 rfl dX5_unsureBy_8 ?_
  refine v_if_ge (pc := 9) 16 dX5_unsureBy_9 (by decide) (by unfold iB; omega) (fun c_1 => ?_) (fun c_1 => ?_)
  · skip
    refine v_iload_n (pc := 16) 0 rfl dX5_unsureBy_16 ?_
    exact hret () _ _ _ _ _ _ trivial (congrArg (fun z => some (ai z)) (by unfold kUns; split <;> omega)) rfl (Nat.le_of_ble_eq_true rfl) (Nat.le_of_ble_eq_true rfl) dX5_unsureBy_17
  · skip
    refine v_iconst (pc := 12) dX5_unsureBy_12 ?_
    refine v_goto (pc := 13) 17 dX5_unsureBy_13 (by decide) ?_
    exact hret () _ _ _ _ _ _ trivial (congrArg (fun z => some (ai z)) (by unfold kUns; split <;> omega)) rfl (Nat.le_of_ble_eq_true rfl) (Nat.le_of_ble_eq_true rfl) dX5_unsureBy_17
set_option maxHeartbeats 4000000 in
set_option maxRecDepth 100000 in
theorem c_X5_hasTried_k7 {gS : sG} (h : Nat) (ta : Nat) (kd : Int) (num : Int) (pv : Int) (sk : Int) (hn : Int) (gl : Int) (sc : Int) (pu : Int) (ma : Int) (ca : Int) (py : Int) (hma : 0 ≤ ma ∧ ma ≤ 99) (hca : 0 ≤ ca ∧ ca ≤ ma) (hpy : 0 ≤ py ∧ py ≤ 99) (hsc : 0 ≤ sc ∧ sc ≤ 99) (hskk : 0 ≤ sk ∧ sk ≤ 20) (hpu : 0 ≤ pu ∧ pu ≤ 9999) : Ct gS (S := Unit) yX5_hasTried cX5_hasTried 4 none 1 32 0 0 [ar h, ai ma, ai ca, ai py] [(h, co 7 [ar ta, ai kd, ai num, ai pv, ai sk, ai hn, ai gl, ai sc, ai pu])] (fun q => q ∈ ([] : aW)) (fun _ => True) (fun _ => none) (fun _ => [(h, co 7 [ar ta, ai kd, ai num, ai pv, ai (if ca = ma ∧ (-5 ≤ sc - ma ∧ sc - ma ≤ 5) then (if sk + 1 < 20 then sk + 1 else 20) else sk), ai hn, ai gl, ai (if ca = ma then (if sc < ma then ma else sc) else sc), ai (if 0 < pu - py * (ma - ca) then pu - py * (ma - ca) else 0)])]) := by
  refine ct_V RX5 [(0, ar h), (1, ai ma), (2, ai ca), (3, ai py)] (by decide) rfl (Nat.le_of_ble_eq_true rfl) rfl (fun x hgS hnm hro hret => ?_)
  subst hgS
  have hab : kAbs (sc - ma) ≤ 5 ↔ (-5 ≤ sc - ma ∧ sc - ma ≤ 5) := by unfold kAbs; split <;> omega
  have hab2 : 0 ≤ kAbs (sc - ma) ∧ kAbs (sc - ma) ≤ 200 := by unfold kAbs; split <;> omega
  have hmul : 0 ≤ py * (ma - ca) ∧ py * (ma - ca) ≤ 99 * 99 := ⟨Int.mul_nonneg hpy.1 (by omega), Int.mul_le_mul hpy.2 (by omega) (by omega) (by decide)⟩
  show V x cX5_hasTried RX5 4 (rmU 1 32 0 0) [(h, co 7 [ar ta, ai kd, ai num, ai pv, ai sk, ai hn, ai gl, ai sc, ai pu])] 0 [(0, ar h), (1, ai ma), (2, ai ca), (3, ai py)] [] 0 0
  refine v_iload_n (pc := 0) 2 rfl dX5_hasTried_0 ?_
  refine v_iload_n (pc := 1) 1 rfl dX5_hasTried_1 ?_
  refine v_icmp_ne (pc := 2) 45 dX5_hasTried_2 (by decide) (by unfold iB; omega) (by unfold iB; omega) (fun c_1 => ?_) (fun c_1 => ?_)
  · skip
    refine v_aload_n (pc := 45) 0 rfl dX5_hasTried_45 ?_
    refine v_iconst (pc := 46) dX5_hasTried_46 ?_
    refine v_aload_n (pc := 47) 0 rfl dX5_hasTried_47 ?_
    refine v_get (pc := 48) (v := ai pu) 8 (Or.inr ⟨0, rfl⟩) fl_5_66_7 rfl dX5_hasTried_48 ?_
    refine v_iload_n (pc := 51) 3 rfl dX5_hasTried_51 ?_
    refine v_iload_n (pc := 52) 1 rfl dX5_hasTried_52 ?_
    refine v_iload_n (pc := 53) 2 rfl dX5_hasTried_53 ?_
    refine v_isub (pc := 54) dX5_hasTried_54 ?_
    refine v_imul (pc := 55) dX5_hasTried_55 ?_
    refine v_isub (pc := 56) dX5_hasTried_56 ?_
    refine v_callS (pc := 57) [] [0] [(h, co 7 [ar ta, ai kd, ai num, ai pv, ai sk, ai hn, ai gl, ai sc, ai pu])] (As := [ai 0, ai (pu - (py * (ma - ca)))]) (rest := [ar h]) (c_J9_max_7cf53 0 (pu - (py * (ma - ca))) (by first | omega | assumption) (by first | omega | assumption)) wl_X5_79 ws_J9_max_7cf53 wk_J9_max_7cf53 wz_J9 md_J9_max_7cf53 rfl (Nat.le_of_ble_eq_true rfl) ⟨Nat.le_of_ble_eq_true rfl, Nat.le_of_ble_eq_true rfl, Nat.le_of_ble_eq_true rfl, Nat.le_of_ble_eq_true rfl⟩ rfl rfl rfl rfl (by decide) ro_nil dX5_hasTried_57 (fun u hu => ?_)
    show V x cX5_hasTried RX5 4 (rmU 1 32 0 0) [(h, co 7 [ar ta, ai kd, ai num, ai pv, ai sk, ai hn, ai gl, ai sc, ai pu])] 60 [(0, ar h), (1, ai ma), (2, ai ca), (3, ai py)] [ai (if 0 < (pu - (py * (ma - ca))) then (pu - (py * (ma - ca))) else 0), ar h] 0 0
    refine v_put (pc := 60) 8 0 rfl fl_5_66_7 ck_7 ft_7_8 (okV_i _) (Nat.le_of_ble_eq_true rfl) (ws2 := [(h, co 7 [ar ta, ai kd, ai num, ai pv, ai sk, ai hn, ai gl, ai sc, ai (if 0 < (pu - (py * (ma - ca))) then (pu - (py * (ma - ca))) else 0)])]) rfl dX5_hasTried_60 ?_
    refine v_ws (ws2 := [(h, co 7 [ar ta, ai kd, ai num, ai pv, ai (if ca = ma ∧ (-5 ≤ sc - ma ∧ sc - ma ≤ 5) then (if sk + 1 < 20 then sk + 1 else 20) else sk), ai hn, ai gl, ai (if ca = ma then (if sc < ma then ma else sc) else sc), ai (if 0 < pu - py * (ma - ca) then pu - py * (ma - ca) else 0)])]) (by rw [show (if ca = ma ∧ (-5 ≤ sc - ma ∧ sc - ma ≤ 5) then (if sk + 1 < 20 then sk + 1 else 20) else sk) = sk by first | (rw [if_pos (by omega)]; done) | (rw [if_neg (by omega)]; done), show (if ca = ma then (if sc < ma then ma else sc) else sc) = sc by first | (rw [if_pos (by omega)]; done) | (rw [if_neg (by omega)]; done)]) ?_
    exact hret () _ _ _ _ _ trivial rfl rfl (Nat.le_of_ble_eq_true rfl) (Nat.le_of_ble_eq_true rfl) dX5_hasTried_63
  · skip
    refine v_aload_n (pc := 5) 0 rfl dX5_hasTried_5 ?_
    refine v_get (pc := 6) (v := ai sc) 7 (Or.inr ⟨0, rfl⟩) fl_5_63_7 rfl dX5_hasTried_6 ?_
    refine v_iload_n (pc := 9) 1 rfl dX5_hasTried_9 ?_
    refine v_isub (pc := 10) dX5_hasTried_10 ?_
    refine v_callS (pc := 11) [] [0] [(h, co 7 [ar ta, ai kd, ai num, ai pv, ai sk, ai hn, ai gl, ai sc, ai pu])] (As := [ai (sc - ma)]) (rest := []) (c_J9_abs_0f7a4 (sc - ma) (by first | omega | assumption)) wl_X5_69 ws_J9_abs_0f7a4 wk_J9_abs_0f7a4 wz_J9 md_J9_abs_0f7a4 rfl (Nat.le_of_ble_eq_true rfl) ⟨Nat.le_of_ble_eq_true rfl, Nat.le_of_ble_eq_true rfl, Nat.le_of_ble_eq_true rfl, Nat.le_of_ble_eq_true rfl⟩ rfl rfl rfl rfl (by decide) ro_nil dX5_hasTried_11 (fun u hu => ?_)
    show V x cX5_hasTried RX5 4 (rmU 1 32 0 0) [(h, co 7 [ar ta, ai kd, ai num, ai pv, ai sk, ai hn, ai gl, ai sc, ai pu])] 14 [(0, ar h), (1, ai ma), (2, ai ca), (3, ai py)] [ai (kAbs (sc - ma))] 0 0
    refine v_iconst (pc := 14) dX5_hasTried_14 ?_
    refine v_icmp_gt (pc := 15) 33 dX5_hasTried_15 (by decide) (by unfold iB; omega) (by unfold iB; omega) (fun c_2 => ?_) (fun c_2 => ?_)
    · skip
      refine v_aload_n (pc := 33) 0 rfl dX5_hasTried_33 ?_
      refine v_aload_n (pc := 34) 0 rfl dX5_hasTried_34 ?_
      refine v_get (pc := 35) (v := ai sc) 7 (Or.inr ⟨0, rfl⟩) fl_5_63_7 rfl dX5_hasTried_35 ?_
      refine v_iload_n (pc := 38) 1 rfl dX5_hasTried_38 ?_
      refine v_callS (pc := 39) [] [0] [(h, co 7 [ar ta, ai kd, ai num, ai pv, ai sk, ai hn, ai gl, ai sc, ai pu])] (As := [ai sc, ai ma]) (rest := [ar h]) (c_J9_max_7cf53 sc ma (by first | omega | assumption) (by first | omega | assumption)) wl_X5_79 ws_J9_max_7cf53 wk_J9_max_7cf53 wz_J9 md_J9_max_7cf53 rfl (Nat.le_of_ble_eq_true rfl) ⟨Nat.le_of_ble_eq_true rfl, Nat.le_of_ble_eq_true rfl, Nat.le_of_ble_eq_true rfl, Nat.le_of_ble_eq_true rfl⟩ rfl rfl rfl rfl (by decide) ro_nil dX5_hasTried_39 (fun u hu => ?_)
      show V x cX5_hasTried RX5 4 (rmU 1 32 0 0) [(h, co 7 [ar ta, ai kd, ai num, ai pv, ai sk, ai hn, ai gl, ai sc, ai pu])] 42 [(0, ar h), (1, ai ma), (2, ai ca), (3, ai py)] [ai (if sc < ma then ma else sc), ar h] 0 0
      refine v_put (pc := 42) 7 0 rfl fl_5_63_7 ck_7 ft_7_7 (okV_i _) (Nat.le_of_ble_eq_true rfl) (ws2 := [(h, co 7 [ar ta, ai kd, ai num, ai pv, ai sk, ai hn, ai gl, ai (if sc < ma then ma else sc), ai pu])]) rfl dX5_hasTried_42 ?_
      refine v_aload_n (pc := 45) 0 rfl dX5_hasTried_45 ?_
      refine v_iconst (pc := 46) dX5_hasTried_46 ?_
      refine v_aload_n (pc := 47) 0 rfl dX5_hasTried_47 ?_
      refine v_get (pc := 48) (v := ai pu) 8 (Or.inr ⟨0, rfl⟩) fl_5_66_7 rfl dX5_hasTried_48 ?_
      refine v_iload_n (pc := 51) 3 rfl dX5_hasTried_51 ?_
      refine v_iload_n (pc := 52) 1 rfl dX5_hasTried_52 ?_
      refine v_iload_n (pc := 53) 2 rfl dX5_hasTried_53 ?_
      refine v_isub (pc := 54) dX5_hasTried_54 ?_
      refine v_imul (pc := 55) dX5_hasTried_55 ?_
      refine v_isub (pc := 56) dX5_hasTried_56 ?_
      refine v_callS (pc := 57) [] [0] [(h, co 7 [ar ta, ai kd, ai num, ai pv, ai sk, ai hn, ai gl, ai (if sc < ma then ma else sc), ai pu])] (As := [ai 0, ai (pu - (py * (ma - ca)))]) (rest := [ar h]) (c_J9_max_7cf53 0 (pu - (py * (ma - ca))) (by first | omega | assumption) (by first | omega | assumption)) wl_X5_79 ws_J9_max_7cf53 wk_J9_max_7cf53 wz_J9 md_J9_max_7cf53 rfl (Nat.le_of_ble_eq_true rfl) ⟨Nat.le_of_ble_eq_true rfl, Nat.le_of_ble_eq_true rfl, Nat.le_of_ble_eq_true rfl, Nat.le_of_ble_eq_true rfl⟩ rfl rfl rfl rfl (by decide) ro_nil dX5_hasTried_57 (fun u hu => ?_)
      show V x cX5_hasTried RX5 4 (rmU 1 32 0 0) [(h, co 7 [ar ta, ai kd, ai num, ai pv, ai sk, ai hn, ai gl, ai (if sc < ma then ma else sc), ai pu])] 60 [(0, ar h), (1, ai ma), (2, ai ca), (3, ai py)] [ai (if 0 < (pu - (py * (ma - ca))) then (pu - (py * (ma - ca))) else 0), ar h] 0 0
      refine v_put (pc := 60) 8 0 rfl fl_5_66_7 ck_7 ft_7_8 (okV_i _) (Nat.le_of_ble_eq_true rfl) (ws2 := [(h, co 7 [ar ta, ai kd, ai num, ai pv, ai sk, ai hn, ai gl, ai (if sc < ma then ma else sc), ai (if 0 < (pu - (py * (ma - ca))) then (pu - (py * (ma - ca))) else 0)])]) rfl dX5_hasTried_60 ?_
      refine v_ws (ws2 := [(h, co 7 [ar ta, ai kd, ai num, ai pv, ai (if ca = ma ∧ (-5 ≤ sc - ma ∧ sc - ma ≤ 5) then (if sk + 1 < 20 then sk + 1 else 20) else sk), ai hn, ai gl, ai (if ca = ma then (if sc < ma then ma else sc) else sc), ai (if 0 < pu - py * (ma - ca) then pu - py * (ma - ca) else 0)])]) (by rw [show (if ca = ma ∧ (-5 ≤ sc - ma ∧ sc - ma ≤ 5) then (if sk + 1 < 20 then sk + 1 else 20) else sk) = sk by first | (rw [if_pos (by omega)]; done) | (rw [if_neg (by omega)]; done), show (if ca = ma then (if sc < ma then ma else sc) else sc) = (if sc < ma then ma else sc) by first | (rw [if_pos (by omega)]; done) | (rw [if_neg (by omega)]; done)]) ?_
      exact hret () _ _ _ _ _ trivial rfl rfl (Nat.le_of_ble_eq_true rfl) (Nat.le_of_ble_eq_true rfl) dX5_hasTried_63
    · skip
      refine v_aload_n (pc := 18) 0 rfl dX5_hasTried_18 ?_
      refine v_bipush (pc := 19) dX5_hasTried_19 (by decide) ?_
      refine v_aload_n (pc := 21) 0 rfl dX5_hasTried_21 ?_
      refine v_get (pc := 22) (v := ai sk) 4 (Or.inr ⟨0, rfl⟩) fl_5_54_7 rfl dX5_hasTried_22 ?_
      refine v_iconst (pc := 25) dX5_hasTried_25 ?_
      refine v_iadd (pc := 26) dX5_hasTried_26 ?_
      refine v_callS (pc := 27) [] [0] [(h, co 7 [ar ta, ai kd, ai num, ai pv, ai sk, ai hn, ai gl, ai sc, ai pu])] (As := [ai 20, ai (sk + 1)]) (rest := [ar h]) (c_J9_min_7cf53 20 (sk + 1) (by first | omega | assumption) (by first | omega | assumption)) wl_X5_75 ws_J9_min_7cf53 wk_J9_min_7cf53 wz_J9 md_J9_min_7cf53 rfl (Nat.le_of_ble_eq_true rfl) ⟨Nat.le_of_ble_eq_true rfl, Nat.le_of_ble_eq_true rfl, Nat.le_of_ble_eq_true rfl, Nat.le_of_ble_eq_true rfl⟩ rfl rfl rfl rfl (by decide) ro_nil dX5_hasTried_27 (fun u hu => ?_)
      show V x cX5_hasTried RX5 4 (rmU 1 32 0 0) [(h, co 7 [ar ta, ai kd, ai num, ai pv, ai sk, ai hn, ai gl, ai sc, ai pu])] 30 [(0, ar h), (1, ai ma), (2, ai ca), (3, ai py)] [ai (if (sk + 1) < 20 then (sk + 1) else 20), ar h] 0 0
      refine v_put (pc := 30) 4 0 rfl fl_5_54_7 ck_7 ft_7_4 (okV_i _) (Nat.le_of_ble_eq_true rfl) (ws2 := [(h, co 7 [ar ta, ai kd, ai num, ai pv, ai (if (sk + 1) < 20 then (sk + 1) else 20), ai hn, ai gl, ai sc, ai pu])]) rfl dX5_hasTried_30 ?_
      refine v_aload_n (pc := 33) 0 rfl dX5_hasTried_33 ?_
      refine v_aload_n (pc := 34) 0 rfl dX5_hasTried_34 ?_
      refine v_get (pc := 35) (v := ai sc) 7 (Or.inr ⟨0, rfl⟩) fl_5_63_7 rfl dX5_hasTried_35 ?_
      refine v_iload_n (pc := 38) 1 rfl dX5_hasTried_38 ?_
      refine v_callS (pc := 39) [] [0] [(h, co 7 [ar ta, ai kd, ai num, ai pv, ai (if (sk + 1) < 20 then (sk + 1) else 20), ai hn, ai gl, ai sc, ai pu])] (As := [ai sc, ai ma]) (rest := [ar h]) (c_J9_max_7cf53 sc ma (by first | omega | assumption) (by first | omega | assumption)) wl_X5_79 ws_J9_max_7cf53 wk_J9_max_7cf53 wz_J9 md_J9_max_7cf53 rfl (Nat.le_of_ble_eq_true rfl) ⟨Nat.le_of_ble_eq_true rfl, Nat.le_of_ble_eq_true rfl, Nat.le_of_ble_eq_true rfl, Nat.le_of_ble_eq_true rfl⟩ rfl rfl rfl rfl (by decide) ro_nil dX5_hasTried_39 (fun u hu => ?_)
      show V x cX5_hasTried RX5 4 (rmU 1 32 0 0) [(h, co 7 [ar ta, ai kd, ai num, ai pv, ai (if (sk + 1) < 20 then (sk + 1) else 20), ai hn, ai gl, ai sc, ai pu])] 42 [(0, ar h), (1, ai ma), (2, ai ca), (3, ai py)] [ai (if sc < ma then ma else sc), ar h] 0 0
      refine v_put (pc := 42) 7 0 rfl fl_5_63_7 ck_7 ft_7_7 (okV_i _) (Nat.le_of_ble_eq_true rfl) (ws2 := [(h, co 7 [ar ta, ai kd, ai num, ai pv, ai (if (sk + 1) < 20 then (sk + 1) else 20), ai hn, ai gl, ai (if sc < ma then ma else sc), ai pu])]) rfl dX5_hasTried_42 ?_
      refine v_aload_n (pc := 45) 0 rfl dX5_hasTried_45 ?_
      refine v_iconst (pc := 46) dX5_hasTried_46 ?_
      refine v_aload_n (pc := 47) 0 rfl dX5_hasTried_47 ?_
      refine v_get (pc := 48) (v := ai pu) 8 (Or.inr ⟨0, rfl⟩) fl_5_66_7 rfl dX5_hasTried_48 ?_
      refine v_iload_n (pc := 51) 3 rfl dX5_hasTried_51 ?_
      refine v_iload_n (pc := 52) 1 rfl dX5_hasTried_52 ?_
      refine v_iload_n (pc := 53) 2 rfl dX5_hasTried_53 ?_
      refine v_isub (pc := 54) dX5_hasTried_54 ?_
      refine v_imul (pc := 55) dX5_hasTried_55 ?_
      refine v_isub (pc := 56) dX5_hasTried_56 ?_
      refine v_callS (pc := 57) [] [0] [(h, co 7 [ar ta, ai kd, ai num, ai pv, ai (if (sk + 1) < 20 then (sk + 1) else 20), ai hn, ai gl, ai (if sc < ma then ma else sc), ai pu])] (As := [ai 0, ai (pu - (py * (ma - ca)))]) (rest := [ar h]) (c_J9_max_7cf53 0 (pu - (py * (ma - ca))) (by first | omega | assumption) (by first | omega | assumption)) wl_X5_79 ws_J9_max_7cf53 wk_J9_max_7cf53 wz_J9 md_J9_max_7cf53 rfl (Nat.le_of_ble_eq_true rfl) ⟨Nat.le_of_ble_eq_true rfl, Nat.le_of_ble_eq_true rfl, Nat.le_of_ble_eq_true rfl, Nat.le_of_ble_eq_true rfl⟩ rfl rfl rfl rfl (by decide) ro_nil dX5_hasTried_57 (fun u hu => ?_)
      show V x cX5_hasTried RX5 4 (rmU 1 32 0 0) [(h, co 7 [ar ta, ai kd, ai num, ai pv, ai (if (sk + 1) < 20 then (sk + 1) else 20), ai hn, ai gl, ai (if sc < ma then ma else sc), ai pu])] 60 [(0, ar h), (1, ai ma), (2, ai ca), (3, ai py)] [ai (if 0 < (pu - (py * (ma - ca))) then (pu - (py * (ma - ca))) else 0), ar h] 0 0
      refine v_put (pc := 60) 8 0 rfl fl_5_66_7 ck_7 ft_7_8 (okV_i _) (Nat.le_of_ble_eq_true rfl) (ws2 := [(h, co 7 [ar ta, ai kd, ai num, ai pv, ai (if (sk + 1) < 20 then (sk + 1) else 20), ai hn, ai gl, ai (if sc < ma then ma else sc), ai (if 0 < (pu - (py * (ma - ca))) then (pu - (py * (ma - ca))) else 0)])]) rfl dX5_hasTried_60 ?_
      refine v_ws (ws2 := [(h, co 7 [ar ta, ai kd, ai num, ai pv, ai (if ca = ma ∧ (-5 ≤ sc - ma ∧ sc - ma ≤ 5) then (if sk + 1 < 20 then sk + 1 else 20) else sk), ai hn, ai gl, ai (if ca = ma then (if sc < ma then ma else sc) else sc), ai (if 0 < pu - py * (ma - ca) then pu - py * (ma - ca) else 0)])]) (by rw [show (if ca = ma ∧ (-5 ≤ sc - ma ∧ sc - ma ≤ 5) then (if sk + 1 < 20 then sk + 1 else 20) else sk) = (if (sk + 1) < 20 then (sk + 1) else 20) by first | (rw [if_pos (by omega)]; done) | (rw [if_neg (by omega)]; done), show (if ca = ma then (if sc < ma then ma else sc) else sc) = (if sc < ma then ma else sc) by first | (rw [if_pos (by omega)]; done) | (rw [if_neg (by omega)]; done)]) ?_
      exact hret () _ _ _ _ _ trivial rfl rfl (Nat.le_of_ble_eq_true rfl) (Nat.le_of_ble_eq_true rfl) dX5_hasTried_63
set_option maxHeartbeats 4000000 in
set_option maxRecDepth 100000 in
theorem c_X5_lean_k1 {gS : sG} (h : Nat) (ta : Nat) (kd : Int) (num : Int) (pv : Int) (sk : Int) (hn : Int) (gl : Int) (sc : Int) (pu : Int) (tt : Int) : Ct gS (S := Unit) yX5_lean cX5_lean 2 (some .int) 0 0 0 0 [ar h, ai tt] [] (fun q => q ∈ ([(h, co 1 [ar ta, ai kd, ai num, ai pv, ai sk, ai hn, ai gl, ai sc, ai pu])] : aW)) (fun _ => True) (fun _ => some (ai 0)) (fun _ => []) := by
  refine ct_I RX5 [(0, ar h), (1, ai tt)] (by decide) rfl (Nat.le_of_ble_eq_true rfl) rfl (fun x hgS hro hret => ?_)
  subst hgS
  have r0 := hro _ (mem_at 0 rfl)
  show V x cX5_lean RX5 2 (rmU 0 0 0 0) [] 0 [(0, ar h), (1, ai tt)] [] 0 0
  refine v_iconst (pc := 0) dX5_lean_0 ?_
  exact hret () _ _ _ _ _ _ trivial (congrArg (fun z => some (ai z)) (by rfl)) rfl (Nat.le_of_ble_eq_true rfl) (Nat.le_of_ble_eq_true rfl) dX5_lean_1
set_option maxHeartbeats 4000000 in
set_option maxRecDepth 100000 in
theorem c_X5_unsureBy_k1 {gS : sG} (h : Nat) (ta : Nat) (kd : Int) (num : Int) (pv : Int) (sk : Int) (hn : Int) (gl : Int) (sc : Int) (pu : Int) (s1 : Int) (g1 : Int) (hsk : 0 ≤ s1 ∧ s1 ≤ 40) (hgl : 0 ≤ g1 ∧ g1 ≤ 40) : Ct gS (S := Unit) yX5_unsureBy cX5_unsureBy 4 (some .int) 0 0 0 0 [ar h, ai s1, ai g1] [] (fun q => q ∈ ([(h, co 1 [ar ta, ai kd, ai num, ai pv, ai sk, ai hn, ai gl, ai sc, ai pu])] : aW)) (fun _ => True) (fun _ => some (ai (kUns s1 g1))) (fun _ => []) := by
  refine ct_I RX5 [(0, ar h), (1, ai s1), (2, ai g1)] (by decide) rfl (Nat.le_of_ble_eq_true rfl) rfl (fun x hgS hro hret => ?_)
  subst hgS
  have r0 := hro _ (mem_at 0 rfl)
  show V x cX5_unsureBy RX5 4 (rmU 0 0 0 0) [] 0 [(0, ar h), (1, ai s1), (2, ai g1)] [] 0 0
  refine v_iconst (pc := 0) dX5_unsureBy_0 ?_
  refine v_iload_n (pc := 1) 2 rfl dX5_unsureBy_1 ?_
  refine v_iadd (pc := 2) dX5_unsureBy_2 ?_
  refine v_iload_n (pc := 3) 1 rfl dX5_unsureBy_3 ?_
  refine v_iconst (pc := 4) dX5_unsureBy_4 ?_
  refine v_idiv (pc := 5) (by omega) (by omega) (by unfold iB; omega) (by unfold iB; omega) dX5_unsureBy_5 ?_
  refine v_isub (pc := 6) dX5_unsureBy_6 ?_
  refine v_istore_n (pc := 7) (L2 := [(3, ai ((3 + g1) - (s1 / 4))), (0, ar h), (1, ai s1), (2, ai g1)]) rfl (by decide) dX5_unsureBy_7 ?_
  refine v_iload_n (pc := 8) 0 rfl dX5_unsureBy_8 ?_
  refine v_if_ge (pc := 9) 16 dX5_unsureBy_9 (by decide) (by unfold iB; omega) (fun c_1 => ?_) (fun c_1 => ?_)
  · skip
    refine v_iload_n (pc := 16) 0 rfl dX5_unsureBy_16 ?_
    exact hret () _ _ _ _ _ _ trivial (congrArg (fun z => some (ai z)) (by unfold kUns; split <;> omega)) rfl (Nat.le_of_ble_eq_true rfl) (Nat.le_of_ble_eq_true rfl) dX5_unsureBy_17
  · skip
    refine v_iconst (pc := 12) dX5_unsureBy_12 ?_
    refine v_goto (pc := 13) 17 dX5_unsureBy_13 (by decide) ?_
    exact hret () _ _ _ _ _ _ trivial (congrArg (fun z => some (ai z)) (by unfold kUns; split <;> omega)) rfl (Nat.le_of_ble_eq_true rfl) (Nat.le_of_ble_eq_true rfl) dX5_unsureBy_17
set_option maxHeartbeats 4000000 in
set_option maxRecDepth 100000 in
theorem c_X8_unsureBy_k1 {gS : sG} (h : Nat) (ta : Nat) (kd : Int) (num : Int) (pv : Int) (sk : Int) (hn : Int) (gl : Int) (sc : Int) (pu : Int) (s1 : Int) (g1 : Int) (hsk : 0 ≤ s1 ∧ s1 ≤ 40) (hgl : 0 ≤ g1 ∧ g1 ≤ 40) : Ct gS (S := Unit) yX8_unsureBy cX8_unsureBy 3 (some .int) 1 23 0 0 [ar h, ai s1, ai g1] [] (fun q => q ∈ ([(h, co 1 [ar ta, ai kd, ai num, ai pv, ai sk, ai hn, ai gl, ai sc, ai pu])] : aW)) (fun _ => True) (fun _ => some (ai (kUns s1 g1 / 2))) (fun _ => []) := by
  refine ct_I RX8 [(0, ar h), (1, ai s1), (2, ai g1)] (by decide) rfl (Nat.le_of_ble_eq_true rfl) rfl (fun x hgS hro hret => ?_)
  subst hgS
  have r0 := hro _ (mem_at 0 rfl)
  have hku : 0 ≤ kUns s1 g1 ∧ kUns s1 g1 ≤ 50 := by unfold kUns; split <;> omega
  show V x cX8_unsureBy RX8 3 (rmU 1 23 0 0) [] 0 [(0, ar h), (1, ai s1), (2, ai g1)] [] 0 0
  refine v_aload_n (pc := 0) 0 rfl dX8_unsureBy_0 ?_
  refine v_iload_n (pc := 1) 1 rfl dX8_unsureBy_1 ?_
  refine v_iload_n (pc := 2) 2 rfl dX8_unsureBy_2 ?_
  refine v_callSU (pc := 3) [] [] [] (z := yX5_unsureBy) (As := [ai s1, ai g1]) (rest := []) (c_X5_unsureBy_k1 h ta kd num pv sk hn gl sc pu s1 g1 (by first | omega | assumption) (by first | omega | assumption)) (c := 1) rfl wsc_1 (Or.inl r0) wl_X8_7 wsm_0 wsc_8 (Or.inl rfl) rfl wi_X5_unsureBy wk_X5_unsureBy wz_X5 mds_X5_unsureBy rfl (Nat.le_of_ble_eq_true rfl) ⟨Nat.le_of_ble_eq_true rfl, Nat.le_of_ble_eq_true rfl, Nat.le_of_ble_eq_true rfl, Nat.le_of_ble_eq_true rfl⟩ rfl rfl rfl rfl (by decide) (ro_cons (Or.inl r0) ro_nil) dX8_unsureBy_3 (fun u hu => ?_)
  show V x cX8_unsureBy RX8 3 (rmU 1 23 0 0) [] 6 [(0, ar h), (1, ai s1), (2, ai g1)] [ai (kUns s1 g1)] 0 0
  refine v_iconst (pc := 6) dX8_unsureBy_6 ?_
  refine v_idiv (pc := 7) (by omega) (by omega) (by unfold iB; omega) (by unfold iB; omega) dX8_unsureBy_7 ?_
  exact hret () _ _ _ _ _ _ trivial (congrArg (fun z => some (ai z)) (by rfl)) rfl (Nat.le_of_ble_eq_true rfl) (Nat.le_of_ble_eq_true rfl) dX8_unsureBy_8
set_option maxHeartbeats 4000000 in
set_option maxRecDepth 100000 in
theorem c_X1_unsureBy_k1 {gS : sG} (h : Nat) (ta : Nat) (kd : Int) (num : Int) (pv : Int) (sk : Int) (hn : Int) (gl : Int) (sc : Int) (pu : Int) (s1 : Int) (g1 : Int) (hsk : 0 ≤ s1 ∧ s1 ≤ 40) (hgl : 0 ≤ g1 ∧ g1 ≤ 40) : Ct gS (S := Unit) yX1_unsureBy cX1_unsureBy 3 (some .int) 2 45 0 0 [ar h, ai s1, ai g1] [] (fun q => q ∈ ([(h, co 1 [ar ta, ai kd, ai num, ai pv, ai sk, ai hn, ai gl, ai sc, ai pu])] : aW)) (fun _ => True) (fun _ => some (ai (kUns s1 0 / 2))) (fun _ => []) := by
  refine ct_I RX1 [(0, ar h), (1, ai s1), (2, ai g1)] (by decide) rfl (Nat.le_of_ble_eq_true rfl) rfl (fun x hgS hro hret => ?_)
  subst hgS
  have r0 := hro _ (mem_at 0 rfl)
  show V x cX1_unsureBy RX1 3 (rmU 2 45 0 0) [] 0 [(0, ar h), (1, ai s1), (2, ai g1)] [] 0 0
  refine v_aload_n (pc := 0) 0 rfl dX1_unsureBy_0 ?_
  refine v_iload_n (pc := 1) 1 rfl dX1_unsureBy_1 ?_
  refine v_iconst (pc := 2) dX1_unsureBy_2 ?_
  refine v_callSU (pc := 3) [] [] [] (z := yX8_unsureBy) (As := [ai s1, ai 0]) (rest := []) (c_X8_unsureBy_k1 h ta kd num pv sk hn gl sc pu s1 0 (by first | omega | assumption) (by first | omega | assumption)) (c := 1) rfl wsc_1 (Or.inl r0) wl_X1_7 wsm_20 wsc_1 (Or.inl rfl) rfl wi_X8_unsureBy wk_X8_unsureBy wz_X8 mds_X8_unsureBy rfl (Nat.le_of_ble_eq_true rfl) ⟨Nat.le_of_ble_eq_true rfl, Nat.le_of_ble_eq_true rfl, Nat.le_of_ble_eq_true rfl, Nat.le_of_ble_eq_true rfl⟩ rfl rfl rfl rfl (by decide) (ro_cons (Or.inl r0) ro_nil) dX1_unsureBy_3 (fun u hu => ?_)
  show V x cX1_unsureBy RX1 3 (rmU 2 45 0 0) [] 6 [(0, ar h), (1, ai s1), (2, ai g1)] [ai (kUns s1 0 / 2)] 0 0
  exact hret () _ _ _ _ _ _ trivial (congrArg (fun z => some (ai z)) (by rfl)) rfl (Nat.le_of_ble_eq_true rfl) (Nat.le_of_ble_eq_true rfl) dX1_unsureBy_6
set_option maxHeartbeats 4000000 in
set_option maxRecDepth 100000 in
theorem c_X5_hasTried_k1 {gS : sG} (h : Nat) (ta : Nat) (kd : Int) (num : Int) (pv : Int) (sk : Int) (hn : Int) (gl : Int) (sc : Int) (pu : Int) (ma : Int) (ca : Int) (py : Int) (hma : 0 ≤ ma ∧ ma ≤ 99) (hca : 0 ≤ ca ∧ ca ≤ ma) (hpy : 0 ≤ py ∧ py ≤ 99) (hsc : 0 ≤ sc ∧ sc ≤ 99) (hskk : 0 ≤ sk ∧ sk ≤ 20) (hpu : 0 ≤ pu ∧ pu ≤ 9999) : Ct gS (S := Unit) yX5_hasTried cX5_hasTried 4 none 1 32 0 0 [ar h, ai ma, ai ca, ai py] [(h, co 1 [ar ta, ai kd, ai num, ai pv, ai sk, ai hn, ai gl, ai sc, ai pu])] (fun q => q ∈ ([] : aW)) (fun _ => True) (fun _ => none) (fun _ => [(h, co 1 [ar ta, ai kd, ai num, ai pv, ai (if ca = ma ∧ (-5 ≤ sc - ma ∧ sc - ma ≤ 5) then (if sk + 1 < 20 then sk + 1 else 20) else sk), ai hn, ai gl, ai (if ca = ma then (if sc < ma then ma else sc) else sc), ai (if 0 < pu - py * (ma - ca) then pu - py * (ma - ca) else 0)])]) := by
  refine ct_V RX5 [(0, ar h), (1, ai ma), (2, ai ca), (3, ai py)] (by decide) rfl (Nat.le_of_ble_eq_true rfl) rfl (fun x hgS hnm hro hret => ?_)
  subst hgS
  have hab : kAbs (sc - ma) ≤ 5 ↔ (-5 ≤ sc - ma ∧ sc - ma ≤ 5) := by unfold kAbs; split <;> omega
  have hab2 : 0 ≤ kAbs (sc - ma) ∧ kAbs (sc - ma) ≤ 200 := by unfold kAbs; split <;> omega
  have hmul : 0 ≤ py * (ma - ca) ∧ py * (ma - ca) ≤ 99 * 99 := ⟨Int.mul_nonneg hpy.1 (by omega), Int.mul_le_mul hpy.2 (by omega) (by omega) (by decide)⟩
  show V x cX5_hasTried RX5 4 (rmU 1 32 0 0) [(h, co 1 [ar ta, ai kd, ai num, ai pv, ai sk, ai hn, ai gl, ai sc, ai pu])] 0 [(0, ar h), (1, ai ma), (2, ai ca), (3, ai py)] [] 0 0
  refine v_iload_n (pc := 0) 2 rfl dX5_hasTried_0 ?_
  refine v_iload_n (pc := 1) 1 rfl dX5_hasTried_1 ?_
  refine v_icmp_ne (pc := 2) 45 dX5_hasTried_2 (by decide) (by unfold iB; omega) (by unfold iB; omega) (fun c_1 => ?_) (fun c_1 => ?_)
  · skip
    refine v_aload_n (pc := 45) 0 rfl dX5_hasTried_45 ?_
    refine v_iconst (pc := 46) dX5_hasTried_46 ?_
    refine v_aload_n (pc := 47) 0 rfl dX5_hasTried_47 ?_
    refine v_get (pc := 48) (v := ai pu) 8 (Or.inr ⟨0, rfl⟩) fl_5_66_1 rfl dX5_hasTried_48 ?_
    refine v_iload_n (pc := 51) 3 rfl dX5_hasTried_51 ?_
    refine v_iload_n (pc := 52) 1 rfl dX5_hasTried_52 ?_
    refine v_iload_n (pc := 53) 2 rfl dX5_hasTried_53 ?_
    refine v_isub (pc := 54) dX5_hasTried_54 ?_
    refine v_imul (pc := 55) dX5_hasTried_55 ?_
    refine v_isub (pc := 56) dX5_hasTried_56 ?_
    refine v_callS (pc := 57) [] [0] [(h, co 1 [ar ta, ai kd, ai num, ai pv, ai sk, ai hn, ai gl, ai sc, ai pu])] (As := [ai 0, ai (pu - (py * (ma - ca)))]) (rest := [ar h]) (c_J9_max_7cf53 0 (pu - (py * (ma - ca))) (by first | omega | assumption) (by first | omega | assumption)) wl_X5_79 ws_J9_max_7cf53 wk_J9_max_7cf53 wz_J9 md_J9_max_7cf53 rfl (Nat.le_of_ble_eq_true rfl) ⟨Nat.le_of_ble_eq_true rfl, Nat.le_of_ble_eq_true rfl, Nat.le_of_ble_eq_true rfl, Nat.le_of_ble_eq_true rfl⟩ rfl rfl rfl rfl (by decide) ro_nil dX5_hasTried_57 (fun u hu => ?_)
    show V x cX5_hasTried RX5 4 (rmU 1 32 0 0) [(h, co 1 [ar ta, ai kd, ai num, ai pv, ai sk, ai hn, ai gl, ai sc, ai pu])] 60 [(0, ar h), (1, ai ma), (2, ai ca), (3, ai py)] [ai (if 0 < (pu - (py * (ma - ca))) then (pu - (py * (ma - ca))) else 0), ar h] 0 0
    refine v_put (pc := 60) 8 0 rfl fl_5_66_1 ck_1 ft_1_8 (okV_i _) (Nat.le_of_ble_eq_true rfl) (ws2 := [(h, co 1 [ar ta, ai kd, ai num, ai pv, ai sk, ai hn, ai gl, ai sc, ai (if 0 < (pu - (py * (ma - ca))) then (pu - (py * (ma - ca))) else 0)])]) rfl dX5_hasTried_60 ?_
    refine v_ws (ws2 := [(h, co 1 [ar ta, ai kd, ai num, ai pv, ai (if ca = ma ∧ (-5 ≤ sc - ma ∧ sc - ma ≤ 5) then (if sk + 1 < 20 then sk + 1 else 20) else sk), ai hn, ai gl, ai (if ca = ma then (if sc < ma then ma else sc) else sc), ai (if 0 < pu - py * (ma - ca) then pu - py * (ma - ca) else 0)])]) (by rw [show (if ca = ma ∧ (-5 ≤ sc - ma ∧ sc - ma ≤ 5) then (if sk + 1 < 20 then sk + 1 else 20) else sk) = sk by first | (rw [if_pos (by omega)]; done) | (rw [if_neg (by omega)]; done), show (if ca = ma then (if sc < ma then ma else sc) else sc) = sc by first | (rw [if_pos (by omega)]; done) | (rw [if_neg (by omega)]; done)]) ?_
    exact hret () _ _ _ _ _ trivial rfl rfl (Nat.le_of_ble_eq_true rfl) (Nat.le_of_ble_eq_true rfl) dX5_hasTried_63
  · skip
    refine v_aload_n (pc := 5) 0 rfl dX5_hasTried_5 ?_
    refine v_get (pc := 6) (v := ai sc) 7 (Or.inr ⟨0, rfl⟩) fl_5_63_1 rfl dX5_hasTried_6 ?_
    refine v_iload_n (pc := 9) 1 rfl dX5_hasTried_9 ?_
    refine v_isub (pc := 10) dX5_hasTried_10 ?_
    refine v_callS (pc := 11) [] [0] [(h, co 1 [ar ta, ai kd, ai num, ai pv, ai sk, ai hn, ai gl, ai sc, ai pu])] (As := [ai (sc - ma)]) (rest := []) (c_J9_abs_0f7a4 (sc - ma) (by first | omega | assumption)) wl_X5_69 ws_J9_abs_0f7a4 wk_J9_abs_0f7a4 wz_J9 md_J9_abs_0f7a4 rfl (Nat.le_of_ble_eq_true rfl) ⟨Nat.le_of_ble_eq_true rfl, Nat.le_of_ble_eq_true rfl, Nat.le_of_ble_eq_true rfl, Nat.le_of_ble_eq_true rfl⟩ rfl rfl rfl rfl (by decide) ro_nil dX5_hasTried_11 (fun u hu => ?_)
    show V x cX5_hasTried RX5 4 (rmU 1 32 0 0) [(h, co 1 [ar ta, ai kd, ai num, ai pv, ai sk, ai hn, ai gl, ai sc, ai pu])] 14 [(0, ar h), (1, ai ma), (2, ai ca), (3, ai py)] [ai (kAbs (sc - ma))] 0 0
    refine v_iconst (pc := 14) dX5_hasTried_14 ?_
    refine v_icmp_gt (pc := 15) 33 dX5_hasTried_15 (by decide) (by unfold iB; omega) (by unfold iB; omega) (fun c_2 => ?_) (fun c_2 => ?_)
    · skip
      refine v_aload_n (pc := 33) 0 rfl dX5_hasTried_33 ?_
      refine v_aload_n (pc := 34) 0 rfl dX5_hasTried_34 ?_
      refine v_get (pc := 35) (v := ai sc) 7 (Or.inr ⟨0, rfl⟩) fl_5_63_1 rfl dX5_hasTried_35 ?_
      refine v_iload_n (pc := 38) 1 rfl dX5_hasTried_38 ?_
      refine v_callS (pc := 39) [] [0] [(h, co 1 [ar ta, ai kd, ai num, ai pv, ai sk, ai hn, ai gl, ai sc, ai pu])] (As := [ai sc, ai ma]) (rest := [ar h]) (c_J9_max_7cf53 sc ma (by first | omega | assumption) (by first | omega | assumption)) wl_X5_79 ws_J9_max_7cf53 wk_J9_max_7cf53 wz_J9 md_J9_max_7cf53 rfl (Nat.le_of_ble_eq_true rfl) ⟨Nat.le_of_ble_eq_true rfl, Nat.le_of_ble_eq_true rfl, Nat.le_of_ble_eq_true rfl, Nat.le_of_ble_eq_true rfl⟩ rfl rfl rfl rfl (by decide) ro_nil dX5_hasTried_39 (fun u hu => ?_)
      show V x cX5_hasTried RX5 4 (rmU 1 32 0 0) [(h, co 1 [ar ta, ai kd, ai num, ai pv, ai sk, ai hn, ai gl, ai sc, ai pu])] 42 [(0, ar h), (1, ai ma), (2, ai ca), (3, ai py)] [ai (if sc < ma then ma else sc), ar h] 0 0
      refine v_put (pc := 42) 7 0 rfl fl_5_63_1 ck_1 ft_1_7 (okV_i _) (Nat.le_of_ble_eq_true rfl) (ws2 := [(h, co 1 [ar ta, ai kd, ai num, ai pv, ai sk, ai hn, ai gl, ai (if sc < ma then ma else sc), ai pu])]) rfl dX5_hasTried_42 ?_
      refine v_aload_n (pc := 45) 0 rfl dX5_hasTried_45 ?_
      refine v_iconst (pc := 46) dX5_hasTried_46 ?_
      refine v_aload_n (pc := 47) 0 rfl dX5_hasTried_47 ?_
      refine v_get (pc := 48) (v := ai pu) 8 (Or.inr ⟨0, rfl⟩) fl_5_66_1 rfl dX5_hasTried_48 ?_
      refine v_iload_n (pc := 51) 3 rfl dX5_hasTried_51 ?_
      refine v_iload_n (pc := 52) 1 rfl dX5_hasTried_52 ?_
      refine v_iload_n (pc := 53) 2 rfl dX5_hasTried_53 ?_
      refine v_isub (pc := 54) dX5_hasTried_54 ?_
      refine v_imul (pc := 55) dX5_hasTried_55 ?_
      refine v_isub (pc := 56) dX5_hasTried_56 ?_
      refine v_callS (pc := 57) [] [0] [(h, co 1 [ar ta, ai kd, ai num, ai pv, ai sk, ai hn, ai gl, ai (if sc < ma then ma else sc), ai pu])] (As := [ai 0, ai (pu - (py * (ma - ca)))]) (rest := [ar h]) (c_J9_max_7cf53 0 (pu - (py * (ma - ca))) (by first | omega | assumption) (by first | omega | assumption)) wl_X5_79 ws_J9_max_7cf53 wk_J9_max_7cf53 wz_J9 md_J9_max_7cf53 rfl (Nat.le_of_ble_eq_true rfl) ⟨Nat.le_of_ble_eq_true rfl, Nat.le_of_ble_eq_true rfl, Nat.le_of_ble_eq_true rfl, Nat.le_of_ble_eq_true rfl⟩ rfl rfl rfl rfl (by decide) ro_nil dX5_hasTried_57 (fun u hu => ?_)
      show V x cX5_hasTried RX5 4 (rmU 1 32 0 0) [(h, co 1 [ar ta, ai kd, ai num, ai pv, ai sk, ai hn, ai gl, ai (if sc < ma then ma else sc), ai pu])] 60 [(0, ar h), (1, ai ma), (2, ai ca), (3, ai py)] [ai (if 0 < (pu - (py * (ma - ca))) then (pu - (py * (ma - ca))) else 0), ar h] 0 0
      refine v_put (pc := 60) 8 0 rfl fl_5_66_1 ck_1 ft_1_8 (okV_i _) (Nat.le_of_ble_eq_true rfl) (ws2 := [(h, co 1 [ar ta, ai kd, ai num, ai pv, ai sk, ai hn, ai gl, ai (if sc < ma then ma else sc), ai (if 0 < (pu - (py * (ma - ca))) then (pu - (py * (ma - ca))) else 0)])]) rfl dX5_hasTried_60 ?_
      refine v_ws (ws2 := [(h, co 1 [ar ta, ai kd, ai num, ai pv, ai (if ca = ma ∧ (-5 ≤ sc - ma ∧ sc - ma ≤ 5) then (if sk + 1 < 20 then sk + 1 else 20) else sk), ai hn, ai gl, ai (if ca = ma then (if sc < ma then ma else sc) else sc), ai (if 0 < pu - py * (ma - ca) then pu - py * (ma - ca) else 0)])]) (by rw [show (if ca = ma ∧ (-5 ≤ sc - ma ∧ sc - ma ≤ 5) then (if sk + 1 < 20 then sk + 1 else 20) else sk) = sk by first | (rw [if_pos (by omega)]; done) | (rw [if_neg (by omega)]; done), show (if ca = ma then (if sc < ma then ma else sc) else sc) = (if sc < ma then ma else sc) by first | (rw [if_pos (by omega)]; done) | (rw [if_neg (by omega)]; done)]) ?_
      exact hret () _ _ _ _ _ trivial rfl rfl (Nat.le_of_ble_eq_true rfl) (Nat.le_of_ble_eq_true rfl) dX5_hasTried_63
    · skip
      refine v_aload_n (pc := 18) 0 rfl dX5_hasTried_18 ?_
      refine v_bipush (pc := 19) dX5_hasTried_19 (by decide) ?_
      refine v_aload_n (pc := 21) 0 rfl dX5_hasTried_21 ?_
      refine v_get (pc := 22) (v := ai sk) 4 (Or.inr ⟨0, rfl⟩) fl_5_54_1 rfl dX5_hasTried_22 ?_
      refine v_iconst (pc := 25) dX5_hasTried_25 ?_
      refine v_iadd (pc := 26) dX5_hasTried_26 ?_
      refine v_callS (pc := 27) [] [0] [(h, co 1 [ar ta, ai kd, ai num, ai pv, ai sk, ai hn, ai gl, ai sc, ai pu])] (As := [ai 20, ai (sk + 1)]) (rest := [ar h]) (c_J9_min_7cf53 20 (sk + 1) (by first | omega | assumption) (by first | omega | assumption)) wl_X5_75 ws_J9_min_7cf53 wk_J9_min_7cf53 wz_J9 md_J9_min_7cf53 rfl (Nat.le_of_ble_eq_true rfl) ⟨Nat.le_of_ble_eq_true rfl, Nat.le_of_ble_eq_true rfl, Nat.le_of_ble_eq_true rfl, Nat.le_of_ble_eq_true rfl⟩ rfl rfl rfl rfl (by decide) ro_nil dX5_hasTried_27 (fun u hu => ?_)
      show V x cX5_hasTried RX5 4 (rmU 1 32 0 0) [(h, co 1 [ar ta, ai kd, ai num, ai pv, ai sk, ai hn, ai gl, ai sc, ai pu])] 30 [(0, ar h), (1, ai ma), (2, ai ca), (3, ai py)] [ai (if (sk + 1) < 20 then (sk + 1) else 20), ar h] 0 0
      refine v_put (pc := 30) 4 0 rfl fl_5_54_1 ck_1 ft_1_4 (okV_i _) (Nat.le_of_ble_eq_true rfl) (ws2 := [(h, co 1 [ar ta, ai kd, ai num, ai pv, ai (if (sk + 1) < 20 then (sk + 1) else 20), ai hn, ai gl, ai sc, ai pu])]) rfl dX5_hasTried_30 ?_
      refine v_aload_n (pc := 33) 0 rfl dX5_hasTried_33 ?_
      refine v_aload_n (pc := 34) 0 rfl dX5_hasTried_34 ?_
      refine v_get (pc := 35) (v := ai sc) 7 (Or.inr ⟨0, rfl⟩) fl_5_63_1 rfl dX5_hasTried_35 ?_
      refine v_iload_n (pc := 38) 1 rfl dX5_hasTried_38 ?_
      refine v_callS (pc := 39) [] [0] [(h, co 1 [ar ta, ai kd, ai num, ai pv, ai (if (sk + 1) < 20 then (sk + 1) else 20), ai hn, ai gl, ai sc, ai pu])] (As := [ai sc, ai ma]) (rest := [ar h]) (c_J9_max_7cf53 sc ma (by first | omega | assumption) (by first | omega | assumption)) wl_X5_79 ws_J9_max_7cf53 wk_J9_max_7cf53 wz_J9 md_J9_max_7cf53 rfl (Nat.le_of_ble_eq_true rfl) ⟨Nat.le_of_ble_eq_true rfl, Nat.le_of_ble_eq_true rfl, Nat.le_of_ble_eq_true rfl, Nat.le_of_ble_eq_true rfl⟩ rfl rfl rfl rfl (by decide) ro_nil dX5_hasTried_39 (fun u hu => ?_)
      show V x cX5_hasTried RX5 4 (rmU 1 32 0 0) [(h, co 1 [ar ta, ai kd, ai num, ai pv, ai (if (sk + 1) < 20 then (sk + 1) else 20), ai hn, ai gl, ai sc, ai pu])] 42 [(0, ar h), (1, ai ma), (2, ai ca), (3, ai py)] [ai (if sc < ma then ma else sc), ar h] 0 0
      refine v_put (pc := 42) 7 0 rfl fl_5_63_1 ck_1 ft_1_7 (okV_i _) (Nat.le_of_ble_eq_true rfl) (ws2 := [(h, co 1 [ar ta, ai kd, ai num, ai pv, ai (if (sk + 1) < 20 then (sk + 1) else 20), ai hn, ai gl, ai (if sc < ma then ma else sc), ai pu])]) rfl dX5_hasTried_42 ?_
      refine v_aload_n (pc := 45) 0 rfl dX5_hasTried_45 ?_
      refine v_iconst (pc := 46) dX5_hasTried_46 ?_
      refine v_aload_n (pc := 47) 0 rfl dX5_hasTried_47 ?_
      refine v_get (pc := 48) (v := ai pu) 8 (Or.inr ⟨0, rfl⟩) fl_5_66_1 rfl dX5_hasTried_48 ?_
      refine v_iload_n (pc := 51) 3 rfl dX5_hasTried_51 ?_
      refine v_iload_n (pc := 52) 1 rfl dX5_hasTried_52 ?_
      refine v_iload_n (pc := 53) 2 rfl dX5_hasTried_53 ?_
      refine v_isub (pc := 54) dX5_hasTried_54 ?_
      refine v_imul (pc := 55) dX5_hasTried_55 ?_
      refine v_isub (pc := 56) dX5_hasTried_56 ?_
      refine v_callS (pc := 57) [] [0] [(h, co 1 [ar ta, ai kd, ai num, ai pv, ai (if (sk + 1) < 20 then (sk + 1) else 20), ai hn, ai gl, ai (if sc < ma then ma else sc), ai pu])] (As := [ai 0, ai (pu - (py * (ma - ca)))]) (rest := [ar h]) (c_J9_max_7cf53 0 (pu - (py * (ma - ca))) (by first | omega | assumption) (by first | omega | assumption)) wl_X5_79 ws_J9_max_7cf53 wk_J9_max_7cf53 wz_J9 md_J9_max_7cf53 rfl (Nat.le_of_ble_eq_true rfl) ⟨Nat.le_of_ble_eq_true rfl, Nat.le_of_ble_eq_true rfl, Nat.le_of_ble_eq_true rfl, Nat.le_of_ble_eq_true rfl⟩ rfl rfl rfl rfl (by decide) ro_nil dX5_hasTried_57 (fun u hu => ?_)
      show V x cX5_hasTried RX5 4 (rmU 1 32 0 0) [(h, co 1 [ar ta, ai kd, ai num, ai pv, ai (if (sk + 1) < 20 then (sk + 1) else 20), ai hn, ai gl, ai (if sc < ma then ma else sc), ai pu])] 60 [(0, ar h), (1, ai ma), (2, ai ca), (3, ai py)] [ai (if 0 < (pu - (py * (ma - ca))) then (pu - (py * (ma - ca))) else 0), ar h] 0 0
      refine v_put (pc := 60) 8 0 rfl fl_5_66_1 ck_1 ft_1_8 (okV_i _) (Nat.le_of_ble_eq_true rfl) (ws2 := [(h, co 1 [ar ta, ai kd, ai num, ai pv, ai (if (sk + 1) < 20 then (sk + 1) else 20), ai hn, ai gl, ai (if sc < ma then ma else sc), ai (if 0 < (pu - (py * (ma - ca))) then (pu - (py * (ma - ca))) else 0)])]) rfl dX5_hasTried_60 ?_
      refine v_ws (ws2 := [(h, co 1 [ar ta, ai kd, ai num, ai pv, ai (if ca = ma ∧ (-5 ≤ sc - ma ∧ sc - ma ≤ 5) then (if sk + 1 < 20 then sk + 1 else 20) else sk), ai hn, ai gl, ai (if ca = ma then (if sc < ma then ma else sc) else sc), ai (if 0 < pu - py * (ma - ca) then pu - py * (ma - ca) else 0)])]) (by rw [show (if ca = ma ∧ (-5 ≤ sc - ma ∧ sc - ma ≤ 5) then (if sk + 1 < 20 then sk + 1 else 20) else sk) = (if (sk + 1) < 20 then (sk + 1) else 20) by first | (rw [if_pos (by omega)]; done) | (rw [if_neg (by omega)]; done), show (if ca = ma then (if sc < ma then ma else sc) else sc) = (if sc < ma then ma else sc) by first | (rw [if_pos (by omega)]; done) | (rw [if_neg (by omega)]; done)]) ?_
      exact hret () _ _ _ _ _ trivial rfl rfl (Nat.le_of_ble_eq_true rfl) (Nat.le_of_ble_eq_true rfl) dX5_hasTried_63
set_option maxHeartbeats 4000000 in
set_option maxRecDepth 100000 in
theorem c_X0_lean_k2 {gS : sG} (h : Nat) (ta : Nat) (kd : Int) (num : Int) (pv : Int) (sk : Int) (hn : Int) (gl : Int) (sc : Int) (pu : Int) (tt : Int) : Ct gS (S := Unit) yX0_lean cX0_lean 2 (some .int) 0 0 0 0 [ar h, ai tt] [] (fun q => q ∈ ([(h, co 2 [ar ta, ai kd, ai num, ai pv, ai sk, ai hn, ai gl, ai sc, ai pu])] : aW)) (fun _ => True) (fun _ => some (ai pv)) (fun _ => []) := by
  refine ct_I RX0 [(0, ar h), (1, ai tt)] (by decide) rfl (Nat.le_of_ble_eq_true rfl) rfl (fun x hgS hro hret => ?_)
  subst hgS
  have r0 := hro _ (mem_at 0 rfl)
  show V x cX0_lean RX0 2 (rmU 0 0 0 0) [] 0 [(0, ar h), (1, ai tt)] [] 0 0
  refine v_aload_n (pc := 0) 0 rfl dX0_lean_0 ?_
  refine v_get (pc := 1) (v := ai pv) 3 (Or.inl r0) fl_0_7_2 rfl dX0_lean_1 ?_
  exact hret () _ _ _ _ _ _ trivial (congrArg (fun z => some (ai z)) (by rfl)) rfl (Nat.le_of_ble_eq_true rfl) (Nat.le_of_ble_eq_true rfl) dX0_lean_4
set_option maxHeartbeats 4000000 in
set_option maxRecDepth 100000 in
theorem c_X5_unsureBy_k2 {gS : sG} (h : Nat) (ta : Nat) (kd : Int) (num : Int) (pv : Int) (sk : Int) (hn : Int) (gl : Int) (sc : Int) (pu : Int) (s1 : Int) (g1 : Int) (hsk : 0 ≤ s1 ∧ s1 ≤ 40) (hgl : 0 ≤ g1 ∧ g1 ≤ 40) : Ct gS (S := Unit) yX5_unsureBy cX5_unsureBy 4 (some .int) 0 0 0 0 [ar h, ai s1, ai g1] [] (fun q => q ∈ ([(h, co 2 [ar ta, ai kd, ai num, ai pv, ai sk, ai hn, ai gl, ai sc, ai pu])] : aW)) (fun _ => True) (fun _ => some (ai (kUns s1 g1))) (fun _ => []) := by
  refine ct_I RX5 [(0, ar h), (1, ai s1), (2, ai g1)] (by decide) rfl (Nat.le_of_ble_eq_true rfl) rfl (fun x hgS hro hret => ?_)
  subst hgS
  have r0 := hro _ (mem_at 0 rfl)
  show V x cX5_unsureBy RX5 4 (rmU 0 0 0 0) [] 0 [(0, ar h), (1, ai s1), (2, ai g1)] [] 0 0
  refine v_iconst (pc := 0) dX5_unsureBy_0 ?_
  refine v_iload_n (pc := 1) 2 rfl dX5_unsureBy_1 ?_
  refine v_iadd (pc := 2) dX5_unsureBy_2 ?_
  refine v_iload_n (pc := 3) 1 rfl dX5_unsureBy_3 ?_
  refine v_iconst (pc := 4) dX5_unsureBy_4 ?_
  refine v_idiv (pc := 5) (by omega) (by omega) (by unfold iB; omega) (by unfold iB; omega) dX5_unsureBy_5 ?_
  refine v_isub (pc := 6) dX5_unsureBy_6 ?_
  refine v_istore_n (pc := 7) (L2 := [(3, ai ((3 + g1) - (s1 / 4))), (0, ar h), (1, ai s1), (2, ai g1)]) rfl (by decide) dX5_unsureBy_7 ?_
  refine v_iload_n (pc := 8) 0 rfl dX5_unsureBy_8 ?_
  refine v_if_ge (pc := 9) 16 dX5_unsureBy_9 (by decide) (by unfold iB; omega) (fun c_1 => ?_) (fun c_1 => ?_)
  · skip
    refine v_iload_n (pc := 16) 0 rfl dX5_unsureBy_16 ?_
    exact hret () _ _ _ _ _ _ trivial (congrArg (fun z => some (ai z)) (by unfold kUns; split <;> omega)) rfl (Nat.le_of_ble_eq_true rfl) (Nat.le_of_ble_eq_true rfl) dX5_unsureBy_17
  · skip
    refine v_iconst (pc := 12) dX5_unsureBy_12 ?_
    refine v_goto (pc := 13) 17 dX5_unsureBy_13 (by decide) ?_
    exact hret () _ _ _ _ _ _ trivial (congrArg (fun z => some (ai z)) (by unfold kUns; split <;> omega)) rfl (Nat.le_of_ble_eq_true rfl) (Nat.le_of_ble_eq_true rfl) dX5_unsureBy_17
set_option maxHeartbeats 4000000 in
set_option maxRecDepth 100000 in
theorem c_X2_unsureBy_k2 {gS : sG} (h : Nat) (ta : Nat) (kd : Int) (num : Int) (pv : Int) (sk : Int) (hn : Int) (gl : Int) (sc : Int) (pu : Int) (s1 : Int) (g1 : Int) (hsk : 0 ≤ s1 ∧ s1 ≤ 40) (hgl : 0 ≤ g1 ∧ g1 ≤ 20) : Ct gS (S := Unit) yX2_unsureBy cX2_unsureBy 3 (some .int) 1 23 0 0 [ar h, ai s1, ai g1] [] (fun q => q ∈ ([(h, co 2 [ar ta, ai kd, ai num, ai pv, ai sk, ai hn, ai gl, ai sc, ai pu])] : aW)) (fun _ => True) (fun _ => some (ai (kUns s1 (2 * g1)))) (fun _ => []) := by
  refine ct_I RX2 [(0, ar h), (1, ai s1), (2, ai g1)] (by decide) rfl (Nat.le_of_ble_eq_true rfl) rfl (fun x hgS hro hret => ?_)
  subst hgS
  have r0 := hro _ (mem_at 0 rfl)
  show V x cX2_unsureBy RX2 3 (rmU 1 23 0 0) [] 0 [(0, ar h), (1, ai s1), (2, ai g1)] [] 0 0
  refine v_aload_n (pc := 0) 0 rfl dX2_unsureBy_0 ?_
  refine v_iload_n (pc := 1) 1 rfl dX2_unsureBy_1 ?_
  refine v_iconst (pc := 2) dX2_unsureBy_2 ?_
  refine v_iload_n (pc := 3) 2 rfl dX2_unsureBy_3 ?_
  refine v_imul (pc := 4) dX2_unsureBy_4 ?_
  refine v_callSU (pc := 5) [] [] [] (z := ⟨RX0, "unsureBy", "(II)I"⟩) (As := [ai s1, ai (2 * g1)]) (rest := []) (c_X5_unsureBy_k2 h ta kd num pv sk hn gl sc pu s1 (2 * g1) (by first | omega | assumption) (by first | omega | assumption)) (c := 2) rfl wsc_2 (Or.inl r0) wl_X2_7 wsm_1 wsc_2 (Or.inr wsc_0) rfl wi_X5_unsureBy wk_X5_unsureBy wz_X5 mds_X5_unsureBy rfl (Nat.le_of_ble_eq_true rfl) ⟨Nat.le_of_ble_eq_true rfl, Nat.le_of_ble_eq_true rfl, Nat.le_of_ble_eq_true rfl, Nat.le_of_ble_eq_true rfl⟩ rfl rfl rfl rfl (by decide) (ro_cons (Or.inl r0) ro_nil) dX2_unsureBy_5 (fun u hu => ?_)
  show V x cX2_unsureBy RX2 3 (rmU 1 23 0 0) [] 8 [(0, ar h), (1, ai s1), (2, ai g1)] [ai (kUns s1 (2 * g1))] 0 0
  exact hret () _ _ _ _ _ _ trivial (congrArg (fun z => some (ai z)) (by rfl)) rfl (Nat.le_of_ble_eq_true rfl) (Nat.le_of_ble_eq_true rfl) dX2_unsureBy_8
set_option maxHeartbeats 4000000 in
set_option maxRecDepth 100000 in
theorem c_X5_hasTried_k2 {gS : sG} (h : Nat) (ta : Nat) (kd : Int) (num : Int) (pv : Int) (sk : Int) (hn : Int) (gl : Int) (sc : Int) (pu : Int) (ma : Int) (ca : Int) (py : Int) (hma : 0 ≤ ma ∧ ma ≤ 99) (hca : 0 ≤ ca ∧ ca ≤ ma) (hpy : 0 ≤ py ∧ py ≤ 99) (hsc : 0 ≤ sc ∧ sc ≤ 99) (hskk : 0 ≤ sk ∧ sk ≤ 20) (hpu : 0 ≤ pu ∧ pu ≤ 9999) : Ct gS (S := Unit) yX5_hasTried cX5_hasTried 4 none 1 32 0 0 [ar h, ai ma, ai ca, ai py] [(h, co 2 [ar ta, ai kd, ai num, ai pv, ai sk, ai hn, ai gl, ai sc, ai pu])] (fun q => q ∈ ([] : aW)) (fun _ => True) (fun _ => none) (fun _ => [(h, co 2 [ar ta, ai kd, ai num, ai pv, ai (if ca = ma ∧ (-5 ≤ sc - ma ∧ sc - ma ≤ 5) then (if sk + 1 < 20 then sk + 1 else 20) else sk), ai hn, ai gl, ai (if ca = ma then (if sc < ma then ma else sc) else sc), ai (if 0 < pu - py * (ma - ca) then pu - py * (ma - ca) else 0)])]) := by
  refine ct_V RX5 [(0, ar h), (1, ai ma), (2, ai ca), (3, ai py)] (by decide) rfl (Nat.le_of_ble_eq_true rfl) rfl (fun x hgS hnm hro hret => ?_)
  subst hgS
  have hab : kAbs (sc - ma) ≤ 5 ↔ (-5 ≤ sc - ma ∧ sc - ma ≤ 5) := by unfold kAbs; split <;> omega
  have hab2 : 0 ≤ kAbs (sc - ma) ∧ kAbs (sc - ma) ≤ 200 := by unfold kAbs; split <;> omega
  have hmul : 0 ≤ py * (ma - ca) ∧ py * (ma - ca) ≤ 99 * 99 := ⟨Int.mul_nonneg hpy.1 (by omega), Int.mul_le_mul hpy.2 (by omega) (by omega) (by decide)⟩
  show V x cX5_hasTried RX5 4 (rmU 1 32 0 0) [(h, co 2 [ar ta, ai kd, ai num, ai pv, ai sk, ai hn, ai gl, ai sc, ai pu])] 0 [(0, ar h), (1, ai ma), (2, ai ca), (3, ai py)] [] 0 0
  refine v_iload_n (pc := 0) 2 rfl dX5_hasTried_0 ?_
  refine v_iload_n (pc := 1) 1 rfl dX5_hasTried_1 ?_
  refine v_icmp_ne (pc := 2) 45 dX5_hasTried_2 (by decide) (by unfold iB; omega) (by unfold iB; omega) (fun c_1 => ?_) (fun c_1 => ?_)
  · skip
    refine v_aload_n (pc := 45) 0 rfl dX5_hasTried_45 ?_
    refine v_iconst (pc := 46) dX5_hasTried_46 ?_
    refine v_aload_n (pc := 47) 0 rfl dX5_hasTried_47 ?_
    refine v_get (pc := 48) (v := ai pu) 8 (Or.inr ⟨0, rfl⟩) fl_5_66_2 rfl dX5_hasTried_48 ?_
    refine v_iload_n (pc := 51) 3 rfl dX5_hasTried_51 ?_
    refine v_iload_n (pc := 52) 1 rfl dX5_hasTried_52 ?_
    refine v_iload_n (pc := 53) 2 rfl dX5_hasTried_53 ?_
    refine v_isub (pc := 54) dX5_hasTried_54 ?_
    refine v_imul (pc := 55) dX5_hasTried_55 ?_
    refine v_isub (pc := 56) dX5_hasTried_56 ?_
    refine v_callS (pc := 57) [] [0] [(h, co 2 [ar ta, ai kd, ai num, ai pv, ai sk, ai hn, ai gl, ai sc, ai pu])] (As := [ai 0, ai (pu - (py * (ma - ca)))]) (rest := [ar h]) (c_J9_max_7cf53 0 (pu - (py * (ma - ca))) (by first | omega | assumption) (by first | omega | assumption)) wl_X5_79 ws_J9_max_7cf53 wk_J9_max_7cf53 wz_J9 md_J9_max_7cf53 rfl (Nat.le_of_ble_eq_true rfl) ⟨Nat.le_of_ble_eq_true rfl, Nat.le_of_ble_eq_true rfl, Nat.le_of_ble_eq_true rfl, Nat.le_of_ble_eq_true rfl⟩ rfl rfl rfl rfl (by decide) ro_nil dX5_hasTried_57 (fun u hu => ?_)
    show V x cX5_hasTried RX5 4 (rmU 1 32 0 0) [(h, co 2 [ar ta, ai kd, ai num, ai pv, ai sk, ai hn, ai gl, ai sc, ai pu])] 60 [(0, ar h), (1, ai ma), (2, ai ca), (3, ai py)] [ai (if 0 < (pu - (py * (ma - ca))) then (pu - (py * (ma - ca))) else 0), ar h] 0 0
    refine v_put (pc := 60) 8 0 rfl fl_5_66_2 ck_2 ft_2_8 (okV_i _) (Nat.le_of_ble_eq_true rfl) (ws2 := [(h, co 2 [ar ta, ai kd, ai num, ai pv, ai sk, ai hn, ai gl, ai sc, ai (if 0 < (pu - (py * (ma - ca))) then (pu - (py * (ma - ca))) else 0)])]) rfl dX5_hasTried_60 ?_
    refine v_ws (ws2 := [(h, co 2 [ar ta, ai kd, ai num, ai pv, ai (if ca = ma ∧ (-5 ≤ sc - ma ∧ sc - ma ≤ 5) then (if sk + 1 < 20 then sk + 1 else 20) else sk), ai hn, ai gl, ai (if ca = ma then (if sc < ma then ma else sc) else sc), ai (if 0 < pu - py * (ma - ca) then pu - py * (ma - ca) else 0)])]) (by rw [show (if ca = ma ∧ (-5 ≤ sc - ma ∧ sc - ma ≤ 5) then (if sk + 1 < 20 then sk + 1 else 20) else sk) = sk by first | (rw [if_pos (by omega)]; done) | (rw [if_neg (by omega)]; done), show (if ca = ma then (if sc < ma then ma else sc) else sc) = sc by first | (rw [if_pos (by omega)]; done) | (rw [if_neg (by omega)]; done)]) ?_
    exact hret () _ _ _ _ _ trivial rfl rfl (Nat.le_of_ble_eq_true rfl) (Nat.le_of_ble_eq_true rfl) dX5_hasTried_63
  · skip
    refine v_aload_n (pc := 5) 0 rfl dX5_hasTried_5 ?_
    refine v_get (pc := 6) (v := ai sc) 7 (Or.inr ⟨0, rfl⟩) fl_5_63_2 rfl dX5_hasTried_6 ?_
    refine v_iload_n (pc := 9) 1 rfl dX5_hasTried_9 ?_
    refine v_isub (pc := 10) dX5_hasTried_10 ?_
    refine v_callS (pc := 11) [] [0] [(h, co 2 [ar ta, ai kd, ai num, ai pv, ai sk, ai hn, ai gl, ai sc, ai pu])] (As := [ai (sc - ma)]) (rest := []) (c_J9_abs_0f7a4 (sc - ma) (by first | omega | assumption)) wl_X5_69 ws_J9_abs_0f7a4 wk_J9_abs_0f7a4 wz_J9 md_J9_abs_0f7a4 rfl (Nat.le_of_ble_eq_true rfl) ⟨Nat.le_of_ble_eq_true rfl, Nat.le_of_ble_eq_true rfl, Nat.le_of_ble_eq_true rfl, Nat.le_of_ble_eq_true rfl⟩ rfl rfl rfl rfl (by decide) ro_nil dX5_hasTried_11 (fun u hu => ?_)
    show V x cX5_hasTried RX5 4 (rmU 1 32 0 0) [(h, co 2 [ar ta, ai kd, ai num, ai pv, ai sk, ai hn, ai gl, ai sc, ai pu])] 14 [(0, ar h), (1, ai ma), (2, ai ca), (3, ai py)] [ai (kAbs (sc - ma))] 0 0
    refine v_iconst (pc := 14) dX5_hasTried_14 ?_
    refine v_icmp_gt (pc := 15) 33 dX5_hasTried_15 (by decide) (by unfold iB; omega) (by unfold iB; omega) (fun c_2 => ?_) (fun c_2 => ?_)
    · skip
      refine v_aload_n (pc := 33) 0 rfl dX5_hasTried_33 ?_
      refine v_aload_n (pc := 34) 0 rfl dX5_hasTried_34 ?_
      refine v_get (pc := 35) (v := ai sc) 7 (Or.inr ⟨0, rfl⟩) fl_5_63_2 rfl dX5_hasTried_35 ?_
      refine v_iload_n (pc := 38) 1 rfl dX5_hasTried_38 ?_
      refine v_callS (pc := 39) [] [0] [(h, co 2 [ar ta, ai kd, ai num, ai pv, ai sk, ai hn, ai gl, ai sc, ai pu])] (As := [ai sc, ai ma]) (rest := [ar h]) (c_J9_max_7cf53 sc ma (by first | omega | assumption) (by first | omega | assumption)) wl_X5_79 ws_J9_max_7cf53 wk_J9_max_7cf53 wz_J9 md_J9_max_7cf53 rfl (Nat.le_of_ble_eq_true rfl) ⟨Nat.le_of_ble_eq_true rfl, Nat.le_of_ble_eq_true rfl, Nat.le_of_ble_eq_true rfl, Nat.le_of_ble_eq_true rfl⟩ rfl rfl rfl rfl (by decide) ro_nil dX5_hasTried_39 (fun u hu => ?_)
      show V x cX5_hasTried RX5 4 (rmU 1 32 0 0) [(h, co 2 [ar ta, ai kd, ai num, ai pv, ai sk, ai hn, ai gl, ai sc, ai pu])] 42 [(0, ar h), (1, ai ma), (2, ai ca), (3, ai py)] [ai (if sc < ma then ma else sc), ar h] 0 0
      refine v_put (pc := 42) 7 0 rfl fl_5_63_2 ck_2 ft_2_7 (okV_i _) (Nat.le_of_ble_eq_true rfl) (ws2 := [(h, co 2 [ar ta, ai kd, ai num, ai pv, ai sk, ai hn, ai gl, ai (if sc < ma then ma else sc), ai pu])]) rfl dX5_hasTried_42 ?_
      refine v_aload_n (pc := 45) 0 rfl dX5_hasTried_45 ?_
      refine v_iconst (pc := 46) dX5_hasTried_46 ?_
      refine v_aload_n (pc := 47) 0 rfl dX5_hasTried_47 ?_
      refine v_get (pc := 48) (v := ai pu) 8 (Or.inr ⟨0, rfl⟩) fl_5_66_2 rfl dX5_hasTried_48 ?_
      refine v_iload_n (pc := 51) 3 rfl dX5_hasTried_51 ?_
      refine v_iload_n (pc := 52) 1 rfl dX5_hasTried_52 ?_
      refine v_iload_n (pc := 53) 2 rfl dX5_hasTried_53 ?_
      refine v_isub (pc := 54) dX5_hasTried_54 ?_
      refine v_imul (pc := 55) dX5_hasTried_55 ?_
      refine v_isub (pc := 56) dX5_hasTried_56 ?_
      refine v_callS (pc := 57) [] [0] [(h, co 2 [ar ta, ai kd, ai num, ai pv, ai sk, ai hn, ai gl, ai (if sc < ma then ma else sc), ai pu])] (As := [ai 0, ai (pu - (py * (ma - ca)))]) (rest := [ar h]) (c_J9_max_7cf53 0 (pu - (py * (ma - ca))) (by first | omega | assumption) (by first | omega | assumption)) wl_X5_79 ws_J9_max_7cf53 wk_J9_max_7cf53 wz_J9 md_J9_max_7cf53 rfl (Nat.le_of_ble_eq_true rfl) ⟨Nat.le_of_ble_eq_true rfl, Nat.le_of_ble_eq_true rfl, Nat.le_of_ble_eq_true rfl, Nat.le_of_ble_eq_true rfl⟩ rfl rfl rfl rfl (by decide) ro_nil dX5_hasTried_57 (fun u hu => ?_)
      show V x cX5_hasTried RX5 4 (rmU 1 32 0 0) [(h, co 2 [ar ta, ai kd, ai num, ai pv, ai sk, ai hn, ai gl, ai (if sc < ma then ma else sc), ai pu])] 60 [(0, ar h), (1, ai ma), (2, ai ca), (3, ai py)] [ai (if 0 < (pu - (py * (ma - ca))) then (pu - (py * (ma - ca))) else 0), ar h] 0 0
      refine v_put (pc := 60) 8 0 rfl fl_5_66_2 ck_2 ft_2_8 (okV_i _) (Nat.le_of_ble_eq_true rfl) (ws2 := [(h, co 2 [ar ta, ai kd, ai num, ai pv, ai sk, ai hn, ai gl, ai (if sc < ma then ma else sc), ai (if 0 < (pu - (py * (ma - ca))) then (pu - (py * (ma - ca))) else 0)])]) rfl dX5_hasTried_60 ?_
      refine v_ws (ws2 := [(h, co 2 [ar ta, ai kd, ai num, ai pv, ai (if ca = ma ∧ (-5 ≤ sc - ma ∧ sc - ma ≤ 5) then (if sk + 1 < 20 then sk + 1 else 20) else sk), ai hn, ai gl, ai (if ca = ma then (if sc < ma then ma else sc) else sc), ai (if 0 < pu - py * (ma - ca) then pu - py * (ma - ca) else 0)])]) (by rw [show (if ca = ma ∧ (-5 ≤ sc - ma ∧ sc - ma ≤ 5) then (if sk + 1 < 20 then sk + 1 else 20) else sk) = sk by first | (rw [if_pos (by omega)]; done) | (rw [if_neg (by omega)]; done), show (if ca = ma then (if sc < ma then ma else sc) else sc) = (if sc < ma then ma else sc) by first | (rw [if_pos (by omega)]; done) | (rw [if_neg (by omega)]; done)]) ?_
      exact hret () _ _ _ _ _ trivial rfl rfl (Nat.le_of_ble_eq_true rfl) (Nat.le_of_ble_eq_true rfl) dX5_hasTried_63
    · skip
      refine v_aload_n (pc := 18) 0 rfl dX5_hasTried_18 ?_
      refine v_bipush (pc := 19) dX5_hasTried_19 (by decide) ?_
      refine v_aload_n (pc := 21) 0 rfl dX5_hasTried_21 ?_
      refine v_get (pc := 22) (v := ai sk) 4 (Or.inr ⟨0, rfl⟩) fl_5_54_2 rfl dX5_hasTried_22 ?_
      refine v_iconst (pc := 25) dX5_hasTried_25 ?_
      refine v_iadd (pc := 26) dX5_hasTried_26 ?_
      refine v_callS (pc := 27) [] [0] [(h, co 2 [ar ta, ai kd, ai num, ai pv, ai sk, ai hn, ai gl, ai sc, ai pu])] (As := [ai 20, ai (sk + 1)]) (rest := [ar h]) (c_J9_min_7cf53 20 (sk + 1) (by first | omega | assumption) (by first | omega | assumption)) wl_X5_75 ws_J9_min_7cf53 wk_J9_min_7cf53 wz_J9 md_J9_min_7cf53 rfl (Nat.le_of_ble_eq_true rfl) ⟨Nat.le_of_ble_eq_true rfl, Nat.le_of_ble_eq_true rfl, Nat.le_of_ble_eq_true rfl, Nat.le_of_ble_eq_true rfl⟩ rfl rfl rfl rfl (by decide) ro_nil dX5_hasTried_27 (fun u hu => ?_)
      show V x cX5_hasTried RX5 4 (rmU 1 32 0 0) [(h, co 2 [ar ta, ai kd, ai num, ai pv, ai sk, ai hn, ai gl, ai sc, ai pu])] 30 [(0, ar h), (1, ai ma), (2, ai ca), (3, ai py)] [ai (if (sk + 1) < 20 then (sk + 1) else 20), ar h] 0 0
      refine v_put (pc := 30) 4 0 rfl fl_5_54_2 ck_2 ft_2_4 (okV_i _) (Nat.le_of_ble_eq_true rfl) (ws2 := [(h, co 2 [ar ta, ai kd, ai num, ai pv, ai (if (sk + 1) < 20 then (sk + 1) else 20), ai hn, ai gl, ai sc, ai pu])]) rfl dX5_hasTried_30 ?_
      refine v_aload_n (pc := 33) 0 rfl dX5_hasTried_33 ?_
      refine v_aload_n (pc := 34) 0 rfl dX5_hasTried_34 ?_
      refine v_get (pc := 35) (v := ai sc) 7 (Or.inr ⟨0, rfl⟩) fl_5_63_2 rfl dX5_hasTried_35 ?_
      refine v_iload_n (pc := 38) 1 rfl dX5_hasTried_38 ?_
      refine v_callS (pc := 39) [] [0] [(h, co 2 [ar ta, ai kd, ai num, ai pv, ai (if (sk + 1) < 20 then (sk + 1) else 20), ai hn, ai gl, ai sc, ai pu])] (As := [ai sc, ai ma]) (rest := [ar h]) (c_J9_max_7cf53 sc ma (by first | omega | assumption) (by first | omega | assumption)) wl_X5_79 ws_J9_max_7cf53 wk_J9_max_7cf53 wz_J9 md_J9_max_7cf53 rfl (Nat.le_of_ble_eq_true rfl) ⟨Nat.le_of_ble_eq_true rfl, Nat.le_of_ble_eq_true rfl, Nat.le_of_ble_eq_true rfl, Nat.le_of_ble_eq_true rfl⟩ rfl rfl rfl rfl (by decide) ro_nil dX5_hasTried_39 (fun u hu => ?_)
      show V x cX5_hasTried RX5 4 (rmU 1 32 0 0) [(h, co 2 [ar ta, ai kd, ai num, ai pv, ai (if (sk + 1) < 20 then (sk + 1) else 20), ai hn, ai gl, ai sc, ai pu])] 42 [(0, ar h), (1, ai ma), (2, ai ca), (3, ai py)] [ai (if sc < ma then ma else sc), ar h] 0 0
      refine v_put (pc := 42) 7 0 rfl fl_5_63_2 ck_2 ft_2_7 (okV_i _) (Nat.le_of_ble_eq_true rfl) (ws2 := [(h, co 2 [ar ta, ai kd, ai num, ai pv, ai (if (sk + 1) < 20 then (sk + 1) else 20), ai hn, ai gl, ai (if sc < ma then ma else sc), ai pu])]) rfl dX5_hasTried_42 ?_
      refine v_aload_n (pc := 45) 0 rfl dX5_hasTried_45 ?_
      refine v_iconst (pc := 46) dX5_hasTried_46 ?_
      refine v_aload_n (pc := 47) 0 rfl dX5_hasTried_47 ?_
      refine v_get (pc := 48) (v := ai pu) 8 (Or.inr ⟨0, rfl⟩) fl_5_66_2 rfl dX5_hasTried_48 ?_
      refine v_iload_n (pc := 51) 3 rfl dX5_hasTried_51 ?_
      refine v_iload_n (pc := 52) 1 rfl dX5_hasTried_52 ?_
      refine v_iload_n (pc := 53) 2 rfl dX5_hasTried_53 ?_
      refine v_isub (pc := 54) dX5_hasTried_54 ?_
      refine v_imul (pc := 55) dX5_hasTried_55 ?_
      refine v_isub (pc := 56) dX5_hasTried_56 ?_
      refine v_callS (pc := 57) [] [0] [(h, co 2 [ar ta, ai kd, ai num, ai pv, ai (if (sk + 1) < 20 then (sk + 1) else 20), ai hn, ai gl, ai (if sc < ma then ma else sc), ai pu])] (As := [ai 0, ai (pu - (py * (ma - ca)))]) (rest := [ar h]) (c_J9_max_7cf53 0 (pu - (py * (ma - ca))) (by first | omega | assumption) (by first | omega | assumption)) wl_X5_79 ws_J9_max_7cf53 wk_J9_max_7cf53 wz_J9 md_J9_max_7cf53 rfl (Nat.le_of_ble_eq_true rfl) ⟨Nat.le_of_ble_eq_true rfl, Nat.le_of_ble_eq_true rfl, Nat.le_of_ble_eq_true rfl, Nat.le_of_ble_eq_true rfl⟩ rfl rfl rfl rfl (by decide) ro_nil dX5_hasTried_57 (fun u hu => ?_)
      show V x cX5_hasTried RX5 4 (rmU 1 32 0 0) [(h, co 2 [ar ta, ai kd, ai num, ai pv, ai (if (sk + 1) < 20 then (sk + 1) else 20), ai hn, ai gl, ai (if sc < ma then ma else sc), ai pu])] 60 [(0, ar h), (1, ai ma), (2, ai ca), (3, ai py)] [ai (if 0 < (pu - (py * (ma - ca))) then (pu - (py * (ma - ca))) else 0), ar h] 0 0
      refine v_put (pc := 60) 8 0 rfl fl_5_66_2 ck_2 ft_2_8 (okV_i _) (Nat.le_of_ble_eq_true rfl) (ws2 := [(h, co 2 [ar ta, ai kd, ai num, ai pv, ai (if (sk + 1) < 20 then (sk + 1) else 20), ai hn, ai gl, ai (if sc < ma then ma else sc), ai (if 0 < (pu - (py * (ma - ca))) then (pu - (py * (ma - ca))) else 0)])]) rfl dX5_hasTried_60 ?_
      refine v_ws (ws2 := [(h, co 2 [ar ta, ai kd, ai num, ai pv, ai (if ca = ma ∧ (-5 ≤ sc - ma ∧ sc - ma ≤ 5) then (if sk + 1 < 20 then sk + 1 else 20) else sk), ai hn, ai gl, ai (if ca = ma then (if sc < ma then ma else sc) else sc), ai (if 0 < pu - py * (ma - ca) then pu - py * (ma - ca) else 0)])]) (by rw [show (if ca = ma ∧ (-5 ≤ sc - ma ∧ sc - ma ≤ 5) then (if sk + 1 < 20 then sk + 1 else 20) else sk) = (if (sk + 1) < 20 then (sk + 1) else 20) by first | (rw [if_pos (by omega)]; done) | (rw [if_neg (by omega)]; done), show (if ca = ma then (if sc < ma then ma else sc) else sc) = (if sc < ma then ma else sc) by first | (rw [if_pos (by omega)]; done) | (rw [if_neg (by omega)]; done)]) ?_
      exact hret () _ _ _ _ _ trivial rfl rfl (Nat.le_of_ble_eq_true rfl) (Nat.le_of_ble_eq_true rfl) dX5_hasTried_63
set_option maxHeartbeats 4000000 in
set_option maxRecDepth 100000 in
theorem c_X7_lean_k9 {gS : sG} (h : Nat) (ta : Nat) (kd : Int) (num : Int) (pv : Int) (sk : Int) (hn : Int) (gl : Int) (sc : Int) (pu : Int) (tu : Nat) (tt : Int) : Ct gS (S := Unit) yX7_lean cX7_lean 2 (some .int) 0 0 0 0 [ar h, ai tt] [] (fun q => q ∈ ([(h, co 9 [ar ta, ai kd, ai num, ai pv, ai sk, ai hn, ai gl, ai sc, ai pu, ar tu])] : aW)) (fun _ => True) (fun _ => some (ai (-pv))) (fun _ => []) := by
  refine ct_I RX7 [(0, ar h), (1, ai tt)] (by decide) rfl (Nat.le_of_ble_eq_true rfl) rfl (fun x hgS hro hret => ?_)
  subst hgS
  have r0 := hro _ (mem_at 0 rfl)
  show V x cX7_lean RX7 2 (rmU 0 0 0 0) [] 0 [(0, ar h), (1, ai tt)] [] 0 0
  refine v_aload_n (pc := 0) 0 rfl dX7_lean_0 ?_
  refine v_get (pc := 1) (v := ai pv) 3 (Or.inl r0) fl_7_7_9 rfl dX7_lean_1 ?_
  refine v_ineg (pc := 4) dX7_lean_4 ?_
  exact hret () _ _ _ _ _ _ trivial (congrArg (fun z => some (ai z)) (by rfl)) rfl (Nat.le_of_ble_eq_true rfl) (Nat.le_of_ble_eq_true rfl) dX7_lean_5
set_option maxHeartbeats 4000000 in
set_option maxRecDepth 100000 in
theorem c_X9_lean_k9 {gS : sG} (h : Nat) (ta : Nat) (kd : Int) (num : Int) (pv : Int) (sk : Int) (hn : Int) (gl : Int) (sc : Int) (pu : Int) (tu : Nat) (tt : Int) (tn : Int → Int) (htt : 0 ≤ tt ∧ tt ≤ 10000) : Ct gS (S := Unit) yX9_lean cX9_lean 2 (some .int) 1 21 0 0 [ar h, ai tt] [] (fun q => q ∈ ([(h, co 9 [ar ta, ai kd, ai num, ai pv, ai sk, ai hn, ai gl, ai sc, ai pu, ar tu]), (tu, cn 0 4 tn)] : aW)) (fun _ => True) (fun _ => some (ai (-pv + tn (tt % 4) - 4))) (fun _ => []) := by
  refine ct_I RX9 [(0, ar h), (1, ai tt)] (by decide) rfl (Nat.le_of_ble_eq_true rfl) rfl (fun x hgS hro hret => ?_)
  subst hgS
  have r0 := hro _ (mem_at 0 rfl)
  have r1 := hro _ (mem_at 1 rfl)
  show V x cX9_lean RX9 2 (rmU 1 21 0 0) [] 0 [(0, ar h), (1, ai tt)] [] 0 0
  refine v_aload_n (pc := 0) 0 rfl dX9_lean_0 ?_
  refine v_iload_n (pc := 1) 1 rfl dX9_lean_1 ?_
  refine v_callSU (pc := 2) [] [] [] (z := yX7_lean) (As := [ai tt]) (rest := []) (c_X7_lean_k9 h ta kd num pv sk hn gl sc pu tu tt ) (c := 9) rfl wsc_9 (Or.inl r0) wl_X9_23 wsm_21 wsc_9 (Or.inl rfl) rfl wi_X7_lean wk_X7_lean wz_X7 mds_X7_lean rfl (Nat.le_of_ble_eq_true rfl) ⟨Nat.le_of_ble_eq_true rfl, Nat.le_of_ble_eq_true rfl, Nat.le_of_ble_eq_true rfl, Nat.le_of_ble_eq_true rfl⟩ rfl rfl rfl rfl (by decide) (ro_cons (Or.inl r0) ro_nil) dX9_lean_2 (fun u hu => ?_)
  show V x cX9_lean RX9 2 (rmU 1 21 0 0) [] 5 [(0, ar h), (1, ai tt)] [ai (-pv)] 0 0
  refine v_aload_n (pc := 5) 0 rfl dX9_lean_5 ?_
  refine v_get (pc := 6) (v := ar tu) 9 (Or.inl r0) fl_9_7_9 rfl dX9_lean_6 ?_
  refine v_iload_n (pc := 9) 1 rfl dX9_lean_9 ?_
  refine v_iconst (pc := 10) dX9_lean_10 ?_
  refine v_iand (pc := 11) (c := (tt % 4)) (b_and3 (by unfold ipos; omega)) dX9_lean_11 ?_
  refine v_iald (pc := 12) (Or.inl r1) (by omega) (by omega) (by decide) dX9_lean_12 ?_
  refine v_iadd (pc := 13) dX9_lean_13 ?_
  refine v_iconst (pc := 14) dX9_lean_14 ?_
  refine v_isub (pc := 15) dX9_lean_15 ?_
  exact hret () _ _ _ _ _ _ trivial (congrArg (fun z => some (ai z)) (by rfl)) rfl (Nat.le_of_ble_eq_true rfl) (Nat.le_of_ble_eq_true rfl) dX9_lean_16
set_option maxHeartbeats 4000000 in
set_option maxRecDepth 100000 in
theorem c_X5_unsureBy_k9 {gS : sG} (h : Nat) (ta : Nat) (kd : Int) (num : Int) (pv : Int) (sk : Int) (hn : Int) (gl : Int) (sc : Int) (pu : Int) (tu : Nat) (s1 : Int) (g1 : Int) (hsk : 0 ≤ s1 ∧ s1 ≤ 40) (hgl : 0 ≤ g1 ∧ g1 ≤ 40) : Ct gS (S := Unit) yX5_unsureBy cX5_unsureBy 4 (some .int) 0 0 0 0 [ar h, ai s1, ai g1] [] (fun q => q ∈ ([(h, co 9 [ar ta, ai kd, ai num, ai pv, ai sk, ai hn, ai gl, ai sc, ai pu, ar tu])] : aW)) (fun _ => True) (fun _ => some (ai (kUns s1 g1))) (fun _ => []) := by
  refine ct_I RX5 [(0, ar h), (1, ai s1), (2, ai g1)] (by decide) rfl (Nat.le_of_ble_eq_true rfl) rfl (fun x hgS hro hret => ?_)
  subst hgS
  have r0 := hro _ (mem_at 0 rfl)
  show V x cX5_unsureBy RX5 4 (rmU 0 0 0 0) [] 0 [(0, ar h), (1, ai s1), (2, ai g1)] [] 0 0
  refine v_iconst (pc := 0) dX5_unsureBy_0 ?_
  refine v_iload_n (pc := 1) 2 rfl dX5_unsureBy_1 ?_
  refine v_iadd (pc := 2) dX5_unsureBy_2 ?_
  refine v_iload_n (pc := 3) 1 rfl dX5_unsureBy_3 ?_
  refine v_iconst (pc := 4) dX5_unsureBy_4 ?_
  refine v_idiv (pc := 5) (by omega) (by omega) (by unfold iB; omega) (by unfold iB; omega) dX5_unsureBy_5 ?_
  refine v_isub (pc := 6) dX5_unsureBy_6 ?_
  refine v_istore_n (pc := 7) (L2 := [(3, ai ((3 + g1) - (s1 / 4))), (0, ar h), (1, ai s1), (2, ai g1)]) rfl (by decide) dX5_unsureBy_7 ?_
  refine v_iload_n (pc := 8) 0 rfl dX5_unsureBy_8 ?_
  refine v_if_ge (pc := 9) 16 dX5_unsureBy_9 (by decide) (by unfold iB; omega) (fun c_1 => ?_) (fun c_1 => ?_)
  · skip
    refine v_iload_n (pc := 16) 0 rfl dX5_unsureBy_16 ?_
    exact hret () _ _ _ _ _ _ trivial (congrArg (fun z => some (ai z)) (by unfold kUns; split <;> omega)) rfl (Nat.le_of_ble_eq_true rfl) (Nat.le_of_ble_eq_true rfl) dX5_unsureBy_17
  · skip
    refine v_iconst (pc := 12) dX5_unsureBy_12 ?_
    refine v_goto (pc := 13) 17 dX5_unsureBy_13 (by decide) ?_
    exact hret () _ _ _ _ _ _ trivial (congrArg (fun z => some (ai z)) (by unfold kUns; split <;> omega)) rfl (Nat.le_of_ble_eq_true rfl) (Nat.le_of_ble_eq_true rfl) dX5_unsureBy_17
set_option maxHeartbeats 4000000 in
set_option maxRecDepth 100000 in
theorem c_X5_hasTried_k9 {gS : sG} (h : Nat) (ta : Nat) (kd : Int) (num : Int) (pv : Int) (sk : Int) (hn : Int) (gl : Int) (sc : Int) (pu : Int) (tu : Nat) (ma : Int) (ca : Int) (py : Int) (hma : 0 ≤ ma ∧ ma ≤ 99) (hca : 0 ≤ ca ∧ ca ≤ ma) (hpy : 0 ≤ py ∧ py ≤ 99) (hsc : 0 ≤ sc ∧ sc ≤ 99) (hskk : 0 ≤ sk ∧ sk ≤ 20) (hpu : 0 ≤ pu ∧ pu ≤ 9999) : Ct gS (S := Unit) yX5_hasTried cX5_hasTried 4 none 1 32 0 0 [ar h, ai ma, ai ca, ai py] [(h, co 9 [ar ta, ai kd, ai num, ai pv, ai sk, ai hn, ai gl, ai sc, ai pu, ar tu])] (fun q => q ∈ ([] : aW)) (fun _ => True) (fun _ => none) (fun _ => [(h, co 9 [ar ta, ai kd, ai num, ai pv, ai (if ca = ma ∧ (-5 ≤ sc - ma ∧ sc - ma ≤ 5) then (if sk + 1 < 20 then sk + 1 else 20) else sk), ai hn, ai gl, ai (if ca = ma then (if sc < ma then ma else sc) else sc), ai (if 0 < pu - py * (ma - ca) then pu - py * (ma - ca) else 0), ar tu])]) := by
  refine ct_V RX5 [(0, ar h), (1, ai ma), (2, ai ca), (3, ai py)] (by decide) rfl (Nat.le_of_ble_eq_true rfl) rfl (fun x hgS hnm hro hret => ?_)
  subst hgS
  have hab : kAbs (sc - ma) ≤ 5 ↔ (-5 ≤ sc - ma ∧ sc - ma ≤ 5) := by unfold kAbs; split <;> omega
  have hab2 : 0 ≤ kAbs (sc - ma) ∧ kAbs (sc - ma) ≤ 200 := by unfold kAbs; split <;> omega
  have hmul : 0 ≤ py * (ma - ca) ∧ py * (ma - ca) ≤ 99 * 99 := ⟨Int.mul_nonneg hpy.1 (by omega), Int.mul_le_mul hpy.2 (by omega) (by omega) (by decide)⟩
  show V x cX5_hasTried RX5 4 (rmU 1 32 0 0) [(h, co 9 [ar ta, ai kd, ai num, ai pv, ai sk, ai hn, ai gl, ai sc, ai pu, ar tu])] 0 [(0, ar h), (1, ai ma), (2, ai ca), (3, ai py)] [] 0 0
  refine v_iload_n (pc := 0) 2 rfl dX5_hasTried_0 ?_
  refine v_iload_n (pc := 1) 1 rfl dX5_hasTried_1 ?_
  refine v_icmp_ne (pc := 2) 45 dX5_hasTried_2 (by decide) (by unfold iB; omega) (by unfold iB; omega) (fun c_1 => ?_) (fun c_1 => ?_)
  · skip
    refine v_aload_n (pc := 45) 0 rfl dX5_hasTried_45 ?_
    refine v_iconst (pc := 46) dX5_hasTried_46 ?_
    refine v_aload_n (pc := 47) 0 rfl dX5_hasTried_47 ?_
    refine v_get (pc := 48) (v := ai pu) 8 (Or.inr ⟨0, rfl⟩) fl_5_66_9 rfl dX5_hasTried_48 ?_
    refine v_iload_n (pc := 51) 3 rfl dX5_hasTried_51 ?_
    refine v_iload_n (pc := 52) 1 rfl dX5_hasTried_52 ?_
    refine v_iload_n (pc := 53) 2 rfl dX5_hasTried_53 ?_
    refine v_isub (pc := 54) dX5_hasTried_54 ?_
    refine v_imul (pc := 55) dX5_hasTried_55 ?_
    refine v_isub (pc := 56) dX5_hasTried_56 ?_
    refine v_callS (pc := 57) [] [0] [(h, co 9 [ar ta, ai kd, ai num, ai pv, ai sk, ai hn, ai gl, ai sc, ai pu, ar tu])] (As := [ai 0, ai (pu - (py * (ma - ca)))]) (rest := [ar h]) (c_J9_max_7cf53 0 (pu - (py * (ma - ca))) (by first | omega | assumption) (by first | omega | assumption)) wl_X5_79 ws_J9_max_7cf53 wk_J9_max_7cf53 wz_J9 md_J9_max_7cf53 rfl (Nat.le_of_ble_eq_true rfl) ⟨Nat.le_of_ble_eq_true rfl, Nat.le_of_ble_eq_true rfl, Nat.le_of_ble_eq_true rfl, Nat.le_of_ble_eq_true rfl⟩ rfl rfl rfl rfl (by decide) ro_nil dX5_hasTried_57 (fun u hu => ?_)
    show V x cX5_hasTried RX5 4 (rmU 1 32 0 0) [(h, co 9 [ar ta, ai kd, ai num, ai pv, ai sk, ai hn, ai gl, ai sc, ai pu, ar tu])] 60 [(0, ar h), (1, ai ma), (2, ai ca), (3, ai py)] [ai (if 0 < (pu - (py * (ma - ca))) then (pu - (py * (ma - ca))) else 0), ar h] 0 0
    refine v_put (pc := 60) 8 0 rfl fl_5_66_9 ck_9 ft_9_8 (okV_i _) (Nat.le_of_ble_eq_true rfl) (ws2 := [(h, co 9 [ar ta, ai kd, ai num, ai pv, ai sk, ai hn, ai gl, ai sc, ai (if 0 < (pu - (py * (ma - ca))) then (pu - (py * (ma - ca))) else 0), ar tu])]) rfl dX5_hasTried_60 ?_
    refine v_ws (ws2 := [(h, co 9 [ar ta, ai kd, ai num, ai pv, ai (if ca = ma ∧ (-5 ≤ sc - ma ∧ sc - ma ≤ 5) then (if sk + 1 < 20 then sk + 1 else 20) else sk), ai hn, ai gl, ai (if ca = ma then (if sc < ma then ma else sc) else sc), ai (if 0 < pu - py * (ma - ca) then pu - py * (ma - ca) else 0), ar tu])]) (by rw [show (if ca = ma ∧ (-5 ≤ sc - ma ∧ sc - ma ≤ 5) then (if sk + 1 < 20 then sk + 1 else 20) else sk) = sk by first | (rw [if_pos (by omega)]; done) | (rw [if_neg (by omega)]; done), show (if ca = ma then (if sc < ma then ma else sc) else sc) = sc by first | (rw [if_pos (by omega)]; done) | (rw [if_neg (by omega)]; done)]) ?_
    exact hret () _ _ _ _ _ trivial rfl rfl (Nat.le_of_ble_eq_true rfl) (Nat.le_of_ble_eq_true rfl) dX5_hasTried_63
  · skip
    refine v_aload_n (pc := 5) 0 rfl dX5_hasTried_5 ?_
    refine v_get (pc := 6) (v := ai sc) 7 (Or.inr ⟨0, rfl⟩) fl_5_63_9 rfl dX5_hasTried_6 ?_
    refine v_iload_n (pc := 9) 1 rfl dX5_hasTried_9 ?_
    refine v_isub (pc := 10) dX5_hasTried_10 ?_
    refine v_callS (pc := 11) [] [0] [(h, co 9 [ar ta, ai kd, ai num, ai pv, ai sk, ai hn, ai gl, ai sc, ai pu, ar tu])] (As := [ai (sc - ma)]) (rest := []) (c_J9_abs_0f7a4 (sc - ma) (by first | omega | assumption)) wl_X5_69 ws_J9_abs_0f7a4 wk_J9_abs_0f7a4 wz_J9 md_J9_abs_0f7a4 rfl (Nat.le_of_ble_eq_true rfl) ⟨Nat.le_of_ble_eq_true rfl, Nat.le_of_ble_eq_true rfl, Nat.le_of_ble_eq_true rfl, Nat.le_of_ble_eq_true rfl⟩ rfl rfl rfl rfl (by decide) ro_nil dX5_hasTried_11 (fun u hu => ?_)
    show V x cX5_hasTried RX5 4 (rmU 1 32 0 0) [(h, co 9 [ar ta, ai kd, ai num, ai pv, ai sk, ai hn, ai gl, ai sc, ai pu, ar tu])] 14 [(0, ar h), (1, ai ma), (2, ai ca), (3, ai py)] [ai (kAbs (sc - ma))] 0 0
    refine v_iconst (pc := 14) dX5_hasTried_14 ?_
    refine v_icmp_gt (pc := 15) 33 dX5_hasTried_15 (by decide) (by unfold iB; omega) (by unfold iB; omega) (fun c_2 => ?_) (fun c_2 => ?_)
    · skip
      refine v_aload_n (pc := 33) 0 rfl dX5_hasTried_33 ?_
      refine v_aload_n (pc := 34) 0 rfl dX5_hasTried_34 ?_
      refine v_get (pc := 35) (v := ai sc) 7 (Or.inr ⟨0, rfl⟩) fl_5_63_9 rfl dX5_hasTried_35 ?_
      refine v_iload_n (pc := 38) 1 rfl dX5_hasTried_38 ?_
      refine v_callS (pc := 39) [] [0] [(h, co 9 [ar ta, ai kd, ai num, ai pv, ai sk, ai hn, ai gl, ai sc, ai pu, ar tu])] (As := [ai sc, ai ma]) (rest := [ar h]) (c_J9_max_7cf53 sc ma (by first | omega | assumption) (by first | omega | assumption)) wl_X5_79 ws_J9_max_7cf53 wk_J9_max_7cf53 wz_J9 md_J9_max_7cf53 rfl (Nat.le_of_ble_eq_true rfl) ⟨Nat.le_of_ble_eq_true rfl, Nat.le_of_ble_eq_true rfl, Nat.le_of_ble_eq_true rfl, Nat.le_of_ble_eq_true rfl⟩ rfl rfl rfl rfl (by decide) ro_nil dX5_hasTried_39 (fun u hu => ?_)
      show V x cX5_hasTried RX5 4 (rmU 1 32 0 0) [(h, co 9 [ar ta, ai kd, ai num, ai pv, ai sk, ai hn, ai gl, ai sc, ai pu, ar tu])] 42 [(0, ar h), (1, ai ma), (2, ai ca), (3, ai py)] [ai (if sc < ma then ma else sc), ar h] 0 0
      refine v_put (pc := 42) 7 0 rfl fl_5_63_9 ck_9 ft_9_7 (okV_i _) (Nat.le_of_ble_eq_true rfl) (ws2 := [(h, co 9 [ar ta, ai kd, ai num, ai pv, ai sk, ai hn, ai gl, ai (if sc < ma then ma else sc), ai pu, ar tu])]) rfl dX5_hasTried_42 ?_
      refine v_aload_n (pc := 45) 0 rfl dX5_hasTried_45 ?_
      refine v_iconst (pc := 46) dX5_hasTried_46 ?_
      refine v_aload_n (pc := 47) 0 rfl dX5_hasTried_47 ?_
      refine v_get (pc := 48) (v := ai pu) 8 (Or.inr ⟨0, rfl⟩) fl_5_66_9 rfl dX5_hasTried_48 ?_
      refine v_iload_n (pc := 51) 3 rfl dX5_hasTried_51 ?_
      refine v_iload_n (pc := 52) 1 rfl dX5_hasTried_52 ?_
      refine v_iload_n (pc := 53) 2 rfl dX5_hasTried_53 ?_
      refine v_isub (pc := 54) dX5_hasTried_54 ?_
      refine v_imul (pc := 55) dX5_hasTried_55 ?_
      refine v_isub (pc := 56) dX5_hasTried_56 ?_
      refine v_callS (pc := 57) [] [0] [(h, co 9 [ar ta, ai kd, ai num, ai pv, ai sk, ai hn, ai gl, ai (if sc < ma then ma else sc), ai pu, ar tu])] (As := [ai 0, ai (pu - (py * (ma - ca)))]) (rest := [ar h]) (c_J9_max_7cf53 0 (pu - (py * (ma - ca))) (by first | omega | assumption) (by first | omega | assumption)) wl_X5_79 ws_J9_max_7cf53 wk_J9_max_7cf53 wz_J9 md_J9_max_7cf53 rfl (Nat.le_of_ble_eq_true rfl) ⟨Nat.le_of_ble_eq_true rfl, Nat.le_of_ble_eq_true rfl, Nat.le_of_ble_eq_true rfl, Nat.le_of_ble_eq_true rfl⟩ rfl rfl rfl rfl (by decide) ro_nil dX5_hasTried_57 (fun u hu => ?_)
      show V x cX5_hasTried RX5 4 (rmU 1 32 0 0) [(h, co 9 [ar ta, ai kd, ai num, ai pv, ai sk, ai hn, ai gl, ai (if sc < ma then ma else sc), ai pu, ar tu])] 60 [(0, ar h), (1, ai ma), (2, ai ca), (3, ai py)] [ai (if 0 < (pu - (py * (ma - ca))) then (pu - (py * (ma - ca))) else 0), ar h] 0 0
      refine v_put (pc := 60) 8 0 rfl fl_5_66_9 ck_9 ft_9_8 (okV_i _) (Nat.le_of_ble_eq_true rfl) (ws2 := [(h, co 9 [ar ta, ai kd, ai num, ai pv, ai sk, ai hn, ai gl, ai (if sc < ma then ma else sc), ai (if 0 < (pu - (py * (ma - ca))) then (pu - (py * (ma - ca))) else 0), ar tu])]) rfl dX5_hasTried_60 ?_
      refine v_ws (ws2 := [(h, co 9 [ar ta, ai kd, ai num, ai pv, ai (if ca = ma ∧ (-5 ≤ sc - ma ∧ sc - ma ≤ 5) then (if sk + 1 < 20 then sk + 1 else 20) else sk), ai hn, ai gl, ai (if ca = ma then (if sc < ma then ma else sc) else sc), ai (if 0 < pu - py * (ma - ca) then pu - py * (ma - ca) else 0), ar tu])]) (by rw [show (if ca = ma ∧ (-5 ≤ sc - ma ∧ sc - ma ≤ 5) then (if sk + 1 < 20 then sk + 1 else 20) else sk) = sk by first | (rw [if_pos (by omega)]; done) | (rw [if_neg (by omega)]; done), show (if ca = ma then (if sc < ma then ma else sc) else sc) = (if sc < ma then ma else sc) by first | (rw [if_pos (by omega)]; done) | (rw [if_neg (by omega)]; done)]) ?_
      exact hret () _ _ _ _ _ trivial rfl rfl (Nat.le_of_ble_eq_true rfl) (Nat.le_of_ble_eq_true rfl) dX5_hasTried_63
    · skip
      refine v_aload_n (pc := 18) 0 rfl dX5_hasTried_18 ?_
      refine v_bipush (pc := 19) dX5_hasTried_19 (by decide) ?_
      refine v_aload_n (pc := 21) 0 rfl dX5_hasTried_21 ?_
      refine v_get (pc := 22) (v := ai sk) 4 (Or.inr ⟨0, rfl⟩) fl_5_54_9 rfl dX5_hasTried_22 ?_
      refine v_iconst (pc := 25) dX5_hasTried_25 ?_
      refine v_iadd (pc := 26) dX5_hasTried_26 ?_
      refine v_callS (pc := 27) [] [0] [(h, co 9 [ar ta, ai kd, ai num, ai pv, ai sk, ai hn, ai gl, ai sc, ai pu, ar tu])] (As := [ai 20, ai (sk + 1)]) (rest := [ar h]) (c_J9_min_7cf53 20 (sk + 1) (by first | omega | assumption) (by first | omega | assumption)) wl_X5_75 ws_J9_min_7cf53 wk_J9_min_7cf53 wz_J9 md_J9_min_7cf53 rfl (Nat.le_of_ble_eq_true rfl) ⟨Nat.le_of_ble_eq_true rfl, Nat.le_of_ble_eq_true rfl, Nat.le_of_ble_eq_true rfl, Nat.le_of_ble_eq_true rfl⟩ rfl rfl rfl rfl (by decide) ro_nil dX5_hasTried_27 (fun u hu => ?_)
      show V x cX5_hasTried RX5 4 (rmU 1 32 0 0) [(h, co 9 [ar ta, ai kd, ai num, ai pv, ai sk, ai hn, ai gl, ai sc, ai pu, ar tu])] 30 [(0, ar h), (1, ai ma), (2, ai ca), (3, ai py)] [ai (if (sk + 1) < 20 then (sk + 1) else 20), ar h] 0 0
      refine v_put (pc := 30) 4 0 rfl fl_5_54_9 ck_9 ft_9_4 (okV_i _) (Nat.le_of_ble_eq_true rfl) (ws2 := [(h, co 9 [ar ta, ai kd, ai num, ai pv, ai (if (sk + 1) < 20 then (sk + 1) else 20), ai hn, ai gl, ai sc, ai pu, ar tu])]) rfl dX5_hasTried_30 ?_
      refine v_aload_n (pc := 33) 0 rfl dX5_hasTried_33 ?_
      refine v_aload_n (pc := 34) 0 rfl dX5_hasTried_34 ?_
      refine v_get (pc := 35) (v := ai sc) 7 (Or.inr ⟨0, rfl⟩) fl_5_63_9 rfl dX5_hasTried_35 ?_
      refine v_iload_n (pc := 38) 1 rfl dX5_hasTried_38 ?_
      refine v_callS (pc := 39) [] [0] [(h, co 9 [ar ta, ai kd, ai num, ai pv, ai (if (sk + 1) < 20 then (sk + 1) else 20), ai hn, ai gl, ai sc, ai pu, ar tu])] (As := [ai sc, ai ma]) (rest := [ar h]) (c_J9_max_7cf53 sc ma (by first | omega | assumption) (by first | omega | assumption)) wl_X5_79 ws_J9_max_7cf53 wk_J9_max_7cf53 wz_J9 md_J9_max_7cf53 rfl (Nat.le_of_ble_eq_true rfl) ⟨Nat.le_of_ble_eq_true rfl, Nat.le_of_ble_eq_true rfl, Nat.le_of_ble_eq_true rfl, Nat.le_of_ble_eq_true rfl⟩ rfl rfl rfl rfl (by decide) ro_nil dX5_hasTried_39 (fun u hu => ?_)
      show V x cX5_hasTried RX5 4 (rmU 1 32 0 0) [(h, co 9 [ar ta, ai kd, ai num, ai pv, ai (if (sk + 1) < 20 then (sk + 1) else 20), ai hn, ai gl, ai sc, ai pu, ar tu])] 42 [(0, ar h), (1, ai ma), (2, ai ca), (3, ai py)] [ai (if sc < ma then ma else sc), ar h] 0 0
      refine v_put (pc := 42) 7 0 rfl fl_5_63_9 ck_9 ft_9_7 (okV_i _) (Nat.le_of_ble_eq_true rfl) (ws2 := [(h, co 9 [ar ta, ai kd, ai num, ai pv, ai (if (sk + 1) < 20 then (sk + 1) else 20), ai hn, ai gl, ai (if sc < ma then ma else sc), ai pu, ar tu])]) rfl dX5_hasTried_42 ?_
      refine v_aload_n (pc := 45) 0 rfl dX5_hasTried_45 ?_
      refine v_iconst (pc := 46) dX5_hasTried_46 ?_
      refine v_aload_n (pc := 47) 0 rfl dX5_hasTried_47 ?_
      refine v_get (pc := 48) (v := ai pu) 8 (Or.inr ⟨0, rfl⟩) fl_5_66_9 rfl dX5_hasTried_48 ?_
      refine v_iload_n (pc := 51) 3 rfl dX5_hasTried_51 ?_
      refine v_iload_n (pc := 52) 1 rfl dX5_hasTried_52 ?_
      refine v_iload_n (pc := 53) 2 rfl dX5_hasTried_53 ?_
      refine v_isub (pc := 54) dX5_hasTried_54 ?_
      refine v_imul (pc := 55) dX5_hasTried_55 ?_
      refine v_isub (pc := 56) dX5_hasTried_56 ?_
      refine v_callS (pc := 57) [] [0] [(h, co 9 [ar ta, ai kd, ai num, ai pv, ai (if (sk + 1) < 20 then (sk + 1) else 20), ai hn, ai gl, ai (if sc < ma then ma else sc), ai pu, ar tu])] (As := [ai 0, ai (pu - (py * (ma - ca)))]) (rest := [ar h]) (c_J9_max_7cf53 0 (pu - (py * (ma - ca))) (by first | omega | assumption) (by first | omega | assumption)) wl_X5_79 ws_J9_max_7cf53 wk_J9_max_7cf53 wz_J9 md_J9_max_7cf53 rfl (Nat.le_of_ble_eq_true rfl) ⟨Nat.le_of_ble_eq_true rfl, Nat.le_of_ble_eq_true rfl, Nat.le_of_ble_eq_true rfl, Nat.le_of_ble_eq_true rfl⟩ rfl rfl rfl rfl (by decide) ro_nil dX5_hasTried_57 (fun u hu => ?_)
      show V x cX5_hasTried RX5 4 (rmU 1 32 0 0) [(h, co 9 [ar ta, ai kd, ai num, ai pv, ai (if (sk + 1) < 20 then (sk + 1) else 20), ai hn, ai gl, ai (if sc < ma then ma else sc), ai pu, ar tu])] 60 [(0, ar h), (1, ai ma), (2, ai ca), (3, ai py)] [ai (if 0 < (pu - (py * (ma - ca))) then (pu - (py * (ma - ca))) else 0), ar h] 0 0
      refine v_put (pc := 60) 8 0 rfl fl_5_66_9 ck_9 ft_9_8 (okV_i _) (Nat.le_of_ble_eq_true rfl) (ws2 := [(h, co 9 [ar ta, ai kd, ai num, ai pv, ai (if (sk + 1) < 20 then (sk + 1) else 20), ai hn, ai gl, ai (if sc < ma then ma else sc), ai (if 0 < (pu - (py * (ma - ca))) then (pu - (py * (ma - ca))) else 0), ar tu])]) rfl dX5_hasTried_60 ?_
      refine v_ws (ws2 := [(h, co 9 [ar ta, ai kd, ai num, ai pv, ai (if ca = ma ∧ (-5 ≤ sc - ma ∧ sc - ma ≤ 5) then (if sk + 1 < 20 then sk + 1 else 20) else sk), ai hn, ai gl, ai (if ca = ma then (if sc < ma then ma else sc) else sc), ai (if 0 < pu - py * (ma - ca) then pu - py * (ma - ca) else 0), ar tu])]) (by rw [show (if ca = ma ∧ (-5 ≤ sc - ma ∧ sc - ma ≤ 5) then (if sk + 1 < 20 then sk + 1 else 20) else sk) = (if (sk + 1) < 20 then (sk + 1) else 20) by first | (rw [if_pos (by omega)]; done) | (rw [if_neg (by omega)]; done), show (if ca = ma then (if sc < ma then ma else sc) else sc) = (if sc < ma then ma else sc) by first | (rw [if_pos (by omega)]; done) | (rw [if_neg (by omega)]; done)]) ?_
      exact hret () _ _ _ _ _ trivial rfl rfl (Nat.le_of_ble_eq_true rfl) (Nat.le_of_ble_eq_true rfl) dX5_hasTried_63
