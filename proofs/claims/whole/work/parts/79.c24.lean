set_option maxHeartbeats 4000000 in
set_option maxRecDepth 100000 in
theorem c_X6_takes {gS : sG} (h : Nat) (tap : Nat) (e : Int) (hq : Nat) (t : Int → Int) (s : PS) (c : Int) (hB : PB e s) (he : 0 ≤ e ∧ e ≤ 100) (htb : ∀ j : Int, 0 ≤ j → j < e → 0 ≤ t j ∧ t j ≤ 127) (hc : 0 ≤ c ∧ c ≤ 127) : Ct gS (S := Unit) yX6_takes cX6_takes 2 (some .boolean) 0 0 0 0 [ar h, ai c] [(h, co 6 (rdL tap e hq s))] (fun q => q ∈ ([(tap, cn 0 100 t)] : aW)) (fun _ => True) (fun _ => some (ai (if s.2.1 = 0 ∧ hr t e s = c then 1 else 0))) (fun _ => [(h, co 6 (rdL tap e hq (tkS t e c s)))]) := by
  refine ct_Z RX6 [(0, ar h), (1, ai c)] (by decide) rfl (Nat.le_of_ble_eq_true rfl) rfl (fun x hgS hro hret => ?_)
  subst hgS
  have r0 := hro _ (mem_at 0 rfl)
  obtain ⟨hB1, hB2, hB3⟩ := id hB
  have hfl := flt_c hB
  have hhr := hr_v (t := t) (e := e) (s := s)
  show V x cX6_takes RX6 2 (rmU 0 0 0 0) [(h, co 6 (rdL tap e hq s))] 0 [(0, ar h), (1, ai c)] [] 0 0
  refine v_aload_n (pc := 0) 0 rfl dX6_takes_0 ?_
  refine v_get (pc := 1) (v := ai (flt s)) 4 (Or.inr ⟨0, rfl⟩) fl_6_18_6 rfl dX6_takes_1 ?_
  refine v_if_ge (pc := 4) 31 dX6_takes_4 (by decide) (by unfold iB; omega) (fun c_1 => ?_) (fun c_1 => ?_)
  · skip
    have hk : tkS t e c s = s := if_neg (by omega)
    refine v_ws (ws2 := [(h, co 6 (rdL tap e hq (tkS t e c s)))]) (by rw [hk]) ?_
    refine v_iconst (pc := 31) dX6_takes_31 ?_
    exact hret () _ _ _ _ _ _ trivial (congrArg (fun z => some (ai z)) (by split <;> first | rfl | (exfalso; omega))) (Or.inl rfl) rfl (Nat.le_of_ble_eq_true rfl) (Nat.le_of_ble_eq_true rfl) dX6_takes_32
  · skip
    refine v_aload_n (pc := 7) 0 rfl dX6_takes_7 ?_
    refine v_get (pc := 8) (v := ai s.1) 3 (Or.inr ⟨0, rfl⟩) fl_6_42_6 rfl dX6_takes_8 ?_
    refine v_aload_n (pc := 11) 0 rfl dX6_takes_11 ?_
    refine v_get (pc := 12) (v := ai e) 1 (Or.inr ⟨0, rfl⟩) fl_6_32_6 rfl dX6_takes_12 ?_
    refine v_icmp_ge (pc := 15) 31 dX6_takes_15 (by decide) (by unfold iB; omega) (by unfold iB; omega) (fun c_2 => ?_) (fun c_2 => ?_)
    · skip
      have hk : tkS t e c s = s := if_neg (by omega)
      refine v_ws (ws2 := [(h, co 6 (rdL tap e hq (tkS t e c s)))]) (by rw [hk]) ?_
      refine v_iconst (pc := 31) dX6_takes_31 ?_
      exact hret () _ _ _ _ _ _ trivial (congrArg (fun z => some (ai z)) (by split <;> first | rfl | (exfalso; omega))) (Or.inl rfl) rfl (Nat.le_of_ble_eq_true rfl) (Nat.le_of_ble_eq_true rfl) dX6_takes_32
    · skip
      refine v_aload_n (pc := 18) 0 rfl dX6_takes_18 ?_
      refine v_get (pc := 19) (v := ar tap) 0 (Or.inr ⟨0, rfl⟩) fl_6_22_6 rfl dX6_takes_19 ?_
      refine v_aload_n (pc := 22) 0 rfl dX6_takes_22 ?_
      refine v_get (pc := 23) (v := ai s.1) 3 (Or.inr ⟨0, rfl⟩) fl_6_42_6 rfl dX6_takes_23 ?_
      have htv := htb s.1 (by omega) (by omega)
      refine v_iald (pc := 26) (Or.inl r0) (by omega) (by omega) (by decide) dX6_takes_26 ?_
      refine v_iload_n (pc := 27) 1 rfl dX6_takes_27 ?_
      refine v_icmp_eq (pc := 28) 33 dX6_takes_28 (by decide) (by unfold iB; omega) (by unfold iB; omega) (fun c_3 => ?_) (fun c_3 => ?_)
      · skip
        refine v_aload_n (pc := 33) 0 rfl dX6_takes_33 ?_
        refine v_dup (pc := 34) rfl dX6_takes_34 ?_
        refine v_get (pc := 35) (v := ai s.1) 3 (Or.inr ⟨0, rfl⟩) fl_6_42_6 rfl dX6_takes_35 ?_
        refine v_iconst (pc := 38) dX6_takes_38 ?_
        refine v_iadd (pc := 39) dX6_takes_39 ?_
        refine v_put (pc := 40) 3 0 rfl fl_6_42_6 ck_6 ft_6_3 (okV_i _) (Nat.le_of_ble_eq_true rfl) (ws2 := [(h, co 6 [ar tap, ai e, ar hq, ai (s.1 + 1), ai (flt s)])]) rfl dX6_takes_40 ?_
        have hk : tkS t e c s = adv s := if_pos (by omega)
        refine v_ws (ws2 := [(h, co 6 (rdL tap e hq (tkS t e c s)))]) (by rw [hk]; show _ = [(h, co 6 [ar tap, ai e, ar hq, ai (s.1 + 1), ai (flt (adv s))])]; rw [flt_adv (by omega)]) ?_
        refine v_iconst (pc := 43) dX6_takes_43 ?_
        exact hret () _ _ _ _ _ _ trivial (congrArg (fun z => some (ai z)) (by split <;> first | rfl | (exfalso; omega))) (Or.inr rfl) rfl (Nat.le_of_ble_eq_true rfl) (Nat.le_of_ble_eq_true rfl) dX6_takes_44
      · skip
        have hk : tkS t e c s = s := if_neg (by omega)
        refine v_ws (ws2 := [(h, co 6 (rdL tap e hq (tkS t e c s)))]) (by rw [hk]) ?_
        refine v_iconst (pc := 31) dX6_takes_31 ?_
        exact hret () _ _ _ _ _ _ trivial (congrArg (fun z => some (ai z)) (by split <;> first | rfl | (exfalso; omega))) (Or.inl rfl) rfl (Nat.le_of_ble_eq_true rfl) (Nat.le_of_ble_eq_true rfl) dX6_takes_32
set_option maxHeartbeats 4000000 in
set_option maxRecDepth 100000 in
theorem c_X6_fails {gS : sG} (h : Nat) (tap : Nat) (e : Int) (hq : Nat) (s : PS) (hB : PB e s) (he : 0 ≤ e ∧ e ≤ 100) : Ct gS (S := Unit) yX6_fails cX6_fails 1 none 0 0 0 0 [ar h] [(h, co 6 (rdL tap e hq s))] (fun q => q ∈ ([] : aW)) (fun _ => True) (fun _ => none) (fun _ => [(h, co 6 (rdL tap e hq (bad s)))]) := by
  refine ct_V RX6 [(0, ar h)] (by decide) rfl (Nat.le_of_ble_eq_true rfl) rfl (fun x hgS hnm hro hret => ?_)
  subst hgS
  obtain ⟨hB1, hB2, hB3⟩ := id hB
  have hfl := flt_c hB
  show V x cX6_fails RX6 1 (rmU 0 0 0 0) [(h, co 6 (rdL tap e hq s))] 0 [(0, ar h)] [] 0 0
  refine v_aload_n (pc := 0) 0 rfl dX6_fails_0 ?_
  refine v_get (pc := 1) (v := ai (flt s)) 4 (Or.inr ⟨0, rfl⟩) fl_6_18_6 rfl dX6_fails_1 ?_
  refine v_if_ge (pc := 4) 15 dX6_fails_4 (by decide) (by unfold iB; omega) (fun c_1 => ?_) (fun c_1 => ?_)
  · skip
    refine v_ws (ws2 := [(h, co 6 (rdL tap e hq (bad s)))]) (by show [(h, co 6 [ar tap, ai e, ar hq, ai s.1, ai (flt s)])] = [(h, co 6 [ar tap, ai e, ar hq, ai s.1, ai (flt (bad s))])]; rw [flt_bad, show flt s = s.1 by omega]) ?_
    exact hret () _ _ _ _ _ trivial rfl rfl (Nat.le_of_ble_eq_true rfl) (Nat.le_of_ble_eq_true rfl) dX6_fails_15
  · skip
    refine v_aload_n (pc := 7) 0 rfl dX6_fails_7 ?_
    refine v_aload_n (pc := 8) 0 rfl dX6_fails_8 ?_
    refine v_get (pc := 9) (v := ai s.1) 3 (Or.inr ⟨0, rfl⟩) fl_6_42_6 rfl dX6_fails_9 ?_
    refine v_put (pc := 12) 4 0 rfl fl_6_18_6 ck_6 ft_6_4 (okV_i _) (Nat.le_of_ble_eq_true rfl) (ws2 := [(h, co 6 [ar tap, ai e, ar hq, ai s.1, ai s.1])]) rfl dX6_fails_12 ?_
    refine v_ws (ws2 := [(h, co 6 (rdL tap e hq (bad s)))]) (by show _ = [(h, co 6 [ar tap, ai e, ar hq, ai s.1, ai (flt (bad s))])]; rw [flt_bad]) ?_
    exact hret () _ _ _ _ _ trivial rfl rfl (Nat.le_of_ble_eq_true rfl) (Nat.le_of_ble_eq_true rfl) dX6_fails_15
set_option maxHeartbeats 4000000 in
set_option maxRecDepth 100000 in
theorem c_X6_digit {gS : sG} (h : Nat) (tap : Nat) (e : Int) (hq : Nat) (t : Int → Int) (s : PS) (hB : PB e s) (he : 0 ≤ e ∧ e ≤ 100) (htb : ∀ j : Int, 0 ≤ j → j < e → 0 ≤ t j ∧ t j ≤ 127) : Ct gS (S := Unit) yX6_digit cX6_digit 1 (some .int) 0 0 0 0 [ar h] [(h, co 6 (rdL tap e hq s))] (fun q => q ∈ ([(tap, cn 0 100 t)] : aW)) (fun _ => True) (fun _ => some (ai (dgV t e s))) (fun _ => [(h, co 6 (rdL tap e hq (dgS t e s)))]) := by
  refine ct_I RX6 [(0, ar h)] (by decide) rfl (Nat.le_of_ble_eq_true rfl) rfl (fun x hgS hro hret => ?_)
  subst hgS
  have r0 := hro _ (mem_at 0 rfl)
  obtain ⟨hB1, hB2, hB3⟩ := id hB
  have hfl := flt_c hB
  have hhr := hr_v (t := t) (e := e) (s := s)
  show V x cX6_digit RX6 1 (rmU 0 0 0 0) [(h, co 6 (rdL tap e hq s))] 0 [(0, ar h)] [] 0 0
  refine v_aload_n (pc := 0) 0 rfl dX6_digit_0 ?_
  refine v_get (pc := 1) (v := ai (flt s)) 4 (Or.inr ⟨0, rfl⟩) fl_6_18_6 rfl dX6_digit_1 ?_
  refine v_if_ge (pc := 4) 46 dX6_digit_4 (by decide) (by unfold iB; omega) (fun c_1 => ?_) (fun c_1 => ?_)
  · skip
    have hk : dgS t e s = s := if_neg (by omega)
    have hv : dgV t e s = -1 := if_neg (by omega)
    refine v_ws (ws2 := [(h, co 6 (rdL tap e hq (dgS t e s)))]) (by rw [hk]) ?_
    refine v_iconst (pc := 46) dX6_digit_46 ?_
    exact hret () _ _ _ _ _ _ trivial (congrArg (fun z => some (ai z)) (by first | exact hv | (rw [hv]; omega))) rfl (Nat.le_of_ble_eq_true rfl) (Nat.le_of_ble_eq_true rfl) dX6_digit_47
  · skip
    refine v_aload_n (pc := 7) 0 rfl dX6_digit_7 ?_
    refine v_get (pc := 8) (v := ai s.1) 3 (Or.inr ⟨0, rfl⟩) fl_6_42_6 rfl dX6_digit_8 ?_
    refine v_aload_n (pc := 11) 0 rfl dX6_digit_11 ?_
    refine v_get (pc := 12) (v := ai e) 1 (Or.inr ⟨0, rfl⟩) fl_6_32_6 rfl dX6_digit_12 ?_
    refine v_icmp_ge (pc := 15) 46 dX6_digit_15 (by decide) (by unfold iB; omega) (by unfold iB; omega) (fun c_2 => ?_) (fun c_2 => ?_)
    · skip
      have hk : dgS t e s = s := if_neg (by omega)
      have hv : dgV t e s = -1 := if_neg (by omega)
      refine v_ws (ws2 := [(h, co 6 (rdL tap e hq (dgS t e s)))]) (by rw [hk]) ?_
      refine v_iconst (pc := 46) dX6_digit_46 ?_
      exact hret () _ _ _ _ _ _ trivial (congrArg (fun z => some (ai z)) (by first | exact hv | (rw [hv]; omega))) rfl (Nat.le_of_ble_eq_true rfl) (Nat.le_of_ble_eq_true rfl) dX6_digit_47
    · skip
      refine v_aload_n (pc := 18) 0 rfl dX6_digit_18 ?_
      refine v_get (pc := 19) (v := ar tap) 0 (Or.inr ⟨0, rfl⟩) fl_6_22_6 rfl dX6_digit_19 ?_
      refine v_aload_n (pc := 22) 0 rfl dX6_digit_22 ?_
      refine v_get (pc := 23) (v := ai s.1) 3 (Or.inr ⟨0, rfl⟩) fl_6_42_6 rfl dX6_digit_23 ?_
      have htv := htb s.1 (by omega) (by omega)
      refine v_iald (pc := 26) (Or.inl r0) (by omega) (by omega) (by decide) dX6_digit_26 ?_
      refine v_bipush (pc := 27) dX6_digit_27 (by decide) ?_
      refine v_icmp_lt (pc := 29) 46 dX6_digit_29 (by decide) (by unfold iB; omega) (by unfold iB; omega) (fun c_3 => ?_) (fun c_3 => ?_)
      · skip
        have hk : dgS t e s = s := if_neg (by omega)
        have hv : dgV t e s = -1 := if_neg (by omega)
        refine v_ws (ws2 := [(h, co 6 (rdL tap e hq (dgS t e s)))]) (by rw [hk]) ?_
        refine v_iconst (pc := 46) dX6_digit_46 ?_
        exact hret () _ _ _ _ _ _ trivial (congrArg (fun z => some (ai z)) (by first | exact hv | (rw [hv]; omega))) rfl (Nat.le_of_ble_eq_true rfl) (Nat.le_of_ble_eq_true rfl) dX6_digit_47
      · skip
        refine v_aload_n (pc := 32) 0 rfl dX6_digit_32 ?_
        refine v_get (pc := 33) (v := ar tap) 0 (Or.inr ⟨0, rfl⟩) fl_6_22_6 rfl dX6_digit_33 ?_
        refine v_aload_n (pc := 36) 0 rfl dX6_digit_36 ?_
        refine v_get (pc := 37) (v := ai s.1) 3 (Or.inr ⟨0, rfl⟩) fl_6_42_6 rfl dX6_digit_37 ?_
        refine v_iald (pc := 40) (Or.inl r0) (by omega) (by omega) (by decide) dX6_digit_40 ?_
        refine v_bipush (pc := 41) dX6_digit_41 (by decide) ?_
        refine v_icmp_le (pc := 43) 48 dX6_digit_43 (by decide) (by unfold iB; omega) (by unfold iB; omega) (fun c_4 => ?_) (fun c_4 => ?_)
        · skip
          refine v_aload_n (pc := 48) 0 rfl dX6_digit_48 ?_
          refine v_dup (pc := 49) rfl dX6_digit_49 ?_
          refine v_get (pc := 50) (v := ai s.1) 3 (Or.inr ⟨0, rfl⟩) fl_6_42_6 rfl dX6_digit_50 ?_
          refine v_iconst (pc := 53) dX6_digit_53 ?_
          refine v_iadd (pc := 54) dX6_digit_54 ?_
          refine v_put (pc := 55) 3 0 rfl fl_6_42_6 ck_6 ft_6_3 (okV_i _) (Nat.le_of_ble_eq_true rfl) (ws2 := [(h, co 6 [ar tap, ai e, ar hq, ai (s.1 + 1), ai (flt s)])]) rfl dX6_digit_55 ?_
          refine v_aload_n (pc := 58) 0 rfl dX6_digit_58 ?_
          refine v_get (pc := 59) (v := ar tap) 0 (Or.inr ⟨0, rfl⟩) fl_6_22_6 rfl dX6_digit_59 ?_
          refine v_aload_n (pc := 62) 0 rfl dX6_digit_62 ?_
          refine v_get (pc := 63) (v := ai (s.1 + 1)) 3 (Or.inr ⟨0, rfl⟩) fl_6_42_6 rfl dX6_digit_63 ?_
          refine v_iconst (pc := 66) dX6_digit_66 ?_
          refine v_isub (pc := 67) dX6_digit_67 ?_
          refine v_eqi (y := s.1) (by omega) ?_
          refine v_iald (pc := 68) (Or.inl r0) (by omega) (by omega) (by decide) dX6_digit_68 ?_
          refine v_bipush (pc := 69) dX6_digit_69 (by decide) ?_
          refine v_isub (pc := 71) dX6_digit_71 ?_
          have hk : dgS t e s = adv s := if_pos (by omega)
          have hv : dgV t e s = hr t e s - 48 := if_pos (by omega)
          refine v_ws (ws2 := [(h, co 6 (rdL tap e hq (dgS t e s)))]) (by rw [hk]; show _ = [(h, co 6 [ar tap, ai e, ar hq, ai (s.1 + 1), ai (flt (adv s))])]; rw [flt_adv (by omega)]) ?_
          exact hret () _ _ _ _ _ _ trivial (congrArg (fun z => some (ai z)) (by first | exact hv | (rw [hv]; omega))) rfl (Nat.le_of_ble_eq_true rfl) (Nat.le_of_ble_eq_true rfl) dX6_digit_72
        · skip
          have hk : dgS t e s = s := if_neg (by omega)
          have hv : dgV t e s = -1 := if_neg (by omega)
          refine v_ws (ws2 := [(h, co 6 (rdL tap e hq (dgS t e s)))]) (by rw [hk]) ?_
          refine v_iconst (pc := 46) dX6_digit_46 ?_
          exact hret () _ _ _ _ _ _ trivial (congrArg (fun z => some (ai z)) (by first | exact hv | (rw [hv]; omega))) rfl (Nat.le_of_ble_eq_true rfl) (Nat.le_of_ble_eq_true rfl) dX6_digit_47
set_option maxHeartbeats 4000000 in
set_option maxRecDepth 100000 in
theorem c_X6_number {gS : sG} (h : Nat) (tap : Nat) (e : Int) (hq : Nat) (t : Int → Int) (s : PS) (hB : PB e s) (he : 0 ≤ e ∧ e ≤ 100) (htb : ∀ j : Int, 0 ≤ j → j < e → 0 ≤ t j ∧ t j ≤ 127) : Ct gS (S := Unit) yX6_number cX6_number 3 (some .int) 1 20 0 0 [ar h] [(h, co 6 (rdL tap e hq s))] (fun q => q ∈ ([(tap, cn 0 100 t)] : aW)) (fun _ => True) (fun _ => some (ai ((fig t e s).1))) (fun _ => [(h, co 6 (rdL tap e hq ((fig t e s).2)))]) := by
  refine ct_I RX6 [(0, ar h)] (by decide) rfl (Nat.le_of_ble_eq_true rfl) rfl (fun x hgS hro hret => ?_)
  subst hgS
  have r0 := hro _ (mem_at 0 rfl)
  obtain ⟨hB1, hB2, hB3⟩ := id hB
  have hfl := flt_c hB
  have hhr := hr_v (t := t) (e := e) (s := s)
  show V x cX6_number RX6 3 (rmU 1 20 0 0) [(h, co 6 (rdL tap e hq s))] 0 [(0, ar h)] [] 0 0
  refine v_aload_n (pc := 0) 0 rfl dX6_number_0 ?_
  rcases Classical.em (s.2.1 = 0 ∧ 48 ≤ hr t e s ∧ hr t e s ≤ 57) with hd | hd
  · skip
    refine v_callV (pc := 1) [0] [] [] (As := []) (rest := []) (c_X6_digit h tap e hq t s (by assumption) (by first | omega | assumption) (by assumption)) (c := 6) rfl (Or.inr ⟨0, rfl⟩) wl_X6_104 wi_X6_digit wv_X6_X6_digit_X6_digit wk_X6_digit wz_X6 md_X6_digit rfl (Nat.le_of_ble_eq_true rfl) ⟨Nat.le_of_ble_eq_true rfl, Nat.le_of_ble_eq_true rfl, Nat.le_of_ble_eq_true rfl, Nat.le_of_ble_eq_true rfl⟩ rfl rfl rfl rfl (by decide) (ro_cons (Or.inl r0) ro_nil) dX6_number_1 (fun u hu => ?_)
    show V x cX6_number RX6 3 (rmU 1 20 0 0) [(h, co 6 (rdL tap e hq (dgS t e s)))] 4 [(0, ar h)] [ai (dgV t e s)] 0 0
    have hk : dgS t e s = adv s := if_pos hd
    refine v_eqi (y := hr t e s - 48) (if_pos hd) ?_
    refine v_ws (ws2 := [(h, co 6 (rdL tap e hq (adv s)))]) (by rw [hk]) ?_
    have hBa := (adv_k hB (by omega)).1
    have hhr2 := hr_v (t := t) (e := e) (s := adv s)
    have ha0 : (adv s).2.1 = s.2.1 := rfl
    refine v_istore_n (pc := 4) (L2 := [(1, ai (hr t e s - 48)), (0, ar h)]) rfl (by decide) dX6_number_4 ?_
    refine v_iload_n (pc := 5) 0 rfl dX6_number_5 ?_
    refine v_if_ge (pc := 6) 13 dX6_number_6 (by decide) (by unfold iB; omega) (fun c_1 => ?_) (fun c_1 => ?_)
    · skip
      refine v_iload_n (pc := 13) 0 rfl dX6_number_13 ?_
      refine v_if_gt (pc := 14) 19 dX6_number_14 (by decide) (by unfold iB; omega) (fun c_2 => ?_) (fun c_2 => ?_)
      · skip
        refine v_aload_n (pc := 19) 1 rfl dX6_number_19 ?_
        rcases Classical.em ((adv s).2.1 = 0 ∧ 48 ≤ hr t e (adv s) ∧ hr t e (adv s) ≤ 57) with hd2 | hd2
        · skip
          have hhr3 := hr_v (t := t) (e := e) (s := adv s)
          refine v_callV (pc := 20) [0] [] [] (As := []) (rest := []) (c_X6_digit h tap e hq t (adv s) (by exact hBa) (by first | omega | assumption) (by assumption)) (c := 6) rfl (Or.inr ⟨0, rfl⟩) wl_X6_104 wi_X6_digit wv_X6_X6_digit_X6_digit wk_X6_digit wz_X6 md_X6_digit rfl (Nat.le_of_ble_eq_true rfl) ⟨Nat.le_of_ble_eq_true rfl, Nat.le_of_ble_eq_true rfl, Nat.le_of_ble_eq_true rfl, Nat.le_of_ble_eq_true rfl⟩ rfl rfl rfl rfl (by decide) (ro_cons (Or.inl r0) ro_nil) dX6_number_20 (fun u hu => ?_)
          show V x cX6_number RX6 3 (rmU 1 20 0 0) [(h, co 6 (rdL tap e hq (dgS t e (adv s))))] 23 [(1, ai (hr t e s - 48)), (0, ar h)] [ai (dgV t e (adv s))] 0 0
          have hk2 : dgS t e (adv s) = adv (adv s) := if_pos hd2
          refine v_eqi (y := hr t e (adv s) - 48) (if_pos hd2) ?_
          refine v_ws (ws2 := [(h, co 6 (rdL tap e hq (adv (adv s))))]) (by rw [hk2]) ?_
          refine v_istore_n (pc := 23) (L2 := [(2, ai (hr t e (adv s) - 48)), (1, ai (hr t e s - 48)), (0, ar h)]) rfl (by decide) dX6_number_23 ?_
          refine v_iload_n (pc := 24) 0 rfl dX6_number_24 ?_
          refine v_if_ge (pc := 25) 32 dX6_number_25 (by decide) (by unfold iB; omega) (fun c_3 => ?_) (fun c_3 => ?_)
          · skip
            refine v_bipush (pc := 32) dX6_number_32 (by decide) ?_
            refine v_iload_n (pc := 34) 1 rfl dX6_number_34 ?_
            refine v_imul (pc := 35) dX6_number_35 ?_
            refine v_iload_n (pc := 36) 0 rfl dX6_number_36 ?_
            refine v_iadd (pc := 37) dX6_number_37 ?_
            have hfg : fig t e s = (10 * (hr t e s - 48) + hr t e (adv s) - 48, (adv (adv s))) := fig_y2 (dgP_iff.mpr hd) (by omega)
            refine v_ws (ws2 := [(h, co 6 (rdL tap e hq ((fig t e s).2)))]) (by rw [hfg]) ?_
            exact hret () _ _ _ _ _ _ trivial (congrArg (fun z => some (ai z)) (by first | (rw [hfg]; done) | (rw [hfg]; first | rfl | (dsimp only; omega)))) rfl (Nat.le_of_ble_eq_true rfl) (Nat.le_of_ble_eq_true rfl) dX6_number_38
          · skip
            refine v_iload_n (pc := 28) 1 rfl dX6_number_28 ?_
            refine v_goto (pc := 29) 38 dX6_number_29 (by decide) ?_
            have hfg : fig t e s = (10 * (hr t e s - 48) + hr t e (adv s) - 48, (adv (adv s))) := fig_y2 (dgP_iff.mpr hd) (by omega)
            refine v_ws (ws2 := [(h, co 6 (rdL tap e hq ((fig t e s).2)))]) (by rw [hfg]) ?_
            exact hret () _ _ _ _ _ _ trivial (congrArg (fun z => some (ai z)) (by first | (rw [hfg]; done) | (rw [hfg]; first | rfl | (dsimp only; omega)))) rfl (Nat.le_of_ble_eq_true rfl) (Nat.le_of_ble_eq_true rfl) dX6_number_38
        · skip
          refine v_callV (pc := 20) [0] [] [] (As := []) (rest := []) (c_X6_digit h tap e hq t (adv s) (by exact hBa) (by first | omega | assumption) (by assumption)) (c := 6) rfl (Or.inr ⟨0, rfl⟩) wl_X6_104 wi_X6_digit wv_X6_X6_digit_X6_digit wk_X6_digit wz_X6 md_X6_digit rfl (Nat.le_of_ble_eq_true rfl) ⟨Nat.le_of_ble_eq_true rfl, Nat.le_of_ble_eq_true rfl, Nat.le_of_ble_eq_true rfl, Nat.le_of_ble_eq_true rfl⟩ rfl rfl rfl rfl (by decide) (ro_cons (Or.inl r0) ro_nil) dX6_number_20 (fun u hu => ?_)
          show V x cX6_number RX6 3 (rmU 1 20 0 0) [(h, co 6 (rdL tap e hq (dgS t e (adv s))))] 23 [(1, ai (hr t e s - 48)), (0, ar h)] [ai (dgV t e (adv s))] 0 0
          have hk2 : dgS t e (adv s) = adv s := if_neg hd2
          refine v_eqi (y := -1) (if_neg hd2) ?_
          refine v_ws (ws2 := [(h, co 6 (rdL tap e hq (adv s)))]) (by rw [hk2]) ?_
          refine v_istore_n (pc := 23) (L2 := [(2, ai (-1)), (1, ai (hr t e s - 48)), (0, ar h)]) rfl (by decide) dX6_number_23 ?_
          refine v_iload_n (pc := 24) 0 rfl dX6_number_24 ?_
          refine v_if_ge (pc := 25) 32 dX6_number_25 (by decide) (by unfold iB; omega) (fun c_4 => by exfalso; omega) (fun c_4 => ?_)
          refine v_iload_n (pc := 28) 1 rfl dX6_number_28 ?_
          refine v_goto (pc := 29) 38 dX6_number_29 (by decide) ?_
          have hfg : fig t e s = (hr t e s - 48, (adv s)) := fig_y1 (dgP_iff.mpr hd) (by omega)
          refine v_ws (ws2 := [(h, co 6 (rdL tap e hq ((fig t e s).2)))]) (by rw [hfg]) ?_
          exact hret () _ _ _ _ _ _ trivial (congrArg (fun z => some (ai z)) (by first | (rw [hfg]; done) | (rw [hfg]; first | rfl | (dsimp only; omega)))) rfl (Nat.le_of_ble_eq_true rfl) (Nat.le_of_ble_eq_true rfl) dX6_number_38
      · skip
        refine v_iconst (pc := 17) dX6_number_17 ?_
        have hfg : fig t e s = (hr t e s - 48, (adv s)) := fig_y1 (dgP_iff.mpr hd) (by omega)
        refine v_ws (ws2 := [(h, co 6 (rdL tap e hq ((fig t e s).2)))]) (by rw [hfg]) ?_
        exact hret () _ _ _ _ _ _ trivial (congrArg (fun z => some (ai z)) (by first | (rw [hfg]; done) | (rw [hfg]; first | rfl | (dsimp only; omega)))) rfl (Nat.le_of_ble_eq_true rfl) (Nat.le_of_ble_eq_true rfl) dX6_number_18
    · skip
      exfalso; omega
  · skip
    refine v_callV (pc := 1) [0] [] [] (As := []) (rest := []) (c_X6_digit h tap e hq t s (by assumption) (by first | omega | assumption) (by assumption)) (c := 6) rfl (Or.inr ⟨0, rfl⟩) wl_X6_104 wi_X6_digit wv_X6_X6_digit_X6_digit wk_X6_digit wz_X6 md_X6_digit rfl (Nat.le_of_ble_eq_true rfl) ⟨Nat.le_of_ble_eq_true rfl, Nat.le_of_ble_eq_true rfl, Nat.le_of_ble_eq_true rfl, Nat.le_of_ble_eq_true rfl⟩ rfl rfl rfl rfl (by decide) (ro_cons (Or.inl r0) ro_nil) dX6_number_1 (fun u hu => ?_)
    show V x cX6_number RX6 3 (rmU 1 20 0 0) [(h, co 6 (rdL tap e hq (dgS t e s)))] 4 [(0, ar h)] [ai (dgV t e s)] 0 0
    have hk : dgS t e s = s := if_neg hd
    refine v_eqi (y := -1) (if_neg hd) ?_
    refine v_ws (ws2 := [(h, co 6 (rdL tap e hq s))]) (by rw [hk]) ?_
    refine v_istore_n (pc := 4) (L2 := [(1, ai (-1)), (0, ar h)]) rfl (by decide) dX6_number_4 ?_
    refine v_iload_n (pc := 5) 0 rfl dX6_number_5 ?_
    refine v_if_ge (pc := 6) 13 dX6_number_6 (by decide) (by unfold iB; omega) (fun c_5 => by exfalso; omega) (fun c_5 => ?_)
    refine v_aload_n (pc := 9) 1 rfl dX6_number_9 ?_
    refine v_callV (pc := 10) [0] [] [] (As := []) (rest := []) (c_X6_fails h tap e hq s (by assumption) (by first | omega | assumption)) (c := 6) rfl (Or.inr ⟨0, rfl⟩) wl_X6_45 wi_X6_fails wv_X6_X6_fails_X6_fails wk_X6_fails wz_X6 md_X6_fails rfl (Nat.le_of_ble_eq_true rfl) ⟨Nat.le_of_ble_eq_true rfl, Nat.le_of_ble_eq_true rfl, Nat.le_of_ble_eq_true rfl, Nat.le_of_ble_eq_true rfl⟩ rfl rfl rfl rfl (by decide) ro_nil dX6_number_10 (fun u hu => ?_)
    show V x cX6_number RX6 3 (rmU 1 20 0 0) [(h, co 6 (rdL tap e hq (bad s)))] 13 [(1, ai (-1)), (0, ar h)] [] 0 0
    refine v_iload_n (pc := 13) 0 rfl dX6_number_13 ?_
    refine v_if_gt (pc := 14) 19 dX6_number_14 (by decide) (by unfold iB; omega) (fun c_6 => by exfalso; omega) (fun c_6 => ?_)
    refine v_iconst (pc := 17) dX6_number_17 ?_
    have hfg : fig t e s = (0, (bad s)) := fig_n (fun q => hd (dgP_iff.mp q))
    refine v_ws (ws2 := [(h, co 6 (rdL tap e hq ((fig t e s).2)))]) (by rw [hfg]) ?_
    exact hret () _ _ _ _ _ _ trivial (congrArg (fun z => some (ai z)) (by first | (rw [hfg]; done) | (rw [hfg]; first | rfl | (dsimp only; omega)))) rfl (Nat.le_of_ble_eq_true rfl) (Nat.le_of_ble_eq_true rfl) dX6_number_18
set_option maxHeartbeats 4000000 in
set_option maxRecDepth 100000 in
theorem c_X6_takesOneOf {gS : sG} (h : Nat) (tap : Nat) (e : Int) (hq : Nat) (t : Int → Int) (s : PS) (i : Nat) (hB : PB e s) (he : 0 ≤ e ∧ e ≤ 100) (htb : ∀ j : Int, 0 ≤ j → j < e → 0 ≤ t j ∧ t j ≤ 127) (hi : i < 13) : Ct gS (S := Unit) yX6_takesOneOf cX6_takesOneOf 3 (some .int) 4 85 0 0 [ar h, ar (lK gS i)] [(h, co 6 (rdL tap e hq s))] (fun q => q ∈ ([(tap, cn 0 100 t)] : aW)) (fun _ => True) (fun _ => some (ai ((to1 t e i s).1))) (fun _ => [(h, co 6 (rdL tap e hq ((to1 t e i s).2)))]) := by
  refine ct_I RX6 [(0, ar h), (1, ar (lK gS i))] (by decide) rfl (Nat.le_of_ble_eq_true rfl) rfl (fun x hgS hro hret => ?_)
  subst hgS
  have r0 := hro _ (mem_at 0 rfl)
  obtain ⟨hB1, hB2, hB3⟩ := id hB
  have hfl := flt_c hB
  have hhr := hr_v (t := t) (e := e) (s := s)
  have hlb := len_b hi
  show V x cX6_takesOneOf RX6 3 (rmU 4 85 0 0) [(h, co 6 (rdL tap e hq s))] 0 [(0, ar h), (1, ar (lK (xg x) i))] [] 0 0
  refine v_iconst (pc := 0) dX6_takesOneOf_0 ?_
  refine v_istore_n (pc := 1) (L2 := [(2, ai 0), (0, ar h), (1, ar (lK (xg x) i))]) rfl (by decide) dX6_takesOneOf_1 ?_
  have lp2 : ∀ (mm : Nat) (k : Int), (lenS i - k).toNat = mm → (0 ≤ k ∧ k ≤ lenS i) → (s.2.1 = 0 → fdx i (hr t e s) 0 (lenS i).toNat = fdx i (hr t e s) k.toNat ((lenS i).toNat - k.toNat)) → V x cX6_takesOneOf RX6 3 (rmU 4 85 0 0) [(h, co 6 (rdL tap e hq s))] 2 [(0, ar h), (1, ar (lK (xg x) i)), (2, ai k)] [] 0 0 := by
    intro mm
    induction mm using Nat.strongRecOn with
    | _ mm ih =>
      intro k hmm hk hf
      refine v_iload_n (pc := 2) 2 rfl dX6_takesOneOf_2 ?_
      refine v_aload_n (pc := 3) 1 rfl dX6_takesOneOf_3 ?_
      refine v_callT (pc := 4) [] [0] [(h, co 6 (rdL tap e hq s))] (As := []) (rest := [ai k]) (c_J0_length_8abf5 i (by first | omega | assumption)) (by first | omega | assumption) wl_X6_107 wi_J0_length_8abf5 wv_J0_length_8abf5 wk_J0_length_8abf5 wz_J0 md_J0_length_8abf5 rfl (Nat.le_of_ble_eq_true rfl) ⟨Nat.le_of_ble_eq_true rfl, Nat.le_of_ble_eq_true rfl, Nat.le_of_ble_eq_true rfl, Nat.le_of_ble_eq_true rfl⟩ rfl rfl rfl rfl (by decide) ro_nil dX6_takesOneOf_4 (fun u hu => ?_)
      show V x cX6_takesOneOf RX6 3 (rmU 4 85 0 0) [(h, co 6 (rdL tap e hq s))] 7 [(0, ar h), (1, ar (lK (xg x) i)), (2, ai k)] [ai (lenS i), ai k] 0 0
      refine v_icmp_ge (pc := 7) 30 dX6_takesOneOf_7 (by decide) (by unfold iB; omega) (by unfold iB; omega) (fun c_1 => ?_) (fun c_1 => ?_)
      · skip
        refine v_aload_n (pc := 30) 0 rfl dX6_takesOneOf_30 ?_
        refine v_callV (pc := 31) [0] [] [] (As := []) (rest := []) (c_X6_fails h tap e hq s (by assumption) (by first | omega | assumption)) (c := 6) rfl (Or.inr ⟨0, rfl⟩) wl_X6_45 wi_X6_fails wv_X6_X6_fails_X6_fails wk_X6_fails wz_X6 md_X6_fails rfl (Nat.le_of_ble_eq_true rfl) ⟨Nat.le_of_ble_eq_true rfl, Nat.le_of_ble_eq_true rfl, Nat.le_of_ble_eq_true rfl, Nat.le_of_ble_eq_true rfl⟩ rfl rfl rfl rfl (by decide) ro_nil dX6_takesOneOf_31 (fun u hu => ?_)
        show V x cX6_takesOneOf RX6 3 (rmU 4 85 0 0) [(h, co 6 (rdL tap e hq (bad s)))] 34 [(0, ar h), (1, ar (lK (xg x) i)), (2, ai k)] [] 0 0
        have hto : to1 t e i s = (0, bad s) := by unfold to1; rw [if_neg (fun q => q.2 (by rw [hf q.1, show (lenS i).toNat - k.toNat = 0 by omega]; exact fdx_0 _ _ _))]
        refine v_ws (ws2 := [(h, co 6 (rdL tap e hq ((to1 t e i s).2)))]) (by rw [hto]) ?_
        refine v_iconst (pc := 34) dX6_takesOneOf_34 ?_
        exact hret () _ _ _ _ _ _ trivial (congrArg (fun z => some (ai z)) (by rw [hto])) rfl (Nat.le_of_ble_eq_true rfl) (Nat.le_of_ble_eq_true rfl) dX6_takesOneOf_35
      · skip
        refine v_aload_n (pc := 10) 0 rfl dX6_takesOneOf_10 ?_
        refine v_aload_n (pc := 11) 1 rfl dX6_takesOneOf_11 ?_
        refine v_iload_n (pc := 12) 2 rfl dX6_takesOneOf_12 ?_
        refine v_callT (pc := 13) [] [0] [(h, co 6 (rdL tap e hq s))] (As := [ai k]) (rest := [ar h]) (c_J0_charAt_5068e i k (by first | omega | assumption) (by first | omega | assumption)) (by first | omega | assumption) wl_X6_112 wi_J0_charAt_5068e wv_J0_charAt_5068e wk_J0_charAt_5068e wz_J0 md_J0_charAt_5068e rfl (Nat.le_of_ble_eq_true rfl) ⟨Nat.le_of_ble_eq_true rfl, Nat.le_of_ble_eq_true rfl, Nat.le_of_ble_eq_true rfl, Nat.le_of_ble_eq_true rfl⟩ rfl rfl rfl rfl (by decide) ro_nil dX6_takesOneOf_13 (fun u hu => ?_)
        show V x cX6_takesOneOf RX6 3 (rmU 4 85 0 0) [(h, co 6 (rdL tap e hq s))] 16 [(0, ar h), (1, ar (lK (xg x) i)), (2, ai k)] [ai (chS i k), ar h] 0 0
        have hcb := ch_b hi (k := k) (by omega)
        refine v_callV (pc := 16) [0] [] [] (As := [ai (chS i k)]) (rest := []) (c_X6_takes h tap e hq t s (chS i k) (by assumption) (by first | omega | assumption) (by assumption) (by first | omega | assumption)) (c := 6) rfl (Or.inr ⟨0, rfl⟩) wl_X6_38 wi_X6_takes wv_X6_X6_takes_X6_takes wk_X6_takes wz_X6 md_X6_takes rfl (Nat.le_of_ble_eq_true rfl) ⟨Nat.le_of_ble_eq_true rfl, Nat.le_of_ble_eq_true rfl, Nat.le_of_ble_eq_true rfl, Nat.le_of_ble_eq_true rfl⟩ rfl rfl rfl rfl (by decide) (ro_cons (Or.inl r0) ro_nil) dX6_takesOneOf_16 (fun u hu => ?_)
        show V x cX6_takesOneOf RX6 3 (rmU 4 85 0 0) [(h, co 6 (rdL tap e hq (tkS t e (chS i k) s)))] 19 [(0, ar h), (1, ar (lK (xg x) i)), (2, ai k)] [ai (if s.2.1 = 0 ∧ hr t e s = (chS i k) then 1 else 0)] 0 0
        refine v_ifb_eq (pc := 19) 24 dX6_takesOneOf_19 (by decide) (fun c_2 => ?_) (fun c_2 => ?_)
        · skip
          have hk1 : tkS t e (chS i k) s = s := if_neg (by omega)
          refine v_ws (ws2 := [(h, co 6 (rdL tap e hq s))]) (by rw [hk1]) ?_
          refine v_iinc (pc := 24) 2 (L2 := [(2, ai (k + 1)), (0, ar h), (1, ar (lK (xg x) i))]) rfl rfl (by decide) dX6_takesOneOf_24 ?_
          refine v_goto (pc := 27) 2 dX6_takesOneOf_27 (by decide) ?_
          refine v_sub (L2 := [(0, ar h), (1, ar (lK (xg x) i)), (2, ai (k + 1))]) [1, 2, 0] rfl ?_
          exact ih _ (by omega) (k + 1) rfl (by omega) (by intro q; rw [hf q, show (lenS i).toNat - k.toNat = ((lenS i).toNat - (k + 1).toNat) + 1 by omega, fdx_f (by rw [show ((k.toNat : Nat) : Int) = k by omega]; omega), show k.toNat + 1 = (k + 1).toNat by omega])
        · skip
          have hqq : s.2.1 = 0 ∧ hr t e s = chS i k := by omega
          have hto : to1 t e i s = (k, adv s) := by unfold to1; rw [hf hqq.1, show (lenS i).toNat - k.toNat = ((lenS i).toNat - (k + 1).toNat) + 1 by omega, fdx_t (by rw [show ((k.toNat : Nat) : Int) = k by omega]; exact hqq.2), if_pos ⟨hqq.1, by omega⟩, show ((k.toNat : Nat) : Int) = k by omega]
          have hk1 : tkS t e (chS i k) s = adv s := if_pos hqq
          refine v_ws (ws2 := [(h, co 6 (rdL tap e hq ((to1 t e i s).2)))]) (by rw [hk1, hto]) ?_
          refine v_iload_n (pc := 22) 2 rfl dX6_takesOneOf_22 ?_
          exact hret () _ _ _ _ _ _ trivial (congrArg (fun z => some (ai z)) (by rw [hto])) rfl (Nat.le_of_ble_eq_true rfl) (Nat.le_of_ble_eq_true rfl) dX6_takesOneOf_23
  refine v_sub (L2 := [(0, ar h), (1, ar (lK (xg x) i)), (2, ai 0)]) [1, 2, 0] rfl ?_
  exact lp2 _ 0 rfl (by omega) (by intro _; rfl)
set_option maxHeartbeats 4000000 in
set_option maxRecDepth 100000 in
theorem c_X6_needs {gS : sG} (h : Nat) (tap : Nat) (e : Int) (hq : Nat) (t : Int → Int) (s : PS) (i : Nat) (hB : PB e s) (he : 0 ≤ e ∧ e ≤ 100) (htb : ∀ j : Int, 0 ≤ j → j < e → 0 ≤ t j ∧ t j ≤ 127) (hi : i < 13) : Ct gS (S := Unit) yX6_needs cX6_needs 3 none 4 85 0 0 [ar h, ar (lK gS i)] [(h, co 6 (rdL tap e hq s))] (fun q => q ∈ ([(tap, cn 0 100 t)] : aW)) (fun _ => True) (fun _ => none) (fun _ => [(h, co 6 (rdL tap e hq (spl t e i (lenS i).toNat s)))]) := by
  refine ct_V RX6 [(0, ar h), (1, ar (lK gS i))] (by decide) rfl (Nat.le_of_ble_eq_true rfl) rfl (fun x hgS hnm hro hret => ?_)
  subst hgS
  have r0 := hro _ (mem_at 0 rfl)
  obtain ⟨hB1, hB2, hB3⟩ := id hB
  have hfl := flt_c hB
  have hhr := hr_v (t := t) (e := e) (s := s)
  have hlb := len_b hi
  show V x cX6_needs RX6 3 (rmU 4 85 0 0) [(h, co 6 (rdL tap e hq s))] 0 [(0, ar h), (1, ar (lK (xg x) i))] [] 0 0
  refine v_iconst (pc := 0) dX6_needs_0 ?_
  refine v_istore_n (pc := 1) (L2 := [(2, ai 0), (0, ar h), (1, ar (lK (xg x) i))]) rfl (by decide) dX6_needs_1 ?_
  have lp2 : ∀ (mm : Nat) (k : Int), (lenS i - k).toNat = mm → (0 ≤ k ∧ k ≤ lenS i) → V x cX6_needs RX6 3 (rmU 4 85 0 0) [(h, co 6 (rdL tap e hq (spl t e i k.toNat s)))] 2 [(0, ar h), (1, ar (lK (xg x) i)), (2, ai k)] [] 0 0 := by
    intro mm
    induction mm using Nat.strongRecOn with
    | _ mm ih =>
      intro k hmm hk
      have hBk := (Mv_spl (t := t) hi hB k.toNat (by omega)).1
      refine v_iload_n (pc := 2) 2 rfl dX6_needs_2 ?_
      refine v_aload_n (pc := 3) 1 rfl dX6_needs_3 ?_
      refine v_callT (pc := 4) [] [0] [(h, co 6 (rdL tap e hq (spl t e i k.toNat s)))] (As := []) (rest := [ai k]) (c_J0_length_8abf5 i (by first | omega | assumption)) (by first | omega | assumption) wl_X6_107 wi_J0_length_8abf5 wv_J0_length_8abf5 wk_J0_length_8abf5 wz_J0 md_J0_length_8abf5 rfl (Nat.le_of_ble_eq_true rfl) ⟨Nat.le_of_ble_eq_true rfl, Nat.le_of_ble_eq_true rfl, Nat.le_of_ble_eq_true rfl, Nat.le_of_ble_eq_true rfl⟩ rfl rfl rfl rfl (by decide) ro_nil dX6_needs_4 (fun u hu => ?_)
      show V x cX6_needs RX6 3 (rmU 4 85 0 0) [(h, co 6 (rdL tap e hq (spl t e i k.toNat s)))] 7 [(0, ar h), (1, ar (lK (xg x) i)), (2, ai k)] [ai (lenS i), ai k] 0 0
      refine v_icmp_ge (pc := 7) 32 dX6_needs_7 (by decide) (by unfold iB; omega) (by unfold iB; omega) (fun c_1 => ?_) (fun c_1 => ?_)
      · skip
        refine v_ws (ws2 := [(h, co 6 (rdL tap e hq (spl t e i (lenS i).toNat s)))]) (by rw [show k.toNat = (lenS i).toNat by omega]) ?_
        exact hret () _ _ _ _ _ trivial rfl rfl (Nat.le_of_ble_eq_true rfl) (Nat.le_of_ble_eq_true rfl) dX6_needs_32
      · skip
        refine v_aload_n (pc := 10) 0 rfl dX6_needs_10 ?_
        refine v_aload_n (pc := 11) 1 rfl dX6_needs_11 ?_
        refine v_iload_n (pc := 12) 2 rfl dX6_needs_12 ?_
        refine v_callT (pc := 13) [] [0] [(h, co 6 (rdL tap e hq (spl t e i k.toNat s)))] (As := [ai k]) (rest := [ar h]) (c_J0_charAt_5068e i k (by first | omega | assumption) (by first | omega | assumption)) (by first | omega | assumption) wl_X6_112 wi_J0_charAt_5068e wv_J0_charAt_5068e wk_J0_charAt_5068e wz_J0 md_J0_charAt_5068e rfl (Nat.le_of_ble_eq_true rfl) ⟨Nat.le_of_ble_eq_true rfl, Nat.le_of_ble_eq_true rfl, Nat.le_of_ble_eq_true rfl, Nat.le_of_ble_eq_true rfl⟩ rfl rfl rfl rfl (by decide) ro_nil dX6_needs_13 (fun u hu => ?_)
        show V x cX6_needs RX6 3 (rmU 4 85 0 0) [(h, co 6 (rdL tap e hq (spl t e i k.toNat s)))] 16 [(0, ar h), (1, ar (lK (xg x) i)), (2, ai k)] [ai (chS i k), ar h] 0 0
        have hcb := ch_b hi (k := k) (by omega)
        refine v_callV (pc := 16) [0] [] [] (As := [ai (chS i k)]) (rest := []) (c_X6_takes h tap e hq t (spl t e i k.toNat s) (chS i k) (by exact hBk) (by first | omega | assumption) (by assumption) (by first | omega | assumption)) (c := 6) rfl (Or.inr ⟨0, rfl⟩) wl_X6_38 wi_X6_takes wv_X6_X6_takes_X6_takes wk_X6_takes wz_X6 md_X6_takes rfl (Nat.le_of_ble_eq_true rfl) ⟨Nat.le_of_ble_eq_true rfl, Nat.le_of_ble_eq_true rfl, Nat.le_of_ble_eq_true rfl, Nat.le_of_ble_eq_true rfl⟩ rfl rfl rfl rfl (by decide) (ro_cons (Or.inl r0) ro_nil) dX6_needs_16 (fun u hu => ?_)
        show V x cX6_needs RX6 3 (rmU 4 85 0 0) [(h, co 6 (rdL tap e hq (tkS t e (chS i k) (spl t e i k.toNat s))))] 19 [(0, ar h), (1, ar (lK (xg x) i)), (2, ai k)] [ai (if (spl t e i k.toNat s).2.1 = 0 ∧ hr t e (spl t e i k.toNat s) = (chS i k) then 1 else 0)] 0 0
        refine v_ifb_ne (pc := 19) 26 dX6_needs_19 (by decide) (fun c_2 => ?_) (fun c_2 => ?_)
        · skip
          have hk1 : tkS t e (chS i k) (spl t e i k.toNat s) = adv (spl t e i k.toNat s) := if_pos (by omega)
          have hsp : spl t e i (k + 1).toNat s = adv (spl t e i k.toNat s) := by rw [show (k + 1).toNat = k.toNat + 1 by omega]; show mstP t e (chS i ((k.toNat : Nat) : Int)) _ = _; rw [show ((k.toNat : Nat) : Int) = k by omega]; exact if_pos (by omega)
          refine v_ws (ws2 := [(h, co 6 (rdL tap e hq (spl t e i (k + 1).toNat s)))]) (by rw [hk1, hsp]) ?_
          refine v_iinc (pc := 26) 2 (L2 := [(2, ai (k + 1)), (0, ar h), (1, ar (lK (xg x) i))]) rfl rfl (by decide) dX6_needs_26 ?_
          refine v_goto (pc := 29) 2 dX6_needs_29 (by decide) ?_
          refine v_sub (L2 := [(0, ar h), (1, ar (lK (xg x) i)), (2, ai (k + 1))]) [1, 2, 0] rfl ?_
          exact ih _ (by omega) (k + 1) rfl (by omega)
        · skip
          have hk1 : tkS t e (chS i k) (spl t e i k.toNat s) = (spl t e i k.toNat s) := if_neg (by omega)
          refine v_ws (ws2 := [(h, co 6 (rdL tap e hq (spl t e i k.toNat s)))]) (by rw [hk1]) ?_
          refine v_aload_n (pc := 22) 0 rfl dX6_needs_22 ?_
          refine v_callV (pc := 23) [0] [] [] (As := []) (rest := []) (c_X6_fails h tap e hq (spl t e i k.toNat s) (by exact hBk) (by first | omega | assumption)) (c := 6) rfl (Or.inr ⟨0, rfl⟩) wl_X6_45 wi_X6_fails wv_X6_X6_fails_X6_fails wk_X6_fails wz_X6 md_X6_fails rfl (Nat.le_of_ble_eq_true rfl) ⟨Nat.le_of_ble_eq_true rfl, Nat.le_of_ble_eq_true rfl, Nat.le_of_ble_eq_true rfl, Nat.le_of_ble_eq_true rfl⟩ rfl rfl rfl rfl (by decide) ro_nil dX6_needs_23 (fun u hu => ?_)
          show V x cX6_needs RX6 3 (rmU 4 85 0 0) [(h, co 6 (rdL tap e hq (bad (spl t e i k.toNat s))))] 26 [(0, ar h), (1, ar (lK (xg x) i)), (2, ai k)] [] 0 0
          have hsp : spl t e i (k + 1).toNat s = bad (spl t e i k.toNat s) := by rw [show (k + 1).toNat = k.toNat + 1 by omega]; show mstP t e (chS i ((k.toNat : Nat) : Int)) _ = _; rw [show ((k.toNat : Nat) : Int) = k by omega]; exact if_neg (by omega)
          refine v_ws (ws2 := [(h, co 6 (rdL tap e hq (spl t e i (k + 1).toNat s)))]) (by rw [hsp]) ?_
          refine v_iinc (pc := 26) 2 (L2 := [(2, ai (k + 1)), (0, ar h), (1, ar (lK (xg x) i))]) rfl rfl (by decide) dX6_needs_26 ?_
          refine v_goto (pc := 29) 2 dX6_needs_29 (by decide) ?_
          refine v_sub (L2 := [(0, ar h), (1, ar (lK (xg x) i)), (2, ai (k + 1))]) [1, 2, 0] rfl ?_
          exact ih _ (by omega) (k + 1) rfl (by omega)
  refine v_sub (L2 := [(0, ar h), (1, ar (lK (xg x) i)), (2, ai 0)]) [1, 2, 0] rfl ?_
  exact lp2 _ 0 rfl (by omega)
