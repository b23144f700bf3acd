set_option maxHeartbeats 4000000 in
set_option maxRecDepth 100000 in
theorem c_X12_of {gS : sG} (ad : Nat → Nat) (v : Nat → Int) (h : Nat) (f : Int → Int) (player : Int) (what : Int) (hS : SOK f) (hb_player : -2147483648 ≤ player ∧ player < 2147483648) (hb_what : -2147483648 ≤ what ∧ what < 2147483648) : Ct gS (S := Unit) yX12_of cX12_of 3 (some .int) 2 45 0 0 [ar h, ai player, ai what] [] (fun q => q ∈ ([(h, co 12 (mO ad v)), ((ad 1), cn 0 936 f)] : aW)) (fun _ => True) (fun _ => some (ai (qOf f player what))) (fun _ => []) := by
  refine ct_I RX12 [(0, ar h), (1, ai player), (2, ai what)] (by decide) rfl (Nat.le_of_ble_eq_true rfl) rfl (fun x hgS hro hret => ?_)
  subst hgS
  have r0 := hro _ (mem_at 0 rfl)
  have r1 := hro _ (mem_at 1 rfl)
  obtain ⟨hg, hSp, hSh, hSs, hSb, hSt, hwf⟩ := id hS
  obtain ⟨hg0, hg1, hg2, hg3, hg4, hg5, hg6, hg7⟩ := id hg
  show V x cX12_of RX12 3 (rmU 2 45 0 0) [] 0 [(0, ar h), (1, ai player), (2, ai what)] [] 0 0
  refine v_aload_n (pc := 0) 0 rfl dX12_of_0 ?_
  refine v_iload_n (pc := 1) 1 rfl dX12_of_1 ?_
  refine v_callV (pc := 2) [] [] [] (As := [ai player]) (rest := []) (c_X12_isPlayer ad v h f player (by first | assumption | omega) (by first | assumption | omega)) (c := 12) rfl (Or.inl r0) wl_X12_136 wi_X12_isPlayer wv_X12_X12_isPlayer_X12_isPlayer wk_X12_isPlayer wz_X12 md_X12_isPlayer rfl (Nat.le_of_ble_eq_true rfl) ⟨Nat.le_of_ble_eq_true rfl, Nat.le_of_ble_eq_true rfl, Nat.le_of_ble_eq_true rfl, Nat.le_of_ble_eq_true rfl⟩ rfl rfl rfl rfl (by decide) (ro_cons (Or.inl r0) (ro_cons (Or.inl r1) ro_nil)) dX12_of_2 (fun u hu => ?_)
  show V x cX12_of RX12 3 (rmU 2 45 0 0) [] 5 [(0, ar h), (1, ai player), (2, ai what)] [ai (if 0 ≤ player ∧ player ≤ (f 0) - 1 then 1 else 0)] 0 0
  refine v_ifb_ne (pc := 5) 10 dX12_of_5 (by decide) (fun c_1 => ?_) (fun c_1 => ?_)
  · skip
    have hf := hSp player (by omega) (by omega)
    obtain ⟨hp, hf1, hf2, hf3, hf4, hf5, hf6, hf7, hf8⟩ := id hf
    refine v_iload_n (pc := 10) 2 rfl dX12_of_10 ?_
    refine v_bipush (pc := 11) dX12_of_11 (by decide) ?_
    refine v_icmp_ne (pc := 13) 24 dX12_of_13 (by decide) (by unfold iB; omega) (by unfold iB; omega) (fun c_2 => ?_) (fun c_2 => ?_)
    · skip
      refine v_iload_n (pc := 24) 2 rfl dX12_of_24 ?_
      refine v_iconst (pc := 25) dX12_of_25 ?_
      refine v_bipush (pc := 26) dX12_of_26 (by decide) ?_
      refine v_callS (pc := 28) [] [] [] (As := [ai what, ai 0, ai 6]) (rest := []) (c_X12_in what 0 6 (by first | assumption | omega) (by first | assumption | omega) (by first | assumption | omega)) wl_X12_41 ws_X12_in wk_X12_in wz_X12 md_X12_in rfl (Nat.le_of_ble_eq_true rfl) ⟨Nat.le_of_ble_eq_true rfl, Nat.le_of_ble_eq_true rfl, Nat.le_of_ble_eq_true rfl, Nat.le_of_ble_eq_true rfl⟩ rfl rfl rfl rfl (by decide) ro_nil dX12_of_28 (fun u hu => ?_)
      show V x cX12_of RX12 3 (rmU 2 45 0 0) [] 31 [(0, ar h), (1, ai player), (2, ai what)] [ai (if 0 ≤ what ∧ what ≤ 6 then 1 else 0)] 0 0
      refine v_ifb_eq (pc := 31) 51 dX12_of_31 (by decide) (fun c_3 => ?_) (fun c_3 => ?_)
      · skip
        refine v_iconst (pc := 51) dX12_of_51 ?_
        exact hret () _ _ _ _ _ _ trivial (congrArg (fun z => some (ai z)) (by unfold qOf; (repeat' split) <;> first | rfl | omega | (exfalso; omega))) rfl (Nat.le_of_ble_eq_true rfl) (Nat.le_of_ble_eq_true rfl) dX12_of_52
      · skip
        refine v_aload_n (pc := 34) 0 rfl dX12_of_34 ?_
        refine v_get (pc := 35) (v := ar (ad 1)) 1 (Or.inl r0) fl_12_9_12 rfl dX12_of_35 ?_
        refine v_bipush (pc := 38) dX12_of_38 (by decide) ?_
        refine v_bipush (pc := 40) dX12_of_40 (by decide) ?_
        refine v_iload_n (pc := 42) 2 rfl dX12_of_42 ?_
        refine v_imul (pc := 43) dX12_of_43 ?_
        refine v_iadd (pc := 44) dX12_of_44 ?_
        refine v_iload_n (pc := 45) 1 rfl dX12_of_45 ?_
        refine v_iadd (pc := 46) dX12_of_46 ?_
        refine v_iald (pc := 47) (Or.inl r1) (by omega) (by omega) (by decide) dX12_of_47 ?_
        refine v_goto (pc := 48) 52 dX12_of_48 (by decide) ?_
        exact hret () _ _ _ _ _ _ trivial (congrArg (fun z => some (ai z)) (by unfold qOf; (repeat' split) <;> first | rfl | omega | (exfalso; omega))) rfl (Nat.le_of_ble_eq_true rfl) (Nat.le_of_ble_eq_true rfl) dX12_of_52
    · skip
      refine v_aload_n (pc := 16) 0 rfl dX12_of_16 ?_
      refine v_iload_n (pc := 17) 1 rfl dX12_of_17 ?_
      refine v_callV (pc := 18) [] [] [] (As := [ai player]) (rest := []) (c_X12_unsureOf ad v h f player (by first | assumption | omega)) (c := 12) rfl (Or.inl r0) wl_X12_140 wi_X12_unsureOf wv_X12_X12_unsureOf_X12_unsureOf wk_X12_unsureOf wz_X12 md_X12_unsureOf rfl (Nat.le_of_ble_eq_true rfl) ⟨Nat.le_of_ble_eq_true rfl, Nat.le_of_ble_eq_true rfl, Nat.le_of_ble_eq_true rfl, Nat.le_of_ble_eq_true rfl⟩ rfl rfl rfl rfl (by decide) (ro_cons (Or.inl r0) (ro_cons (Or.inl r1) ro_nil)) dX12_of_18 (fun u hu => ?_)
      show V x cX12_of RX12 3 (rmU 2 45 0 0) [] 21 [(0, ar h), (1, ai player), (2, ai what)] [ai (kUnsOf (f (7 + player)) (f (19 + player)) (f (31 + player)))] 0 0
      refine v_eqi (y := (fUn f player)) (rfl) ?_
      refine v_goto (pc := 21) 52 dX12_of_21 (by decide) ?_
      exact hret () _ _ _ _ _ _ trivial (congrArg (fun z => some (ai z)) (by unfold qOf; (repeat' split) <;> first | rfl | omega | (exfalso; omega))) rfl (Nat.le_of_ble_eq_true rfl) (Nat.le_of_ble_eq_true rfl) dX12_of_52
  · skip
    refine v_iconst (pc := 8) dX12_of_8 ?_
    exact hret () _ _ _ _ _ _ trivial (congrArg (fun z => some (ai z)) (by unfold qOf; (repeat' split) <;> first | rfl | omega | (exfalso; omega))) rfl (Nat.le_of_ble_eq_true rfl) (Nat.le_of_ble_eq_true rfl) dX12_of_9
set_option maxHeartbeats 4000000 in
set_option maxRecDepth 100000 in
theorem c_X12_told {gS : sG} (ad : Nat → Nat) (v : Nat → Int) (h : Nat) (f : Int → Int) (what : Int) (hS : SOK f) (hb_what : -2147483648 ≤ what ∧ what < 2147483648) : Ct gS (S := Unit) yX12_told cX12_told 2 (some .int) 1 22 0 0 [ar h, ai what] [] (fun q => q ∈ ([(h, co 12 (mO ad v)), ((ad 1), cn 0 936 f)] : aW)) (fun _ => True) (fun _ => some (ai (qTold f what))) (fun _ => []) := by
  refine ct_I RX12 [(0, ar h), (1, ai what)] (by decide) rfl (Nat.le_of_ble_eq_true rfl) rfl (fun x hgS hro hret => ?_)
  subst hgS
  have r0 := hro _ (mem_at 0 rfl)
  have r1 := hro _ (mem_at 1 rfl)
  obtain ⟨hg, hSp, hSh, hSs, hSb, hSt, hwf⟩ := id hS
  obtain ⟨hg0, hg1, hg2, hg3, hg4, hg5, hg6, hg7⟩ := id hg
  show V x cX12_told RX12 2 (rmU 1 22 0 0) [] 0 [(0, ar h), (1, ai what)] [] 0 0
  refine v_iload_n (pc := 0) 1 rfl dX12_told_0 ?_
  refine v_if_ne (pc := 1) 14 dX12_told_1 (by decide) (by unfold iB; omega) (fun c_1 => ?_) (fun c_1 => ?_)
  · skip
    refine v_iload_n (pc := 14) 1 rfl dX12_told_14 ?_
    refine v_iconst (pc := 15) dX12_told_15 ?_
    refine v_icmp_ne (pc := 16) 31 dX12_told_16 (by decide) (by unfold iB; omega) (by unfold iB; omega) (fun c_2 => ?_) (fun c_2 => ?_)
    · skip
      refine v_iload_n (pc := 31) 1 rfl dX12_told_31 ?_
      refine v_iconst (pc := 32) dX12_told_32 ?_
      refine v_icmp_ne (pc := 33) 47 dX12_told_33 (by decide) (by unfold iB; omega) (by unfold iB; omega) (fun c_3 => ?_) (fun c_3 => ?_)
      · skip
        refine v_iconst (pc := 47) dX12_told_47 ?_
        exact hret () _ _ _ _ _ _ trivial (congrArg (fun z => some (ai z)) (by unfold qTold; (repeat' split) <;> first | rfl | omega | (exfalso; omega))) rfl (Nat.le_of_ble_eq_true rfl) (Nat.le_of_ble_eq_true rfl) dX12_told_48
      · skip
        refine v_aload_n (pc := 36) 0 rfl dX12_told_36 ?_
        refine v_sipush (pc := 37) dX12_told_37 (by decide) ?_
        refine v_iconst (pc := 40) dX12_told_40 ?_
        refine v_callV (pc := 41) [] [] [] (As := [ai 226, ai 1]) (rest := []) (c_X12_tellsOf ad v h f 226 1 (by first | assumption | omega) (by first | assumption | omega)) (c := 12) rfl (Or.inl r0) wl_X12_129 wi_X12_tellsOf wv_X12_X12_tellsOf_X12_tellsOf wk_X12_tellsOf wz_X12 md_X12_tellsOf rfl (Nat.le_of_ble_eq_true rfl) ⟨Nat.le_of_ble_eq_true rfl, Nat.le_of_ble_eq_true rfl, Nat.le_of_ble_eq_true rfl, Nat.le_of_ble_eq_true rfl⟩ rfl rfl rfl rfl (by decide) (ro_cons (Or.inl r0) (ro_cons (Or.inl r1) ro_nil)) dX12_told_41 (fun u hu => ?_)
        show V x cX12_told RX12 2 (rmU 1 22 0 0) [] 44 [(0, ar h), (1, ai what)] [ai (if f 5 = -1 then 1 else f (226 + f 5))] 0 0
        refine v_eqi (y := (kPay f)) (rfl) ?_
        refine v_goto (pc := 44) 48 dX12_told_44 (by decide) ?_
        exact hret () _ _ _ _ _ _ trivial (congrArg (fun z => some (ai z)) (by unfold qTold; (repeat' split) <;> first | rfl | omega | (exfalso; omega))) rfl (Nat.le_of_ble_eq_true rfl) (Nat.le_of_ble_eq_true rfl) dX12_told_48
    · skip
      refine v_aload_n (pc := 19) 0 rfl dX12_told_19 ?_
      refine v_sipush (pc := 20) dX12_told_20 (by decide) ?_
      refine v_bipush (pc := 23) dX12_told_23 (by decide) ?_
      refine v_callV (pc := 25) [] [] [] (As := [ai 221, ai 6]) (rest := []) (c_X12_tellsOf ad v h f 221 6 (by first | assumption | omega) (by first | assumption | omega)) (c := 12) rfl (Or.inl r0) wl_X12_129 wi_X12_tellsOf wv_X12_X12_tellsOf_X12_tellsOf wk_X12_tellsOf wz_X12 md_X12_tellsOf rfl (Nat.le_of_ble_eq_true rfl) ⟨Nat.le_of_ble_eq_true rfl, Nat.le_of_ble_eq_true rfl, Nat.le_of_ble_eq_true rfl, Nat.le_of_ble_eq_true rfl⟩ rfl rfl rfl rfl (by decide) (ro_cons (Or.inl r0) (ro_cons (Or.inl r1) ro_nil)) dX12_told_25 (fun u hu => ?_)
      show V x cX12_told RX12 2 (rmU 1 22 0 0) [] 28 [(0, ar h), (1, ai what)] [ai (if f 5 = -1 then 6 else f (221 + f 5))] 0 0
      refine v_eqi (y := (kWide f)) (rfl) ?_
      refine v_goto (pc := 28) 48 dX12_told_28 (by decide) ?_
      exact hret () _ _ _ _ _ _ trivial (congrArg (fun z => some (ai z)) (by unfold qTold; (repeat' split) <;> first | rfl | omega | (exfalso; omega))) rfl (Nat.le_of_ble_eq_true rfl) (Nat.le_of_ble_eq_true rfl) dX12_told_48
  · skip
    refine v_aload_n (pc := 4) 0 rfl dX12_told_4 ?_
    refine v_get (pc := 5) (v := ar (ad 1)) 1 (Or.inl r0) fl_12_9_12 rfl dX12_told_5 ?_
    refine v_bipush (pc := 8) dX12_told_8 (by decide) ?_
    refine v_iald (pc := 10) (Or.inl r1) (by omega) (by omega) (by decide) dX12_told_10 ?_
    refine v_goto (pc := 11) 48 dX12_told_11 (by decide) ?_
    exact hret () _ _ _ _ _ _ trivial (congrArg (fun z => some (ai z)) (by unfold qTold; (repeat' split) <;> first | rfl | omega | (exfalso; omega))) rfl (Nat.le_of_ble_eq_true rfl) (Nat.le_of_ble_eq_true rfl) dX12_told_48
set_option maxHeartbeats 4000000 in
set_option maxRecDepth 100000 in
theorem c_X12_pile {gS : sG} (ad : Nat → Nat) (v : Nat → Int) (h : Nat) (f : Int → Int) (by0 : Int → Int) (tr0 : Int → Int) (player : Int) (n : Int) (force : Int) (what : Int) (hS : SOK f) (hb_player : -2147483648 ≤ player ∧ player < 2147483648) (hb_n : -2147483648 ≤ n ∧ n < 2147483648) (hb_force : -2147483648 ≤ force ∧ force < 2147483648) (hb_what : -2147483648 ≤ what ∧ what < 2147483648) : Ct gS (S := (Nat → Int) × (Int → Int) × (Int → Int)) yX12_pile cX12_pile 5 (some .int) 3 76 0 0 [ar h, ai player, ai n, ai force, ai what] [(h, co 12 (mO ad v)), ((ad 9), cn 0 6 by0), ((ad 10), cn 1 64 tr0)] (fun q => q ∈ ([((ad 1), cn 0 936 f)] : aW)) (fun u => vK v u.1) (fun u => some (ai (qPile f player n force what))) (fun u => [(h, co 12 (mO ad u.1)), ((ad 9), cn 0 6 u.2.1), ((ad 10), cn 1 64 u.2.2)]) := by
  refine ct_I RX12 [(0, ar h), (1, ai player), (2, ai n), (3, ai force), (4, ai what)] (by decide) rfl (Nat.le_of_ble_eq_true rfl) rfl (fun x hgS hro hret => ?_)
  subst hgS
  have r0 := hro _ (mem_at 0 rfl)
  obtain ⟨hg, hSp, hSh, hSs, hSb, hSt, hwf⟩ := id hS
  obtain ⟨hg0, hg1, hg2, hg3, hg4, hg5, hg6, hg7⟩ := id hg
  show V x cX12_pile RX12 5 (rmU 3 76 0 0) [(h, co 12 (mO ad v)), ((ad 9), cn 0 6 by0), ((ad 10), cn 1 64 tr0)] 0 [(0, ar h), (1, ai player), (2, ai n), (3, ai force), (4, ai what)] [] 0 0
  refine v_aload_n (pc := 0) 0 rfl dX12_pile_0 ?_
  refine v_iload_n (pc := 1) 1 rfl dX12_pile_1 ?_
  refine v_callV (pc := 2) [] [0, 1, 2] [(h, co 12 (mO ad v)), ((ad 9), cn 0 6 by0), ((ad 10), cn 1 64 tr0)] (As := [ai player]) (rest := []) (c_X12_isPlayer ad v h f player (by first | assumption | omega) (by first | assumption | omega)) (c := 12) rfl (Or.inr ⟨0, rfl⟩) wl_X12_136 wi_X12_isPlayer wv_X12_X12_isPlayer_X12_isPlayer wk_X12_isPlayer wz_X12 md_X12_isPlayer rfl (Nat.le_of_ble_eq_true rfl) ⟨Nat.le_of_ble_eq_true rfl, Nat.le_of_ble_eq_true rfl, Nat.le_of_ble_eq_true rfl, Nat.le_of_ble_eq_true rfl⟩ rfl rfl rfl rfl (by decide) (ro_cons (Or.inr ⟨0, rfl, by decide⟩) (ro_cons (Or.inl r0) ro_nil)) dX12_pile_2 (fun u hu => ?_)
  show V x cX12_pile RX12 5 (rmU 3 76 0 0) [(h, co 12 (mO ad v)), ((ad 9), cn 0 6 by0), ((ad 10), cn 1 64 tr0)] 5 [(0, ar h), (1, ai player), (2, ai n), (3, ai force), (4, ai what)] [ai (if 0 ≤ player ∧ player ≤ (f 0) - 1 then 1 else 0)] 0 0
  refine v_ifb_eq (pc := 5) 18 dX12_pile_5 (by decide) (fun c_1 => ?_) (fun c_1 => ?_)
  · skip
    refine v_sipush (pc := 18) dX12_pile_18 (by decide) ?_
    exact hret (v, by0, tr0) _ _ _ _ _ _ (by exact vK_rf v) (congrArg (fun z => some (ai z)) (by unfold qPile; (repeat' split) <;> first | rfl | omega | (exfalso; omega))) rfl (Nat.le_of_ble_eq_true rfl) (Nat.le_of_ble_eq_true rfl) dX12_pile_21
  · skip
    refine v_iload (pc := 8) 4 rfl dX12_pile_8 ?_
    refine v_iconst (pc := 10) dX12_pile_10 ?_
    refine v_iconst (pc := 11) dX12_pile_11 ?_
    refine v_callS (pc := 12) [] [0, 1, 2] [(h, co 12 (mO ad v)), ((ad 9), cn 0 6 by0), ((ad 10), cn 1 64 tr0)] (As := [ai what, ai 0, ai 1]) (rest := []) (c_X12_in what 0 1 (by first | assumption | omega) (by first | assumption | omega) (by first | assumption | omega)) wl_X12_41 ws_X12_in wk_X12_in wz_X12 md_X12_in rfl (Nat.le_of_ble_eq_true rfl) ⟨Nat.le_of_ble_eq_true rfl, Nat.le_of_ble_eq_true rfl, Nat.le_of_ble_eq_true rfl, Nat.le_of_ble_eq_true rfl⟩ rfl rfl rfl rfl (by decide) ro_nil dX12_pile_12 (fun u hu => ?_)
    show V x cX12_pile RX12 5 (rmU 3 76 0 0) [(h, co 12 (mO ad v)), ((ad 9), cn 0 6 by0), ((ad 10), cn 1 64 tr0)] 15 [(0, ar h), (1, ai player), (2, ai n), (3, ai force), (4, ai what)] [ai (if 0 ≤ what ∧ what ≤ 1 then 1 else 0)] 0 0
    refine v_ifb_ne (pc := 15) 22 dX12_pile_15 (by decide) (fun c_2 => ?_) (fun c_2 => ?_)
    · skip
      have hf := hSp player (by omega) (by omega)
      obtain ⟨hp, hf1, hf2, hf3, hf4, hf5, hf6, hf7, hf8⟩ := id hf
      refine v_iload_n (pc := 22) 2 rfl dX12_pile_22 ?_
      refine v_iload_n (pc := 23) 3 rfl dX12_pile_23 ?_
      refine v_callS (pc := 24) [] [0, 1, 2] [(h, co 12 (mO ad v)), ((ad 9), cn 0 6 by0), ((ad 10), cn 1 64 tr0)] (As := [ai n, ai force]) (rest := []) (c_X12_isPile n force (by first | assumption | omega) (by first | assumption | omega)) wl_X12_148 ws_X12_isPile wk_X12_isPile wz_X12 md_X12_isPile rfl (Nat.le_of_ble_eq_true rfl) ⟨Nat.le_of_ble_eq_true rfl, Nat.le_of_ble_eq_true rfl, Nat.le_of_ble_eq_true rfl, Nat.le_of_ble_eq_true rfl⟩ rfl rfl rfl rfl (by decide) ro_nil dX12_pile_24 (fun u hu => ?_)
      show V x cX12_pile RX12 5 (rmU 3 76 0 0) [(h, co 12 (mO ad v)), ((ad 9), cn 0 6 by0), ((ad 10), cn 1 64 tr0)] 27 [(0, ar h), (1, ai player), (2, ai n), (3, ai force), (4, ai what)] [ai (if (1 ≤ n ∧ n ≤ 99) ∧ (0 ≤ force ∧ force ≤ 20) then 1 else 0)] 0 0
      refine v_ifb_ne (pc := 27) 34 dX12_pile_27 (by decide) (fun c_3 => ?_) (fun c_3 => ?_)
      · skip
        refine v_iload (pc := 34) 4 rfl dX12_pile_34 ?_
        refine v_if_ne (pc := 36) 49 dX12_pile_36 (by decide) (by unfold iB; omega) (fun c_4 => ?_) (fun c_4 => ?_)
        · skip
          refine v_aload_n (pc := 49) 0 rfl dX12_pile_49 ?_
          refine v_iload_n (pc := 50) 1 rfl dX12_pile_50 ?_
          refine v_iload_n (pc := 51) 2 rfl dX12_pile_51 ?_
          refine v_iconst (pc := 52) dX12_pile_52 ?_
          refine v_callV (pc := 53) [0, 1, 2] [] [] (As := [ai player, ai n, ai 0]) (rest := []) (c_X12_opensBy ad v h f by0 tr0 player n 0 (by first | assumption | omega) (by first | assumption | omega) (by first | assumption | omega) (by first | assumption | omega) (by first | assumption | omega)) (c := 12) rfl (Or.inr ⟨0, rfl⟩) wl_X12_156 wi_X12_opensBy wv_X12_X12_opensBy_X12_opensBy wk_X12_opensBy wz_X12 md_X12_opensBy rfl (Nat.le_of_ble_eq_true rfl) ⟨Nat.le_of_ble_eq_true rfl, Nat.le_of_ble_eq_true rfl, Nat.le_of_ble_eq_true rfl, Nat.le_of_ble_eq_true rfl⟩ rfl rfl rfl rfl (by decide) (ro_cons (Or.inl r0) ro_nil) dX12_pile_53 (fun u hu => ?_)
          obtain ⟨v2_5, by2_6, tr2_7⟩ := u
          have g_8 : vK v v2_5 ∧ v2_5 13 = v 13 ∧ v2_5 15 = v 15 := hu
          show V x cX12_pile RX12 5 (rmU 3 76 0 0) [(h, co 12 (mO ad v2_5)), ((ad 9), cn 0 6 by2_6), ((ad 10), cn 1 64 tr2_7)] 56 [(0, ar h), (1, ai player), (2, ai n), (3, ai force), (4, ai what)] [ai (kOp f player n 0)] 0 0
          have hkeep := g_8.1
          exact hret (v2_5, by2_6, tr2_7) _ _ _ _ _ _ (by exact hkeep) (congrArg (fun z => some (ai z)) (by unfold qPile; (repeat' split) <;> first | rfl | omega | (exfalso; omega))) rfl (Nat.le_of_ble_eq_true rfl) (Nat.le_of_ble_eq_true rfl) dX12_pile_56
        · skip
          refine v_aload_n (pc := 39) 0 rfl dX12_pile_39 ?_
          refine v_iload_n (pc := 40) 1 rfl dX12_pile_40 ?_
          refine v_iload_n (pc := 41) 2 rfl dX12_pile_41 ?_
          refine v_iload_n (pc := 42) 3 rfl dX12_pile_42 ?_
          refine v_callV (pc := 43) [] [0, 1, 2] [(h, co 12 (mO ad v)), ((ad 9), cn 0 6 by0), ((ad 10), cn 1 64 tr0)] (As := [ai player, ai n, ai force]) (rest := []) (c_X12_turnOf ad v h f player n force (by first | assumption | omega) (by first | assumption | omega) (by first | assumption | omega) (by first | assumption | omega)) (c := 12) rfl (Or.inr ⟨0, rfl⟩) wl_X12_152 wi_X12_turnOf wv_X12_X12_turnOf_X12_turnOf wk_X12_turnOf wz_X12 md_X12_turnOf rfl (Nat.le_of_ble_eq_true rfl) ⟨Nat.le_of_ble_eq_true rfl, Nat.le_of_ble_eq_true rfl, Nat.le_of_ble_eq_true rfl, Nat.le_of_ble_eq_true rfl⟩ rfl rfl rfl rfl (by decide) (ro_cons (Or.inr ⟨0, rfl, by decide⟩) (ro_cons (Or.inl r0) ro_nil)) dX12_pile_43 (fun u hu => ?_)
          show V x cX12_pile RX12 5 (rmU 3 76 0 0) [(h, co 12 (mO ad v)), ((ad 9), cn 0 6 by0), ((ad 10), cn 1 64 tr0)] 46 [(0, ar h), (1, ai player), (2, ai n), (3, ai force), (4, ai what)] [ai (kTurn (f (7 + player)) (f (13 + player)) (f (49 + 4 * player + f 6 % 4)) n force)] 0 0
          refine v_eqi (y := (fTu f player n force)) (rfl) ?_
          refine v_goto (pc := 46) 56 dX12_pile_46 (by decide) ?_
          exact hret (v, by0, tr0) _ _ _ _ _ _ (by exact vK_rf v) (congrArg (fun z => some (ai z)) (by unfold qPile; (repeat' split) <;> first | rfl | omega | (exfalso; omega))) rfl (Nat.le_of_ble_eq_true rfl) (Nat.le_of_ble_eq_true rfl) dX12_pile_56
      · skip
        refine v_sipush (pc := 30) dX12_pile_30 (by decide) ?_
        exact hret (v, by0, tr0) _ _ _ _ _ _ (by exact vK_rf v) (congrArg (fun z => some (ai z)) (by unfold qPile; (repeat' split) <;> first | rfl | omega | (exfalso; omega))) rfl (Nat.le_of_ble_eq_true rfl) (Nat.le_of_ble_eq_true rfl) dX12_pile_33
    · skip
      refine v_sipush (pc := 18) dX12_pile_18 (by decide) ?_
      exact hret (v, by0, tr0) _ _ _ _ _ _ (by exact vK_rf v) (congrArg (fun z => some (ai z)) (by unfold qPile; (repeat' split) <;> first | rfl | omega | (exfalso; omega))) rfl (Nat.le_of_ble_eq_true rfl) (Nat.le_of_ble_eq_true rfl) dX12_pile_21
set_option maxHeartbeats 4000000 in
set_option maxRecDepth 100000 in
theorem c_X12_would {gS : sG} (ad : Nat → Nat) (v : Nat → Int) (h : Nat) (f : Int → Int) (by0 : Int → Int) (tr0 : Int → Int) (player : Int) (n : Int) (force : Int) (draw : Int) (hS : SOK f) (hb_player : -2147483648 ≤ player ∧ player < 2147483648) (hb_n : -2147483648 ≤ n ∧ n < 2147483648) (hb_force : -2147483648 ≤ force ∧ force < 2147483648) (hb_draw : -2147483648 ≤ draw ∧ draw < 2147483648) : Ct gS (S := (Nat → Int) × (Int → Int) × (Int → Int)) yX12_would cX12_would 5 (some .int) 4 100 0 0 [ar h, ai player, ai n, ai force, ai draw] [(h, co 12 (mO ad v)), ((ad 9), cn 0 6 by0), ((ad 10), cn 1 64 tr0)] (fun q => q ∈ ([((ad 1), cn 0 936 f)] : aW)) (fun u => vK v u.1) (fun u => some (ai (qWould f player n force draw))) (fun u => [(h, co 12 (mO ad u.1)), ((ad 9), cn 0 6 u.2.1), ((ad 10), cn 1 64 u.2.2)]) := by
  refine ct_I RX12 [(0, ar h), (1, ai player), (2, ai n), (3, ai force), (4, ai draw)] (by decide) rfl (Nat.le_of_ble_eq_true rfl) rfl (fun x hgS hro hret => ?_)
  subst hgS
  have r0 := hro _ (mem_at 0 rfl)
  obtain ⟨hg, hSp, hSh, hSs, hSb, hSt, hwf⟩ := id hS
  obtain ⟨hg0, hg1, hg2, hg3, hg4, hg5, hg6, hg7⟩ := id hg
  show V x cX12_would RX12 5 (rmU 4 100 0 0) [(h, co 12 (mO ad v)), ((ad 9), cn 0 6 by0), ((ad 10), cn 1 64 tr0)] 0 [(0, ar h), (1, ai player), (2, ai n), (3, ai force), (4, ai draw)] [] 0 0
  refine v_aload_n (pc := 0) 0 rfl dX12_would_0 ?_
  refine v_iload_n (pc := 1) 1 rfl dX12_would_1 ?_
  refine v_callV (pc := 2) [] [0, 1, 2] [(h, co 12 (mO ad v)), ((ad 9), cn 0 6 by0), ((ad 10), cn 1 64 tr0)] (As := [ai player]) (rest := []) (c_X12_isPlayer ad v h f player (by first | assumption | omega) (by first | assumption | omega)) (c := 12) rfl (Or.inr ⟨0, rfl⟩) wl_X12_136 wi_X12_isPlayer wv_X12_X12_isPlayer_X12_isPlayer wk_X12_isPlayer wz_X12 md_X12_isPlayer rfl (Nat.le_of_ble_eq_true rfl) ⟨Nat.le_of_ble_eq_true rfl, Nat.le_of_ble_eq_true rfl, Nat.le_of_ble_eq_true rfl, Nat.le_of_ble_eq_true rfl⟩ rfl rfl rfl rfl (by decide) (ro_cons (Or.inr ⟨0, rfl, by decide⟩) (ro_cons (Or.inl r0) ro_nil)) dX12_would_2 (fun u hu => ?_)
  show V x cX12_would RX12 5 (rmU 4 100 0 0) [(h, co 12 (mO ad v)), ((ad 9), cn 0 6 by0), ((ad 10), cn 1 64 tr0)] 5 [(0, ar h), (1, ai player), (2, ai n), (3, ai force), (4, ai draw)] [ai (if 0 ≤ player ∧ player ≤ (f 0) - 1 then 1 else 0)] 0 0
  refine v_ifb_ne (pc := 5) 10 dX12_would_5 (by decide) (fun c_1 => ?_) (fun c_1 => ?_)
  · skip
    have hf := hSp player (by omega) (by omega)
    obtain ⟨hp, hf1, hf2, hf3, hf4, hf5, hf6, hf7, hf8⟩ := id hf
    refine v_iload_n (pc := 10) 2 rfl dX12_would_10 ?_
    refine v_iload_n (pc := 11) 3 rfl dX12_would_11 ?_
    refine v_callS (pc := 12) [] [0, 1, 2] [(h, co 12 (mO ad v)), ((ad 9), cn 0 6 by0), ((ad 10), cn 1 64 tr0)] (As := [ai n, ai force]) (rest := []) (c_X12_isPile n force (by first | assumption | omega) (by first | assumption | omega)) wl_X12_148 ws_X12_isPile wk_X12_isPile wz_X12 md_X12_isPile rfl (Nat.le_of_ble_eq_true rfl) ⟨Nat.le_of_ble_eq_true rfl, Nat.le_of_ble_eq_true rfl, Nat.le_of_ble_eq_true rfl, Nat.le_of_ble_eq_true rfl⟩ rfl rfl rfl rfl (by decide) ro_nil dX12_would_12 (fun u hu => ?_)
    show V x cX12_would RX12 5 (rmU 4 100 0 0) [(h, co 12 (mO ad v)), ((ad 9), cn 0 6 by0), ((ad 10), cn 1 64 tr0)] 15 [(0, ar h), (1, ai player), (2, ai n), (3, ai force), (4, ai draw)] [ai (if (1 ≤ n ∧ n ≤ 99) ∧ (0 ≤ force ∧ force ≤ 20) then 1 else 0)] 0 0
    refine v_ifb_eq (pc := 15) 41 dX12_would_15 (by decide) (fun c_2 => ?_) (fun c_2 => ?_)
    · skip
      refine v_bipush (pc := 41) dX12_would_41 (by decide) ?_
      exact hret (v, by0, tr0) _ _ _ _ _ _ (by exact vK_rf v) (congrArg (fun z => some (ai z)) (by unfold qWould; (repeat' split) <;> first | rfl | omega | (exfalso; omega))) rfl (Nat.le_of_ble_eq_true rfl) (Nat.le_of_ble_eq_true rfl) dX12_would_43
    · skip
      refine v_iload (pc := 18) 4 rfl dX12_would_18 ?_
      refine v_iconst (pc := 20) dX12_would_20 ?_
      refine v_bipush (pc := 21) dX12_would_21 (by decide) ?_
      refine v_callS (pc := 23) [] [0, 1, 2] [(h, co 12 (mO ad v)), ((ad 9), cn 0 6 by0), ((ad 10), cn 1 64 tr0)] (As := [ai draw, ai 0, ai 9]) (rest := []) (c_X12_in draw 0 9 (by first | assumption | omega) (by first | assumption | omega) (by first | assumption | omega)) wl_X12_41 ws_X12_in wk_X12_in wz_X12 md_X12_in rfl (Nat.le_of_ble_eq_true rfl) ⟨Nat.le_of_ble_eq_true rfl, Nat.le_of_ble_eq_true rfl, Nat.le_of_ble_eq_true rfl, Nat.le_of_ble_eq_true rfl⟩ rfl rfl rfl rfl (by decide) ro_nil dX12_would_23 (fun u hu => ?_)
      show V x cX12_would RX12 5 (rmU 4 100 0 0) [(h, co 12 (mO ad v)), ((ad 9), cn 0 6 by0), ((ad 10), cn 1 64 tr0)] 26 [(0, ar h), (1, ai player), (2, ai n), (3, ai force), (4, ai draw)] [ai (if 0 ≤ draw ∧ draw ≤ 9 then 1 else 0)] 0 0
      refine v_ifb_eq (pc := 26) 41 dX12_would_26 (by decide) (fun c_3 => ?_) (fun c_3 => ?_)
      · skip
        refine v_bipush (pc := 41) dX12_would_41 (by decide) ?_
        exact hret (v, by0, tr0) _ _ _ _ _ _ (by exact vK_rf v) (congrArg (fun z => some (ai z)) (by unfold qWould; (repeat' split) <;> first | rfl | omega | (exfalso; omega))) rfl (Nat.le_of_ble_eq_true rfl) (Nat.le_of_ble_eq_true rfl) dX12_would_43
      · skip
        refine v_aload_n (pc := 29) 0 rfl dX12_would_29 ?_
        refine v_iload_n (pc := 30) 1 rfl dX12_would_30 ?_
        refine v_iload_n (pc := 31) 2 rfl dX12_would_31 ?_
        refine v_iload_n (pc := 32) 3 rfl dX12_would_32 ?_
        refine v_iload (pc := 33) 4 rfl dX12_would_33 ?_
        refine v_callV (pc := 35) [0, 1, 2] [] [] (As := [ai player, ai n, ai force, ai draw]) (rest := []) (c_X12_caught ad v h f by0 tr0 player n force draw (by first | assumption | omega) (by first | assumption | omega) (by first | assumption | omega) (by first | assumption | omega) (by first | assumption | omega) (by first | assumption | omega)) (c := 12) rfl (Or.inr ⟨0, rfl⟩) wl_X12_163 wi_X12_caught wv_X12_X12_caught_X12_caught wk_X12_caught wz_X12 md_X12_caught rfl (Nat.le_of_ble_eq_true rfl) ⟨Nat.le_of_ble_eq_true rfl, Nat.le_of_ble_eq_true rfl, Nat.le_of_ble_eq_true rfl, Nat.le_of_ble_eq_true rfl⟩ rfl rfl rfl rfl (by decide) (ro_cons (Or.inl r0) ro_nil) dX12_would_35 (fun u hu => ?_)
        obtain ⟨v2_4, by2_5, tr2_6⟩ := u
        have g_7 : vK v v2_4 ∧ v2_4 13 = v 13 ∧ v2_4 15 = v 15 := hu
        show V x cX12_would RX12 5 (rmU 4 100 0 0) [(h, co 12 (mO ad v2_4)), ((ad 9), cn 0 6 by2_5), ((ad 10), cn 1 64 tr2_6)] 38 [(0, ar h), (1, ai player), (2, ai n), (3, ai force), (4, ai draw)] [ai (fCat f player n force draw (kOp f player n 0))] 0 0
        have hkeep := g_7.1
        refine v_goto (pc := 38) 43 dX12_would_38 (by decide) ?_
        exact hret (v2_4, by2_5, tr2_6) _ _ _ _ _ _ (by exact hkeep) (congrArg (fun z => some (ai z)) (by unfold qWould; (repeat' split) <;> first | rfl | omega | (exfalso; omega))) rfl (Nat.le_of_ble_eq_true rfl) (Nat.le_of_ble_eq_true rfl) dX12_would_43
  · skip
    refine v_iconst (pc := 8) dX12_would_8 ?_
    exact hret (v, by0, tr0) _ _ _ _ _ _ (by exact vK_rf v) (congrArg (fun z => some (ai z)) (by unfold qWould; (repeat' split) <;> first | rfl | omega | (exfalso; omega))) rfl (Nat.le_of_ble_eq_true rfl) (Nat.le_of_ble_eq_true rfl) dX12_would_9
set_option maxHeartbeats 4000000 in
set_option maxRecDepth 100000 in
theorem c_X12_odds {gS : sG} (ad : Nat → Nat) (v : Nat → Int) (h : Nat) (f : Int → Int) (by0 : Int → Int) (tr0 : Int → Int) (player : Int) (n : Int) (force : Int) (hS : SOK f) (hb_player : -2147483648 ≤ player ∧ player < 2147483648) (hb_n : -2147483648 ≤ n ∧ n < 2147483648) (hb_force : -2147483648 ≤ force ∧ force < 2147483648) : Ct gS (S := (Nat → Int) × (Int → Int) × (Int → Int)) yX12_odds cX12_odds 4 (some .int) 3 76 0 0 [ar h, ai player, ai n, ai force] [(h, co 12 (mO ad v)), ((ad 9), cn 0 6 by0), ((ad 10), cn 1 64 tr0)] (fun q => q ∈ ([((ad 1), cn 0 936 f)] : aW)) (fun u => vK v u.1) (fun u => some (ai (qOdds f player n force))) (fun u => [(h, co 12 (mO ad u.1)), ((ad 9), cn 0 6 u.2.1), ((ad 10), cn 1 64 u.2.2)]) := by
  refine ct_I RX12 [(0, ar h), (1, ai player), (2, ai n), (3, ai force)] (by decide) rfl (Nat.le_of_ble_eq_true rfl) rfl (fun x hgS hro hret => ?_)
  subst hgS
  have r0 := hro _ (mem_at 0 rfl)
  obtain ⟨hg, hSp, hSh, hSs, hSb, hSt, hwf⟩ := id hS
  obtain ⟨hg0, hg1, hg2, hg3, hg4, hg5, hg6, hg7⟩ := id hg
  show V x cX12_odds RX12 4 (rmU 3 76 0 0) [(h, co 12 (mO ad v)), ((ad 9), cn 0 6 by0), ((ad 10), cn 1 64 tr0)] 0 [(0, ar h), (1, ai player), (2, ai n), (3, ai force)] [] 0 0
  refine v_aload_n (pc := 0) 0 rfl dX12_odds_0 ?_
  refine v_iload_n (pc := 1) 1 rfl dX12_odds_1 ?_
  refine v_callV (pc := 2) [] [0, 1, 2] [(h, co 12 (mO ad v)), ((ad 9), cn 0 6 by0), ((ad 10), cn 1 64 tr0)] (As := [ai player]) (rest := []) (c_X12_isPlayer ad v h f player (by first | assumption | omega) (by first | assumption | omega)) (c := 12) rfl (Or.inr ⟨0, rfl⟩) wl_X12_136 wi_X12_isPlayer wv_X12_X12_isPlayer_X12_isPlayer wk_X12_isPlayer wz_X12 md_X12_isPlayer rfl (Nat.le_of_ble_eq_true rfl) ⟨Nat.le_of_ble_eq_true rfl, Nat.le_of_ble_eq_true rfl, Nat.le_of_ble_eq_true rfl, Nat.le_of_ble_eq_true rfl⟩ rfl rfl rfl rfl (by decide) (ro_cons (Or.inr ⟨0, rfl, by decide⟩) (ro_cons (Or.inl r0) ro_nil)) dX12_odds_2 (fun u hu => ?_)
  show V x cX12_odds RX12 4 (rmU 3 76 0 0) [(h, co 12 (mO ad v)), ((ad 9), cn 0 6 by0), ((ad 10), cn 1 64 tr0)] 5 [(0, ar h), (1, ai player), (2, ai n), (3, ai force)] [ai (if 0 ≤ player ∧ player ≤ (f 0) - 1 then 1 else 0)] 0 0
  refine v_ifb_ne (pc := 5) 10 dX12_odds_5 (by decide) (fun c_1 => ?_) (fun c_1 => ?_)
  · skip
    have hf := hSp player (by omega) (by omega)
    obtain ⟨hp, hf1, hf2, hf3, hf4, hf5, hf6, hf7, hf8⟩ := id hf
    refine v_iload_n (pc := 10) 2 rfl dX12_odds_10 ?_
    refine v_iload_n (pc := 11) 3 rfl dX12_odds_11 ?_
    refine v_callS (pc := 12) [] [0, 1, 2] [(h, co 12 (mO ad v)), ((ad 9), cn 0 6 by0), ((ad 10), cn 1 64 tr0)] (As := [ai n, ai force]) (rest := []) (c_X12_isPile n force (by first | assumption | omega) (by first | assumption | omega)) wl_X12_148 ws_X12_isPile wk_X12_isPile wz_X12 md_X12_isPile rfl (Nat.le_of_ble_eq_true rfl) ⟨Nat.le_of_ble_eq_true rfl, Nat.le_of_ble_eq_true rfl, Nat.le_of_ble_eq_true rfl, Nat.le_of_ble_eq_true rfl⟩ rfl rfl rfl rfl (by decide) ro_nil dX12_odds_12 (fun u hu => ?_)
    show V x cX12_odds RX12 4 (rmU 3 76 0 0) [(h, co 12 (mO ad v)), ((ad 9), cn 0 6 by0), ((ad 10), cn 1 64 tr0)] 15 [(0, ar h), (1, ai player), (2, ai n), (3, ai force)] [ai (if (1 ≤ n ∧ n ≤ 99) ∧ (0 ≤ force ∧ force ≤ 20) then 1 else 0)] 0 0
    refine v_ifb_eq (pc := 15) 35 dX12_odds_15 (by decide) (fun c_2 => ?_) (fun c_2 => ?_)
    · skip
      refine v_bipush (pc := 35) dX12_odds_35 (by decide) ?_
      exact hret (v, by0, tr0) _ _ _ _ _ _ (by exact vK_rf v) (congrArg (fun z => some (ai z)) (by unfold qOdds; (repeat' split) <;> first | rfl | omega | (exfalso; omega))) rfl (Nat.le_of_ble_eq_true rfl) (Nat.le_of_ble_eq_true rfl) dX12_odds_37
    · skip
      have hob := kOp_b (p := player) (n := n) (more := 0) hwf hg (by omega) (by omega)
      refine v_aload_n (pc := 18) 0 rfl dX12_odds_18 ?_
      refine v_iload_n (pc := 19) 1 rfl dX12_odds_19 ?_
      refine v_iload_n (pc := 20) 2 rfl dX12_odds_20 ?_
      refine v_iload_n (pc := 21) 3 rfl dX12_odds_21 ?_
      refine v_aload_n (pc := 22) 0 rfl dX12_odds_22 ?_
      refine v_iload_n (pc := 23) 1 rfl dX12_odds_23 ?_
      refine v_iload_n (pc := 24) 2 rfl dX12_odds_24 ?_
      refine v_iconst (pc := 25) dX12_odds_25 ?_
      refine v_callV (pc := 26) [0, 1, 2] [] [] (As := [ai player, ai n, ai 0]) (rest := [ai force, ai n, ai player, ar h]) (c_X12_opensBy ad v h f by0 tr0 player n 0 (by first | assumption | omega) (by first | assumption | omega) (by first | assumption | omega) (by first | assumption | omega) (by first | assumption | omega)) (c := 12) rfl (Or.inr ⟨0, rfl⟩) wl_X12_156 wi_X12_opensBy wv_X12_X12_opensBy_X12_opensBy wk_X12_opensBy wz_X12 md_X12_opensBy rfl (Nat.le_of_ble_eq_true rfl) ⟨Nat.le_of_ble_eq_true rfl, Nat.le_of_ble_eq_true rfl, Nat.le_of_ble_eq_true rfl, Nat.le_of_ble_eq_true rfl⟩ rfl rfl rfl rfl (by decide) (ro_cons (Or.inl r0) ro_nil) dX12_odds_26 (fun u hu => ?_)
      obtain ⟨v2_3, by2_4, tr2_5⟩ := u
      have g_6 : vK v v2_3 ∧ v2_3 13 = v 13 ∧ v2_3 15 = v 15 := hu
      show V x cX12_odds RX12 4 (rmU 3 76 0 0) [(h, co 12 (mO ad v2_3)), ((ad 9), cn 0 6 by2_4), ((ad 10), cn 1 64 tr2_5)] 29 [(0, ar h), (1, ai player), (2, ai n), (3, ai force)] [ai (kOp f player n 0), ai force, ai n, ai player, ar h] 0 0
      have hkeep := g_6.1
      refine v_callV (pc := 29) [] [0, 1, 2] [(h, co 12 (mO ad v2_3)), ((ad 9), cn 0 6 by2_4), ((ad 10), cn 1 64 tr2_5)] (As := [ai player, ai n, ai force, ai (kOp f player n 0)]) (rest := []) (c_X12_allBy ad v2_3 h f player n force (kOp f player n 0) (by first | assumption | omega) (by first | assumption | omega) (by first | assumption | omega) (by first | assumption | omega) (by first | assumption | omega)) (c := 12) rfl (Or.inr ⟨0, rfl⟩) wl_X12_170 wi_X12_allBy wv_X12_X12_allBy_X12_allBy wk_X12_allBy wz_X12 md_X12_allBy rfl (Nat.le_of_ble_eq_true rfl) ⟨Nat.le_of_ble_eq_true rfl, Nat.le_of_ble_eq_true rfl, Nat.le_of_ble_eq_true rfl, Nat.le_of_ble_eq_true rfl⟩ rfl rfl rfl rfl (by decide) (ro_cons (Or.inr ⟨0, rfl, by decide⟩) (ro_cons (Or.inl r0) ro_nil)) dX12_odds_29 (fun u hu => ?_)
      show V x cX12_odds RX12 4 (rmU 3 76 0 0) [(h, co 12 (mO ad v2_3)), ((ad 9), cn 0 6 by2_4), ((ad 10), cn 1 64 tr2_5)] 32 [(0, ar h), (1, ai player), (2, ai n), (3, ai force)] [ai (fAll f player n force (kOp f player n 0))] 0 0
      refine v_goto (pc := 32) 37 dX12_odds_32 (by decide) ?_
      exact hret (v2_3, by2_4, tr2_5) _ _ _ _ _ _ (by exact hkeep) (congrArg (fun z => some (ai z)) (by unfold qOdds; (repeat' split) <;> first | rfl | omega | (exfalso; omega))) rfl (Nat.le_of_ble_eq_true rfl) (Nat.le_of_ble_eq_true rfl) dX12_odds_37
  · skip
    refine v_iconst (pc := 8) dX12_odds_8 ?_
    exact hret (v, by0, tr0) _ _ _ _ _ _ (by exact vK_rf v) (congrArg (fun z => some (ai z)) (by unfold qOdds; (repeat' split) <;> first | rfl | omega | (exfalso; omega))) rfl (Nat.le_of_ble_eq_true rfl) (Nat.le_of_ble_eq_true rfl) dX12_odds_9
set_option maxHeartbeats 4000000 in
set_option maxRecDepth 100000 in
theorem c_X12_mean {gS : sG} (ad : Nat → Nat) (v : Nat → Int) (h : Nat) (f : Int → Int) (by0 : Int → Int) (tr0 : Int → Int) (player : Int) (n : Int) (force : Int) (part : Int) (hS : SOK f) (hb_player : -2147483648 ≤ player ∧ player < 2147483648) (hb_n : -2147483648 ≤ n ∧ n < 2147483648) (hb_force : -2147483648 ≤ force ∧ force < 2147483648) (hb_part : -2147483648 ≤ part ∧ part < 2147483648) : Ct gS (S := (Nat → Int) × (Int → Int) × (Int → Int)) yX12_mean cX12_mean 5 (some .long) 4 102 0 0 [ar h, ai player, ai n, ai force, ai part] [(h, co 12 (mO ad v)), ((ad 9), cn 0 6 by0), ((ad 10), cn 1 64 tr0)] (fun q => q ∈ ([((ad 1), cn 0 936 f)] : aW)) (fun u => vK v u.1) (fun u => some (al (qMean f player n force part))) (fun u => [(h, co 12 (mO ad u.1)), ((ad 9), cn 0 6 u.2.1), ((ad 10), cn 1 64 u.2.2)]) := by
  refine ct_L RX12 [(0, ar h), (1, ai player), (2, ai n), (3, ai force), (4, ai part)] (by decide) rfl (Nat.le_of_ble_eq_true rfl) rfl (fun x hgS hro hret => ?_)
  subst hgS
  have r0 := hro _ (mem_at 0 rfl)
  obtain ⟨hg, hSp, hSh, hSs, hSb, hSt, hwf⟩ := id hS
  obtain ⟨hg0, hg1, hg2, hg3, hg4, hg5, hg6, hg7⟩ := id hg
  show V x cX12_mean RX12 5 (rmU 4 102 0 0) [(h, co 12 (mO ad v)), ((ad 9), cn 0 6 by0), ((ad 10), cn 1 64 tr0)] 0 [(0, ar h), (1, ai player), (2, ai n), (3, ai force), (4, ai part)] [] 0 0
  refine v_aload_n (pc := 0) 0 rfl dX12_mean_0 ?_
  refine v_iload_n (pc := 1) 1 rfl dX12_mean_1 ?_
  refine v_callV (pc := 2) [] [0, 1, 2] [(h, co 12 (mO ad v)), ((ad 9), cn 0 6 by0), ((ad 10), cn 1 64 tr0)] (As := [ai player]) (rest := []) (c_X12_isPlayer ad v h f player (by first | assumption | omega) (by first | assumption | omega)) (c := 12) rfl (Or.inr ⟨0, rfl⟩) wl_X12_136 wi_X12_isPlayer wv_X12_X12_isPlayer_X12_isPlayer wk_X12_isPlayer wz_X12 md_X12_isPlayer rfl (Nat.le_of_ble_eq_true rfl) ⟨Nat.le_of_ble_eq_true rfl, Nat.le_of_ble_eq_true rfl, Nat.le_of_ble_eq_true rfl, Nat.le_of_ble_eq_true rfl⟩ rfl rfl rfl rfl (by decide) (ro_cons (Or.inr ⟨0, rfl, by decide⟩) (ro_cons (Or.inl r0) ro_nil)) dX12_mean_2 (fun u hu => ?_)
  show V x cX12_mean RX12 5 (rmU 4 102 0 0) [(h, co 12 (mO ad v)), ((ad 9), cn 0 6 by0), ((ad 10), cn 1 64 tr0)] 5 [(0, ar h), (1, ai player), (2, ai n), (3, ai force), (4, ai part)] [ai (if 0 ≤ player ∧ player ≤ (f 0) - 1 then 1 else 0)] 0 0
  refine v_ifb_eq (pc := 5) 26 dX12_mean_5 (by decide) (fun c_1 => ?_) (fun c_1 => ?_)
  · skip
    refine v_ldc2 (pc := 26) (z := (-9223372036854775808)) (bw_mem 1281 (by decide +kernel) rfl) dX12_mean_26 ?_
    exact hret (v, by0, tr0) _ _ _ _ _ _ (by exact vK_rf v) (congrArg (fun z => some (al z)) (by unfold qMean; (repeat' split) <;> first | rfl | omega | (exfalso; omega))) rfl (Nat.le_of_ble_eq_true rfl) (Nat.le_of_ble_eq_true rfl) dX12_mean_29
  · skip
    have hf := hSp player (by omega) (by omega)
    obtain ⟨hp, hf1, hf2, hf3, hf4, hf5, hf6, hf7, hf8⟩ := id hf
    refine v_iload_n (pc := 8) 2 rfl dX12_mean_8 ?_
    refine v_iload_n (pc := 9) 3 rfl dX12_mean_9 ?_
    refine v_callS (pc := 10) [] [0, 1, 2] [(h, co 12 (mO ad v)), ((ad 9), cn 0 6 by0), ((ad 10), cn 1 64 tr0)] (As := [ai n, ai force]) (rest := []) (c_X12_isPile n force (by first | assumption | omega) (by first | assumption | omega)) wl_X12_148 ws_X12_isPile wk_X12_isPile wz_X12 md_X12_isPile rfl (Nat.le_of_ble_eq_true rfl) ⟨Nat.le_of_ble_eq_true rfl, Nat.le_of_ble_eq_true rfl, Nat.le_of_ble_eq_true rfl, Nat.le_of_ble_eq_true rfl⟩ rfl rfl rfl rfl (by decide) ro_nil dX12_mean_10 (fun u hu => ?_)
    show V x cX12_mean RX12 5 (rmU 4 102 0 0) [(h, co 12 (mO ad v)), ((ad 9), cn 0 6 by0), ((ad 10), cn 1 64 tr0)] 13 [(0, ar h), (1, ai player), (2, ai n), (3, ai force), (4, ai part)] [ai (if (1 ≤ n ∧ n ≤ 99) ∧ (0 ≤ force ∧ force ≤ 20) then 1 else 0)] 0 0
    refine v_ifb_eq (pc := 13) 26 dX12_mean_13 (by decide) (fun c_2 => ?_) (fun c_2 => ?_)
    · skip
      refine v_ldc2 (pc := 26) (z := (-9223372036854775808)) (bw_mem 1281 (by decide +kernel) rfl) dX12_mean_26 ?_
      exact hret (v, by0, tr0) _ _ _ _ _ _ (by exact vK_rf v) (congrArg (fun z => some (al z)) (by unfold qMean; (repeat' split) <;> first | rfl | omega | (exfalso; omega))) rfl (Nat.le_of_ble_eq_true rfl) (Nat.le_of_ble_eq_true rfl) dX12_mean_29
    · skip
      refine v_iload (pc := 16) 4 rfl dX12_mean_16 ?_
      refine v_iconst (pc := 18) dX12_mean_18 ?_
      refine v_iconst (pc := 19) dX12_mean_19 ?_
      refine v_callS (pc := 20) [] [0, 1, 2] [(h, co 12 (mO ad v)), ((ad 9), cn 0 6 by0), ((ad 10), cn 1 64 tr0)] (As := [ai part, ai 0, ai 1]) (rest := []) (c_X12_in part 0 1 (by first | assumption | omega) (by first | assumption | omega) (by first | assumption | omega)) wl_X12_41 ws_X12_in wk_X12_in wz_X12 md_X12_in rfl (Nat.le_of_ble_eq_true rfl) ⟨Nat.le_of_ble_eq_true rfl, Nat.le_of_ble_eq_true rfl, Nat.le_of_ble_eq_true rfl, Nat.le_of_ble_eq_true rfl⟩ rfl rfl rfl rfl (by decide) ro_nil dX12_mean_20 (fun u hu => ?_)
      show V x cX12_mean RX12 5 (rmU 4 102 0 0) [(h, co 12 (mO ad v)), ((ad 9), cn 0 6 by0), ((ad 10), cn 1 64 tr0)] 23 [(0, ar h), (1, ai player), (2, ai n), (3, ai force), (4, ai part)] [ai (if 0 ≤ part ∧ part ≤ 1 then 1 else 0)] 0 0
      refine v_ifb_ne (pc := 23) 30 dX12_mean_23 (by decide) (fun c_3 => ?_) (fun c_3 => ?_)
      · skip
        have hsb := fSum_b (f := f) (p := player) (n := n) (force := force) (by omega) 10
        refine v_aload_n (pc := 30) 0 rfl dX12_mean_30 ?_
        refine v_iload_n (pc := 31) 1 rfl dX12_mean_31 ?_
        refine v_iload_n (pc := 32) 2 rfl dX12_mean_32 ?_
        refine v_iload_n (pc := 33) 3 rfl dX12_mean_33 ?_
        refine v_callV (pc := 34) [0, 1, 2] [] [] (As := [ai player, ai n, ai force]) (rest := []) (c_X12_sumBy ad v h f by0 tr0 player n force (by first | assumption | omega) (by first | assumption | omega) (by first | assumption | omega) (by first | assumption | omega) (by first | assumption | omega)) (c := 12) rfl (Or.inr ⟨0, rfl⟩) wl_X12_175 wi_X12_sumBy wv_X12_X12_sumBy_X12_sumBy wk_X12_sumBy wz_X12 md_X12_sumBy rfl (Nat.le_of_ble_eq_true rfl) ⟨Nat.le_of_ble_eq_true rfl, Nat.le_of_ble_eq_true rfl, Nat.le_of_ble_eq_true rfl, Nat.le_of_ble_eq_true rfl⟩ rfl rfl rfl rfl (by decide) (ro_cons (Or.inl r0) ro_nil) dX12_mean_34 (fun u hu => ?_)
        obtain ⟨v2_4, by2_5, tr2_6⟩ := u
        have g_7 : vK v v2_4 := hu
        show V x cX12_mean RX12 5 (rmU 4 102 0 0) [(h, co 12 (mO ad v2_4)), ((ad 9), cn 0 6 by2_5), ((ad 10), cn 1 64 tr2_6)] 37 [(0, ar h), (1, ai player), (2, ai n), (3, ai force), (4, ai part)] [ai (fSum f player n force 10)] 0 0
        have hkeep := g_7
        refine v_i2l (pc := 37) (by unfold iB; omega) dX12_mean_37 ?_
        refine v_ldc2 (pc := 38) (z := 10) (bw_mem 1286 (by decide +kernel) rfl) dX12_mean_38 ?_
        refine v_iload (pc := 41) 4 rfl dX12_mean_41 ?_
        refine v_callS (pc := 43) [] [0, 1, 2] [(h, co 12 (mO ad v2_4)), ((ad 9), cn 0 6 by2_5), ((ad 10), cn 1 64 tr2_6)] (As := [al (fSum f player n force 10), al 10, ai part]) (rest := []) (c_X12_lowest (fSum f player n force 10) 10 part (by first | assumption | omega) (by first | assumption | omega) (by first | assumption | omega)) wl_X12_180 ws_X12_lowest wk_X12_lowest wz_X12 md_X12_lowest rfl (Nat.le_of_ble_eq_true rfl) ⟨Nat.le_of_ble_eq_true rfl, Nat.le_of_ble_eq_true rfl, Nat.le_of_ble_eq_true rfl, Nat.le_of_ble_eq_true rfl⟩ rfl rfl rfl rfl (by decide) ro_nil dX12_mean_43 (fun u hu => ?_)
        show V x cX12_mean RX12 5 (rmU 4 102 0 0) [(h, co 12 (mO ad v2_4)), ((ad 9), cn 0 6 by2_5), ((ad 10), cn 1 64 tr2_6)] 46 [(0, ar h), (1, ai player), (2, ai n), (3, ai force), (4, ai part)] [al (kFr (fSum f player n force 10) 10 part)] 0 0
        exact hret (v2_4, by2_5, tr2_6) _ _ _ _ _ _ (by exact hkeep) (congrArg (fun z => some (al z)) (by unfold qMean; (repeat' split) <;> first | rfl | omega | (exfalso; omega))) rfl (Nat.le_of_ble_eq_true rfl) (Nat.le_of_ble_eq_true rfl) dX12_mean_46
      · skip
        refine v_ldc2 (pc := 26) (z := (-9223372036854775808)) (bw_mem 1281 (by decide +kernel) rfl) dX12_mean_26 ?_
        exact hret (v, by0, tr0) _ _ _ _ _ _ (by exact vK_rf v) (congrArg (fun z => some (al z)) (by unfold qMean; (repeat' split) <;> first | rfl | omega | (exfalso; omega))) rfl (Nat.le_of_ble_eq_true rfl) (Nat.le_of_ble_eq_true rfl) dX12_mean_29
set_option maxHeartbeats 4000000 in
set_option maxRecDepth 100000 in
theorem c_X12_best {gS : sG} (ad : Nat → Nat) (v : Nat → Int) (h : Nat) (f : Int → Int) (by0 : Int → Int) (tr0 : Int → Int) (player : Int) (n : Int) (what : Int) (hS : SOK f) (hb_player : -2147483648 ≤ player ∧ player < 2147483648) (hb_n : -2147483648 ≤ n ∧ n < 2147483648) (hb_what : -2147483648 ≤ what ∧ what < 2147483648) : Ct gS (S := (Nat → Int) × (Int → Int) × (Int → Int)) yX12_best cX12_best 5 (some .int) 4 102 0 0 [ar h, ai player, ai n, ai what] [(h, co 12 (mO ad v)), ((ad 9), cn 0 6 by0), ((ad 10), cn 1 64 tr0)] (fun q => q ∈ ([((ad 1), cn 0 936 f)] : aW)) (fun u => vK v u.1) (fun u => some (ai (qBest f player n what))) (fun u => [(h, co 12 (mO ad u.1)), ((ad 9), cn 0 6 u.2.1), ((ad 10), cn 1 64 u.2.2)]) := by
  refine ct_I RX12 [(0, ar h), (1, ai player), (2, ai n), (3, ai what)] (by decide) rfl (Nat.le_of_ble_eq_true rfl) rfl (fun x hgS hro hret => ?_)
  subst hgS
  have r0 := hro _ (mem_at 0 rfl)
  obtain ⟨hg, hSp, hSh, hSs, hSb, hSt, hwf⟩ := id hS
  obtain ⟨hg0, hg1, hg2, hg3, hg4, hg5, hg6, hg7⟩ := id hg
  show V x cX12_best RX12 5 (rmU 4 102 0 0) [(h, co 12 (mO ad v)), ((ad 9), cn 0 6 by0), ((ad 10), cn 1 64 tr0)] 0 [(0, ar h), (1, ai player), (2, ai n), (3, ai what)] [] 0 0
  refine v_aload_n (pc := 0) 0 rfl dX12_best_0 ?_
  refine v_iload_n (pc := 1) 1 rfl dX12_best_1 ?_
  refine v_callV (pc := 2) [] [0, 1, 2] [(h, co 12 (mO ad v)), ((ad 9), cn 0 6 by0), ((ad 10), cn 1 64 tr0)] (As := [ai player]) (rest := []) (c_X12_isPlayer ad v h f player (by first | assumption | omega) (by first | assumption | omega)) (c := 12) rfl (Or.inr ⟨0, rfl⟩) wl_X12_136 wi_X12_isPlayer wv_X12_X12_isPlayer_X12_isPlayer wk_X12_isPlayer wz_X12 md_X12_isPlayer rfl (Nat.le_of_ble_eq_true rfl) ⟨Nat.le_of_ble_eq_true rfl, Nat.le_of_ble_eq_true rfl, Nat.le_of_ble_eq_true rfl, Nat.le_of_ble_eq_true rfl⟩ rfl rfl rfl rfl (by decide) (ro_cons (Or.inr ⟨0, rfl, by decide⟩) (ro_cons (Or.inl r0) ro_nil)) dX12_best_2 (fun u hu => ?_)
  show V x cX12_best RX12 5 (rmU 4 102 0 0) [(h, co 12 (mO ad v)), ((ad 9), cn 0 6 by0), ((ad 10), cn 1 64 tr0)] 5 [(0, ar h), (1, ai player), (2, ai n), (3, ai what)] [ai (if 0 ≤ player ∧ player ≤ (f 0) - 1 then 1 else 0)] 0 0
  refine v_ifb_eq (pc := 5) 17 dX12_best_5 (by decide) (fun c_1 => ?_) (fun c_1 => ?_)
  · skip
    refine v_iconst (pc := 17) dX12_best_17 ?_
    exact hret (v, by0, tr0) _ _ _ _ _ _ (by exact vK_rf v) (congrArg (fun z => some (ai z)) (by unfold qBest; (try rw [hbf]); (repeat' split) <;> first | rfl | omega | (exfalso; omega))) rfl (Nat.le_of_ble_eq_true rfl) (Nat.le_of_ble_eq_true rfl) dX12_best_18
  · skip
    refine v_iload_n (pc := 8) 3 rfl dX12_best_8 ?_
    refine v_iconst (pc := 9) dX12_best_9 ?_
    refine v_iconst (pc := 10) dX12_best_10 ?_
    refine v_callS (pc := 11) [] [0, 1, 2] [(h, co 12 (mO ad v)), ((ad 9), cn 0 6 by0), ((ad 10), cn 1 64 tr0)] (As := [ai what, ai 0, ai 1]) (rest := []) (c_X12_in what 0 1 (by first | assumption | omega) (by first | assumption | omega) (by first | assumption | omega)) wl_X12_41 ws_X12_in wk_X12_in wz_X12 md_X12_in rfl (Nat.le_of_ble_eq_true rfl) ⟨Nat.le_of_ble_eq_true rfl, Nat.le_of_ble_eq_true rfl, Nat.le_of_ble_eq_true rfl, Nat.le_of_ble_eq_true rfl⟩ rfl rfl rfl rfl (by decide) ro_nil dX12_best_11 (fun u hu => ?_)
    show V x cX12_best RX12 5 (rmU 4 102 0 0) [(h, co 12 (mO ad v)), ((ad 9), cn 0 6 by0), ((ad 10), cn 1 64 tr0)] 14 [(0, ar h), (1, ai player), (2, ai n), (3, ai what)] [ai (if 0 ≤ what ∧ what ≤ 1 then 1 else 0)] 0 0
    refine v_ifb_ne (pc := 14) 19 dX12_best_14 (by decide) (fun c_2 => ?_) (fun c_2 => ?_)
    · skip
      have hf := hSp player (by omega) (by omega)
      obtain ⟨hp, hf1, hf2, hf3, hf4, hf5, hf6, hf7, hf8⟩ := id hf
      refine v_iload_n (pc := 19) 2 rfl dX12_best_19 ?_
      refine v_iconst (pc := 20) dX12_best_20 ?_
      refine v_bipush (pc := 21) dX12_best_21 (by decide) ?_
      refine v_callS (pc := 23) [] [0, 1, 2] [(h, co 12 (mO ad v)), ((ad 9), cn 0 6 by0), ((ad 10), cn 1 64 tr0)] (As := [ai n, ai 1, ai 99]) (rest := []) (c_X12_in n 1 99 (by first | assumption | omega) (by first | assumption | omega) (by first | assumption | omega)) wl_X12_41 ws_X12_in wk_X12_in wz_X12 md_X12_in rfl (Nat.le_of_ble_eq_true rfl) ⟨Nat.le_of_ble_eq_true rfl, Nat.le_of_ble_eq_true rfl, Nat.le_of_ble_eq_true rfl, Nat.le_of_ble_eq_true rfl⟩ rfl rfl rfl rfl (by decide) ro_nil dX12_best_23 (fun u hu => ?_)
      show V x cX12_best RX12 5 (rmU 4 102 0 0) [(h, co 12 (mO ad v)), ((ad 9), cn 0 6 by0), ((ad 10), cn 1 64 tr0)] 26 [(0, ar h), (1, ai player), (2, ai n), (3, ai what)] [ai (if 1 ≤ n ∧ n ≤ 99 then 1 else 0)] 0 0
      refine v_ifb_ne (pc := 26) 32 dX12_best_26 (by decide) (fun c_3 => ?_) (fun c_3 => ?_)
      · skip
        refine v_aload_n (pc := 32) 0 rfl dX12_best_32 ?_
        refine v_iload_n (pc := 33) 1 rfl dX12_best_33 ?_
        refine v_iload_n (pc := 34) 2 rfl dX12_best_34 ?_
        refine v_callV (pc := 35) [0, 1, 2] [] [] (As := [ai player, ai n]) (rest := []) (c_X12_bestOf ad v h f by0 tr0 player n (by first | assumption | omega) (by first | assumption | omega) (by first | assumption | omega) (by first | assumption | omega)) (c := 12) rfl (Or.inr ⟨0, rfl⟩) wl_X12_187 wi_X12_bestOf wv_X12_X12_bestOf_X12_bestOf wk_X12_bestOf wz_X12 md_X12_bestOf rfl (Nat.le_of_ble_eq_true rfl) ⟨Nat.le_of_ble_eq_true rfl, Nat.le_of_ble_eq_true rfl, Nat.le_of_ble_eq_true rfl, Nat.le_of_ble_eq_true rfl⟩ rfl rfl rfl rfl (by decide) (ro_cons (Or.inl r0) ro_nil) dX12_best_35 (fun u hu => ?_)
        obtain ⟨v2_4, by2_5, tr2_6⟩ := u
        have g_7 : vK v v2_4 ∧ v2_4 15 = v 15 ∧ v2_4 13 = (fBst f player n 21).2 := hu
        show V x cX12_best RX12 5 (rmU 4 102 0 0) [(h, co 12 (mO ad v2_4)), ((ad 9), cn 0 6 by2_5), ((ad 10), cn 1 64 tr2_6)] 38 [(0, ar h), (1, ai player), (2, ai n), (3, ai what)] [ai (fBest f player n)] 0 0
        have hkeep := g_7.1
        have hbf := g_7.2.2
        refine v_istore (pc := 38) (L2 := [(4, ai (fBest f player n)), (0, ar h), (1, ai player), (2, ai n), (3, ai what)]) rfl (by decide) dX12_best_38 ?_
        refine v_iload_n (pc := 40) 4 rfl dX12_best_40 ?_
        refine v_if_ne (pc := 41) 51 dX12_best_41 (by decide) (by unfold iB; omega) (fun c_8 => ?_) (fun c_8 => ?_)
        · skip
          refine v_iload (pc := 51) 0 rfl dX12_best_51 ?_
          exact hret (v2_4, by2_5, tr2_6) _ _ _ _ _ _ (by exact hkeep) (congrArg (fun z => some (ai z)) (by unfold qBest; (try rw [hbf]); (repeat' split) <;> first | rfl | omega | (exfalso; omega))) rfl (Nat.le_of_ble_eq_true rfl) (Nat.le_of_ble_eq_true rfl) dX12_best_53
        · skip
          refine v_aload_n (pc := 44) 1 rfl dX12_best_44 ?_
          refine v_get (pc := 45) (v := ai (v2_4 13)) 13 (Or.inr ⟨0, rfl⟩) fl_12_184_12 rfl dX12_best_45 ?_
          refine v_goto (pc := 48) 53 dX12_best_48 (by decide) ?_
          exact hret (v2_4, by2_5, tr2_6) _ _ _ _ _ _ (by exact hkeep) (congrArg (fun z => some (ai z)) (by unfold qBest; (try rw [hbf]); (repeat' split) <;> first | rfl | omega | (exfalso; omega))) rfl (Nat.le_of_ble_eq_true rfl) (Nat.le_of_ble_eq_true rfl) dX12_best_53
      · skip
        refine v_bipush (pc := 29) dX12_best_29 (by decide) ?_
        exact hret (v, by0, tr0) _ _ _ _ _ _ (by exact vK_rf v) (congrArg (fun z => some (ai z)) (by unfold qBest; (try rw [hbf]); (repeat' split) <;> first | rfl | omega | (exfalso; omega))) rfl (Nat.le_of_ble_eq_true rfl) (Nat.le_of_ble_eq_true rfl) dX12_best_31
    · skip
      refine v_iconst (pc := 17) dX12_best_17 ?_
      exact hret (v, by0, tr0) _ _ _ _ _ _ (by exact vK_rf v) (congrArg (fun z => some (ai z)) (by unfold qBest; (try rw [hbf]); (repeat' split) <;> first | rfl | omega | (exfalso; omega))) rfl (Nat.le_of_ble_eq_true rfl) (Nat.le_of_ble_eq_true rfl) dX12_best_18
set_option maxHeartbeats 4000000 in
set_option maxRecDepth 100000 in
theorem c_X12_most {gS : sG} (ad : Nat → Nat) (v : Nat → Int) (h : Nat) (f : Int → Int) (by0 : Int → Int) (tr0 : Int → Int) (player : Int) (hS : SOK f) (hb_player : -2147483648 ≤ player ∧ player < 2147483648) : Ct gS (S := (Nat → Int) × (Int → Int) × (Int → Int)) yX12_most cX12_most 2 (some .int) 5 124 0 0 [ar h, ai player] [(h, co 12 (mO ad v)), ((ad 9), cn 0 6 by0), ((ad 10), cn 1 64 tr0)] (fun q => q ∈ ([((ad 1), cn 0 936 f)] : aW)) (fun u => vK v u.1) (fun u => some (ai (qMost f player))) (fun u => [(h, co 12 (mO ad u.1)), ((ad 9), cn 0 6 u.2.1), ((ad 10), cn 1 64 u.2.2)]) := by
  refine ct_I RX12 [(0, ar h), (1, ai player)] (by decide) rfl (Nat.le_of_ble_eq_true rfl) rfl (fun x hgS hro hret => ?_)
  subst hgS
  have r0 := hro _ (mem_at 0 rfl)
  obtain ⟨hg, hSp, hSh, hSs, hSb, hSt, hwf⟩ := id hS
  obtain ⟨hg0, hg1, hg2, hg3, hg4, hg5, hg6, hg7⟩ := id hg
  show V x cX12_most RX12 2 (rmU 5 124 0 0) [(h, co 12 (mO ad v)), ((ad 9), cn 0 6 by0), ((ad 10), cn 1 64 tr0)] 0 [(0, ar h), (1, ai player)] [] 0 0
  refine v_aload_n (pc := 0) 0 rfl dX12_most_0 ?_
  refine v_iload_n (pc := 1) 1 rfl dX12_most_1 ?_
  refine v_callV (pc := 2) [] [0, 1, 2] [(h, co 12 (mO ad v)), ((ad 9), cn 0 6 by0), ((ad 10), cn 1 64 tr0)] (As := [ai player]) (rest := []) (c_X12_isPlayer ad v h f player (by first | assumption | omega) (by first | assumption | omega)) (c := 12) rfl (Or.inr ⟨0, rfl⟩) wl_X12_136 wi_X12_isPlayer wv_X12_X12_isPlayer_X12_isPlayer wk_X12_isPlayer wz_X12 md_X12_isPlayer rfl (Nat.le_of_ble_eq_true rfl) ⟨Nat.le_of_ble_eq_true rfl, Nat.le_of_ble_eq_true rfl, Nat.le_of_ble_eq_true rfl, Nat.le_of_ble_eq_true rfl⟩ rfl rfl rfl rfl (by decide) (ro_cons (Or.inr ⟨0, rfl, by decide⟩) (ro_cons (Or.inl r0) ro_nil)) dX12_most_2 (fun u hu => ?_)
  show V x cX12_most RX12 2 (rmU 5 124 0 0) [(h, co 12 (mO ad v)), ((ad 9), cn 0 6 by0), ((ad 10), cn 1 64 tr0)] 5 [(0, ar h), (1, ai player)] [ai (if 0 ≤ player ∧ player ≤ (f 0) - 1 then 1 else 0)] 0 0
  refine v_ifb_eq (pc := 5) 16 dX12_most_5 (by decide) (fun c_1 => ?_) (fun c_1 => ?_)
  · skip
    refine v_iconst (pc := 16) dX12_most_16 ?_
    exact hret (v, by0, tr0) _ _ _ _ _ _ (by exact vK_rf v) (congrArg (fun z => some (ai z)) (by unfold qMost; (repeat' split) <;> first | rfl | omega | (exfalso; omega))) rfl (Nat.le_of_ble_eq_true rfl) (Nat.le_of_ble_eq_true rfl) dX12_most_17
  · skip
    have hf := hSp player (by omega) (by omega)
    obtain ⟨hp, hf1, hf2, hf3, hf4, hf5, hf6, hf7, hf8⟩ := id hf
    refine v_aload_n (pc := 8) 0 rfl dX12_most_8 ?_
    refine v_iload_n (pc := 9) 1 rfl dX12_most_9 ?_
    refine v_callV (pc := 10) [0, 1, 2] [] [] (As := [ai player]) (rest := []) (c_X12_mostOf ad v h f by0 tr0 player (by first | assumption | omega) (by first | assumption | omega) (by first | assumption | omega)) (c := 12) rfl (Or.inr ⟨0, rfl⟩) wl_X12_190 wi_X12_mostOf wv_X12_X12_mostOf_X12_mostOf wk_X12_mostOf wz_X12 md_X12_mostOf rfl (Nat.le_of_ble_eq_true rfl) ⟨Nat.le_of_ble_eq_true rfl, Nat.le_of_ble_eq_true rfl, Nat.le_of_ble_eq_true rfl, Nat.le_of_ble_eq_true rfl⟩ rfl rfl rfl rfl (by decide) (ro_cons (Or.inl r0) ro_nil) dX12_most_10 (fun u hu => ?_)
    obtain ⟨v2_2, by2_3, tr2_4⟩ := u
    have g_5 : vK v v2_2 := hu
    show V x cX12_most RX12 2 (rmU 5 124 0 0) [(h, co 12 (mO ad v2_2)), ((ad 9), cn 0 6 by2_3), ((ad 10), cn 1 64 tr2_4)] 13 [(0, ar h), (1, ai player)] [ai (fMost f player)] 0 0
    have hkeep := g_5
    refine v_goto (pc := 13) 17 dX12_most_13 (by decide) ?_
    exact hret (v2_2, by2_3, tr2_4) _ _ _ _ _ _ (by exact hkeep) (congrArg (fun z => some (ai z)) (by unfold qMost; (repeat' split) <;> first | rfl | omega | (exfalso; omega))) rfl (Nat.le_of_ble_eq_true rfl) (Nat.le_of_ble_eq_true rfl) dX12_most_17
set_option maxHeartbeats 4000000 in
set_option maxRecDepth 100000 in
theorem c_X12_learns {gS : sG} (ad : Nat → Nat) (v : Nat → Int) (h : Nat) (f : Int → Int) (by0 : Int → Int) (tr0 : Int → Int) (player : Int) (hS : SOK f) (hb_player : -2147483648 ≤ player ∧ player < 2147483648) : Ct gS (S := (Nat → Int) × (Int → Int) × (Int → Int)) yX12_learns cX12_learns 6 (some .int) 4 102 0 0 [ar h, ai player] [(h, co 12 (mO ad v)), ((ad 9), cn 0 6 by0), ((ad 10), cn 1 64 tr0)] (fun q => q ∈ ([((ad 1), cn 0 936 f)] : aW)) (fun u => vK v u.1) (fun u => some (ai (qLearns f player))) (fun u => [(h, co 12 (mO ad u.1)), ((ad 9), cn 0 6 u.2.1), ((ad 10), cn 1 64 u.2.2)]) := by
  refine ct_I RX12 [(0, ar h), (1, ai player)] (by decide) rfl (Nat.le_of_ble_eq_true rfl) rfl (fun x hgS hro hret => ?_)
  subst hgS
  have r0 := hro _ (mem_at 0 rfl)
  obtain ⟨hg, hSp, hSh, hSs, hSb, hSt, hwf⟩ := id hS
  obtain ⟨hg0, hg1, hg2, hg3, hg4, hg5, hg6, hg7⟩ := id hg
  show V x cX12_learns RX12 6 (rmU 4 102 0 0) [(h, co 12 (mO ad v)), ((ad 9), cn 0 6 by0), ((ad 10), cn 1 64 tr0)] 0 [(0, ar h), (1, ai player)] [] 0 0
  refine v_aload_n (pc := 0) 0 rfl dX12_learns_0 ?_
  refine v_iload_n (pc := 1) 1 rfl dX12_learns_1 ?_
  refine v_callV (pc := 2) [] [0, 1, 2] [(h, co 12 (mO ad v)), ((ad 9), cn 0 6 by0), ((ad 10), cn 1 64 tr0)] (As := [ai player]) (rest := []) (c_X12_isPlayer ad v h f player (by first | assumption | omega) (by first | assumption | omega)) (c := 12) rfl (Or.inr ⟨0, rfl⟩) wl_X12_136 wi_X12_isPlayer wv_X12_X12_isPlayer_X12_isPlayer wk_X12_isPlayer wz_X12 md_X12_isPlayer rfl (Nat.le_of_ble_eq_true rfl) ⟨Nat.le_of_ble_eq_true rfl, Nat.le_of_ble_eq_true rfl, Nat.le_of_ble_eq_true rfl, Nat.le_of_ble_eq_true rfl⟩ rfl rfl rfl rfl (by decide) (ro_cons (Or.inr ⟨0, rfl, by decide⟩) (ro_cons (Or.inl r0) ro_nil)) dX12_learns_2 (fun u hu => ?_)
  show V x cX12_learns RX12 6 (rmU 4 102 0 0) [(h, co 12 (mO ad v)), ((ad 9), cn 0 6 by0), ((ad 10), cn 1 64 tr0)] 5 [(0, ar h), (1, ai player)] [ai (if 0 ≤ player ∧ player ≤ (f 0) - 1 then 1 else 0)] 0 0
  refine v_ifb_ne (pc := 5) 10 dX12_learns_5 (by decide) (fun c_1 => ?_) (fun c_1 => ?_)
  · skip
    have hf := hSp player (by omega) (by omega)
    obtain ⟨hp, hf1, hf2, hf3, hf4, hf5, hf6, hf7, hf8⟩ := id hf
    refine v_iconst (pc := 10) dX12_learns_10 ?_
    refine v_istore_n (pc := 11) (L2 := [(2, ai 0), (0, ar h), (1, ai player)]) rfl (by decide) dX12_learns_11 ?_
    refine v_iconst (pc := 12) dX12_learns_12 ?_
    refine v_istore_n (pc := 13) (L2 := [(3, ai (-1)), (2, ai 0), (0, ar h), (1, ai player)]) rfl (by decide) dX12_learns_13 ?_
    refine v_aload_n (pc := 14) 2 rfl dX12_learns_14 ?_
    refine v_get (pc := 15) (v := ar (ad 1)) 1 (Or.inr ⟨0, rfl⟩) fl_12_9_12 rfl dX12_learns_15 ?_
    refine v_bipush (pc := 18) dX12_learns_18 (by decide) ?_
    refine v_iload_n (pc := 20) 3 rfl dX12_learns_20 ?_
    refine v_iadd (pc := 21) dX12_learns_21 ?_
    refine v_iald (pc := 22) (Or.inl r0) (by omega) (by omega) (by decide) dX12_learns_22 ?_
    refine v_iconst (pc := 23) dX12_learns_23 ?_
    refine v_isub (pc := 24) dX12_learns_24 ?_
    refine v_istore (pc := 25) (L2 := [(4, ai ((f (37 + player)) - 5)), (3, ai (-1)), (2, ai 0), (0, ar h), (1, ai player)]) rfl (by decide) dX12_learns_25 ?_
    have lp27 : ∀ (mm : Nat) (bt : Int) (mo : Int) (n : Int) (v1 : Nat → Int) (by1 : Int → Int) (tr1 : Int → Int), (f (37 + player) + 6 - n).toNat = mm → (f (37 + player) - 5 ≤ n ∧ n ≤ f (37 + player) + 6) → ((mo, bt) = lrn (fBest f player) (f (37 + player) - 5) (n - (f (37 + player) - 5)).toNat) → (-1 ≤ mo ∧ mo ≤ 10) → (vK v v1) → V x cX12_learns RX12 6 (rmU 4 102 0 0) [(h, co 12 (mO ad v1)), ((ad 9), cn 0 6 by1), ((ad 10), cn 1 64 tr1)] 27 [(0, ar h), (1, ai player), (2, ai bt), (3, ai mo), (4, ai n)] [] 0 0 := by
      intro mm
      induction mm using Nat.strongRecOn with
      | _ mm ih =>
        intro bt mo n v1 by1 tr1 hmm hn hL hmb hvk
        have hst : lrn (fBest f player) (f (37 + player) - 5) (n + 1 - (f (37 + player) - 5)).toNat = if 1 ≤ n ∧ n ≤ 99 then (if mo ≤ fBest f player n then (fBest f player n, n) else (mo, bt)) else (mo, bt) := (by rw [show (n + 1 - (f (37 + player) - 5)).toNat = (n - (f (37 + player) - 5)).toNat + 1 by omega, lrn_succ, show f (37 + player) - 5 + (((n - (f (37 + player) - 5)).toNat : Nat) : Int) = n by omega, ← hL])
        refine v_iload (pc := 27) 4 rfl dX12_learns_27 ?_
        refine v_aload_n (pc := 29) 0 rfl dX12_learns_29 ?_
        refine v_get (pc := 30) (v := ar (ad 1)) 1 (Or.inr ⟨0, rfl⟩) fl_12_9_12 rfl dX12_learns_30 ?_
        refine v_bipush (pc := 33) dX12_learns_33 (by decide) ?_
        refine v_iload_n (pc := 35) 1 rfl dX12_learns_35 ?_
        refine v_iadd (pc := 36) dX12_learns_36 ?_
        refine v_iald (pc := 37) (Or.inl r0) (by omega) (by omega) (by decide) dX12_learns_37 ?_
        refine v_iconst (pc := 38) dX12_learns_38 ?_
        refine v_iadd (pc := 39) dX12_learns_39 ?_
        refine v_icmp_gt (pc := 40) 105 dX12_learns_40 (by decide) (by unfold iB; omega) (by unfold iB; omega) (fun c_2 => ?_) (fun c_2 => ?_)
        · skip
          refine v_iload_n (pc := 105) 2 rfl dX12_learns_105 ?_
          exact hret (v1, by1, tr1) _ _ _ _ _ _ (by exact hvk) (congrArg (fun z => some (ai z)) (by unfold qLearns; rw [if_neg (by omega)]; rw [show (n - (f (37 + player) - 5)).toNat = 11 by omega] at hL; rw [← hL])) rfl (Nat.le_of_ble_eq_true rfl) (Nat.le_of_ble_eq_true rfl) dX12_learns_106
        · skip
          refine v_iload (pc := 43) 4 rfl dX12_learns_43 ?_
          refine v_iconst (pc := 45) dX12_learns_45 ?_
          refine v_bipush (pc := 46) dX12_learns_46 (by decide) ?_
          refine v_callS (pc := 48) [] [0, 1, 2] [(h, co 12 (mO ad v1)), ((ad 9), cn 0 6 by1), ((ad 10), cn 1 64 tr1)] (As := [ai n, ai 1, ai 99]) (rest := []) (c_X12_in n 1 99 (by first | assumption | omega) (by first | assumption | omega) (by first | assumption | omega)) wl_X12_41 ws_X12_in wk_X12_in wz_X12 md_X12_in rfl (Nat.le_of_ble_eq_true rfl) ⟨Nat.le_of_ble_eq_true rfl, Nat.le_of_ble_eq_true rfl, Nat.le_of_ble_eq_true rfl, Nat.le_of_ble_eq_true rfl⟩ rfl rfl rfl rfl (by decide) ro_nil dX12_learns_48 (fun u hu => ?_)
          show V x cX12_learns RX12 6 (rmU 4 102 0 0) [(h, co 12 (mO ad v1)), ((ad 9), cn 0 6 by1), ((ad 10), cn 1 64 tr1)] 51 [(0, ar h), (1, ai player), (2, ai bt), (3, ai mo), (4, ai n)] [ai (if 1 ≤ n ∧ n ≤ 99 then 1 else 0)] 0 0
          refine v_ifb_eq (pc := 51) 64 dX12_learns_51 (by decide) (fun c_3 => ?_) (fun c_3 => ?_)
          · skip
            refine v_iconst (pc := 64) dX12_learns_64 ?_
            refine v_istore (pc := 65) (L2 := [(5, ai (-1)), (0, ar h), (1, ai player), (2, ai bt), (3, ai mo), (4, ai n)]) rfl (by decide) dX12_learns_65 ?_
            refine v_iload (pc := 67) 0 rfl dX12_learns_67 ?_
            refine v_iload_n (pc := 69) 4 rfl dX12_learns_69 ?_
            refine v_icmp_lt (pc := 70) 84 dX12_learns_70 (by decide) (by unfold iB; omega) (by unfold iB; omega) (fun c_4 => ?_) (fun c_4 => ?_)
            · skip
              refine v_iload_n (pc := 84) 3 rfl dX12_learns_84 ?_
              refine v_istore_n (pc := 85) (L2 := [(2, ai bt), (5, ai (-1)), (0, ar h), (1, ai player), (3, ai mo), (4, ai n)]) rfl (by decide) dX12_learns_85 ?_
              refine v_iload (pc := 86) 1 rfl dX12_learns_86 ?_
              refine v_iload_n (pc := 88) 4 rfl dX12_learns_88 ?_
              refine v_icmp_le (pc := 89) 97 dX12_learns_89 (by decide) (by unfold iB; omega) (by unfold iB; omega) (fun c_5 => ?_) (fun c_5 => ?_)
              · skip
                refine v_iload_n (pc := 97) 4 rfl dX12_learns_97 ?_
                refine v_istore_n (pc := 98) (L2 := [(3, ai mo), (2, ai bt), (5, ai (-1)), (0, ar h), (1, ai player), (4, ai n)]) rfl (by decide) dX12_learns_98 ?_
                refine v_iinc (pc := 99) 5 (L2 := [(4, ai (n + 1)), (3, ai mo), (2, ai bt), (5, ai (-1)), (0, ar h), (1, ai player)]) rfl rfl (by decide) dX12_learns_99 ?_
                refine v_goto (pc := 102) 27 dX12_learns_102 (by decide) ?_
                refine v_sub (L2 := [(0, ar h), (1, ai player), (2, ai bt), (3, ai mo), (4, ai (n + 1))]) [4, 5, 2, 1, 0] rfl ?_
                exact ih _ (by omega) bt mo (n + 1) v1 by1 tr1 rfl (by omega) (by rw [hst]; (repeat' split) <;> first | rfl | (exfalso; omega) | (congr 1 <;> omega) | (simp only [Prod.mk.injEq]; omega)) (by omega) (by exact hvk)
              · skip
                refine v_iload (pc := 92) 1 rfl dX12_learns_92 ?_
                refine v_goto (pc := 94) 98 dX12_learns_94 (by decide) ?_
                refine v_istore_n (pc := 98) (L2 := [(3, ai (-1)), (2, ai bt), (5, ai (-1)), (0, ar h), (1, ai player), (4, ai n)]) rfl (by decide) dX12_learns_98 ?_
                refine v_iinc (pc := 99) 5 (L2 := [(4, ai (n + 1)), (3, ai (-1)), (2, ai bt), (5, ai (-1)), (0, ar h), (1, ai player)]) rfl rfl (by decide) dX12_learns_99 ?_
                refine v_goto (pc := 102) 27 dX12_learns_102 (by decide) ?_
                refine v_sub (L2 := [(0, ar h), (1, ai player), (2, ai bt), (3, ai (-1)), (4, ai (n + 1))]) [4, 5, 2, 1, 0] rfl ?_
                exact ih _ (by omega) bt (-1) (n + 1) v1 by1 tr1 rfl (by omega) (by rw [hst]; (repeat' split) <;> first | rfl | (exfalso; omega) | (congr 1 <;> omega) | (simp only [Prod.mk.injEq]; omega)) (by omega) (by exact hvk)
            · skip
              refine v_iload (pc := 73) 0 rfl dX12_learns_73 ?_
              refine v_iconst (pc := 75) dX12_learns_75 ?_
              refine v_icmp_eq (pc := 76) 84 dX12_learns_76 (by decide) (by unfold iB; omega) (by unfold iB; omega) (fun c_6 => ?_) (fun c_6 => by exfalso; omega)
              refine v_iload_n (pc := 84) 3 rfl dX12_learns_84 ?_
              refine v_istore_n (pc := 85) (L2 := [(2, ai bt), (5, ai (-1)), (0, ar h), (1, ai player), (3, ai mo), (4, ai n)]) rfl (by decide) dX12_learns_85 ?_
              refine v_iload (pc := 86) 1 rfl dX12_learns_86 ?_
              refine v_iload_n (pc := 88) 4 rfl dX12_learns_88 ?_
              refine v_icmp_le (pc := 89) 97 dX12_learns_89 (by decide) (by unfold iB; omega) (by unfold iB; omega) (fun c_7 => ?_) (fun c_7 => ?_)
              · skip
                refine v_iload_n (pc := 97) 4 rfl dX12_learns_97 ?_
                refine v_istore_n (pc := 98) (L2 := [(3, ai mo), (2, ai bt), (5, ai (-1)), (0, ar h), (1, ai player), (4, ai n)]) rfl (by decide) dX12_learns_98 ?_
                refine v_iinc (pc := 99) 5 (L2 := [(4, ai (n + 1)), (3, ai mo), (2, ai bt), (5, ai (-1)), (0, ar h), (1, ai player)]) rfl rfl (by decide) dX12_learns_99 ?_
                refine v_goto (pc := 102) 27 dX12_learns_102 (by decide) ?_
                refine v_sub (L2 := [(0, ar h), (1, ai player), (2, ai bt), (3, ai mo), (4, ai (n + 1))]) [4, 5, 2, 1, 0] rfl ?_
                exact ih _ (by omega) bt mo (n + 1) v1 by1 tr1 rfl (by omega) (by rw [hst]; (repeat' split) <;> first | rfl | (exfalso; omega) | (congr 1 <;> omega) | (simp only [Prod.mk.injEq]; omega)) (by omega) (by exact hvk)
              · skip
                refine v_iload (pc := 92) 1 rfl dX12_learns_92 ?_
                refine v_goto (pc := 94) 98 dX12_learns_94 (by decide) ?_
                refine v_istore_n (pc := 98) (L2 := [(3, ai (-1)), (2, ai bt), (5, ai (-1)), (0, ar h), (1, ai player), (4, ai n)]) rfl (by decide) dX12_learns_98 ?_
                refine v_iinc (pc := 99) 5 (L2 := [(4, ai (n + 1)), (3, ai (-1)), (2, ai bt), (5, ai (-1)), (0, ar h), (1, ai player)]) rfl rfl (by decide) dX12_learns_99 ?_
                refine v_goto (pc := 102) 27 dX12_learns_102 (by decide) ?_
                refine v_sub (L2 := [(0, ar h), (1, ai player), (2, ai bt), (3, ai (-1)), (4, ai (n + 1))]) [4, 5, 2, 1, 0] rfl ?_
                exact ih _ (by omega) bt (-1) (n + 1) v1 by1 tr1 rfl (by omega) (by rw [hst]; (repeat' split) <;> first | rfl | (exfalso; omega) | (congr 1 <;> omega) | (simp only [Prod.mk.injEq]; omega)) (by omega) (by exact hvk)
          · skip
            refine v_aload_n (pc := 54) 0 rfl dX12_learns_54 ?_
            refine v_iload_n (pc := 55) 1 rfl dX12_learns_55 ?_
            refine v_iload (pc := 56) 4 rfl dX12_learns_56 ?_
            refine v_callV (pc := 58) [0, 1, 2] [] [] (As := [ai player, ai n]) (rest := []) (c_X12_bestOf ad v1 h f by1 tr1 player n (by first | assumption | omega) (by first | assumption | omega) (by first | assumption | omega) (by first | assumption | omega)) (c := 12) rfl (Or.inr ⟨0, rfl⟩) wl_X12_187 wi_X12_bestOf wv_X12_X12_bestOf_X12_bestOf wk_X12_bestOf wz_X12 md_X12_bestOf rfl (Nat.le_of_ble_eq_true rfl) ⟨Nat.le_of_ble_eq_true rfl, Nat.le_of_ble_eq_true rfl, Nat.le_of_ble_eq_true rfl, Nat.le_of_ble_eq_true rfl⟩ rfl rfl rfl rfl (by decide) (ro_cons (Or.inl r0) ro_nil) dX12_learns_58 (fun u hu => ?_)
            obtain ⟨v2_8, by2_9, tr2_10⟩ := u
            have g_11 : vK v1 v2_8 ∧ v2_8 15 = v1 15 ∧ v2_8 13 = (fBst f player n 21).2 := hu
            show V x cX12_learns RX12 6 (rmU 4 102 0 0) [(h, co 12 (mO ad v2_8)), ((ad 9), cn 0 6 by2_9), ((ad 10), cn 1 64 tr2_10)] 61 [(0, ar h), (1, ai player), (2, ai bt), (3, ai mo), (4, ai n)] [ai (fBest f player n)] 0 0
            have hkeep := g_11.1
            have hbb := fBest_b (f := f) (p := player) (n := n)
            refine v_goto (pc := 61) 65 dX12_learns_61 (by decide) ?_
            refine v_istore (pc := 65) (L2 := [(5, ai (fBest f player n)), (0, ar h), (1, ai player), (2, ai bt), (3, ai mo), (4, ai n)]) rfl (by decide) dX12_learns_65 ?_
            refine v_iload (pc := 67) 0 rfl dX12_learns_67 ?_
            refine v_iload_n (pc := 69) 4 rfl dX12_learns_69 ?_
            refine v_icmp_lt (pc := 70) 84 dX12_learns_70 (by decide) (by unfold iB; omega) (by unfold iB; omega) (fun c_12 => ?_) (fun c_12 => ?_)
            · skip
              refine v_iload_n (pc := 84) 3 rfl dX12_learns_84 ?_
              refine v_istore_n (pc := 85) (L2 := [(2, ai bt), (5, ai (fBest f player n)), (0, ar h), (1, ai player), (3, ai mo), (4, ai n)]) rfl (by decide) dX12_learns_85 ?_
              refine v_iload (pc := 86) 1 rfl dX12_learns_86 ?_
              refine v_iload_n (pc := 88) 4 rfl dX12_learns_88 ?_
              refine v_icmp_le (pc := 89) 97 dX12_learns_89 (by decide) (by unfold iB; omega) (by unfold iB; omega) (fun c_13 => ?_) (fun c_13 => ?_)
              · skip
                refine v_iload_n (pc := 97) 4 rfl dX12_learns_97 ?_
                refine v_istore_n (pc := 98) (L2 := [(3, ai mo), (2, ai bt), (5, ai (fBest f player n)), (0, ar h), (1, ai player), (4, ai n)]) rfl (by decide) dX12_learns_98 ?_
                refine v_iinc (pc := 99) 5 (L2 := [(4, ai (n + 1)), (3, ai mo), (2, ai bt), (5, ai (fBest f player n)), (0, ar h), (1, ai player)]) rfl rfl (by decide) dX12_learns_99 ?_
                refine v_goto (pc := 102) 27 dX12_learns_102 (by decide) ?_
                refine v_sub (L2 := [(0, ar h), (1, ai player), (2, ai bt), (3, ai mo), (4, ai (n + 1))]) [4, 5, 2, 1, 0] rfl ?_
                exact ih _ (by omega) bt mo (n + 1) v2_8 by2_9 tr2_10 rfl (by omega) (by rw [hst]; (repeat' split) <;> first | rfl | (exfalso; omega) | (congr 1 <;> omega) | (simp only [Prod.mk.injEq]; omega)) (by omega) (by exact vK_tr hvk hkeep)
              · skip
                refine v_iload (pc := 92) 1 rfl dX12_learns_92 ?_
                refine v_goto (pc := 94) 98 dX12_learns_94 (by decide) ?_
                refine v_istore_n (pc := 98) (L2 := [(3, ai (fBest f player n)), (2, ai bt), (5, ai (fBest f player n)), (0, ar h), (1, ai player), (4, ai n)]) rfl (by decide) dX12_learns_98 ?_
                refine v_iinc (pc := 99) 5 (L2 := [(4, ai (n + 1)), (3, ai (fBest f player n)), (2, ai bt), (5, ai (fBest f player n)), (0, ar h), (1, ai player)]) rfl rfl (by decide) dX12_learns_99 ?_
                refine v_goto (pc := 102) 27 dX12_learns_102 (by decide) ?_
                refine v_sub (L2 := [(0, ar h), (1, ai player), (2, ai bt), (3, ai (fBest f player n)), (4, ai (n + 1))]) [4, 5, 2, 1, 0] rfl ?_
                exact ih _ (by omega) bt (fBest f player n) (n + 1) v2_8 by2_9 tr2_10 rfl (by omega) (by rw [hst]; (repeat' split) <;> first | rfl | (exfalso; omega) | (congr 1 <;> omega) | (simp only [Prod.mk.injEq]; omega)) (by omega) (by exact vK_tr hvk hkeep)
            · skip
              refine v_iload (pc := 73) 0 rfl dX12_learns_73 ?_
              refine v_iconst (pc := 75) dX12_learns_75 ?_
              refine v_icmp_eq (pc := 76) 84 dX12_learns_76 (by decide) (by unfold iB; omega) (by unfold iB; omega) (fun c_14 => ?_) (fun c_14 => ?_)
              · skip
                refine v_iload_n (pc := 84) 3 rfl dX12_learns_84 ?_
                refine v_istore_n (pc := 85) (L2 := [(2, ai bt), (5, ai (fBest f player n)), (0, ar h), (1, ai player), (3, ai mo), (4, ai n)]) rfl (by decide) dX12_learns_85 ?_
                refine v_iload (pc := 86) 1 rfl dX12_learns_86 ?_
                refine v_iload_n (pc := 88) 4 rfl dX12_learns_88 ?_
                refine v_icmp_le (pc := 89) 97 dX12_learns_89 (by decide) (by unfold iB; omega) (by unfold iB; omega) (fun c_15 => ?_) (fun c_15 => ?_)
                · skip
                  refine v_iload_n (pc := 97) 4 rfl dX12_learns_97 ?_
                  refine v_istore_n (pc := 98) (L2 := [(3, ai mo), (2, ai bt), (5, ai (fBest f player n)), (0, ar h), (1, ai player), (4, ai n)]) rfl (by decide) dX12_learns_98 ?_
                  refine v_iinc (pc := 99) 5 (L2 := [(4, ai (n + 1)), (3, ai mo), (2, ai bt), (5, ai (fBest f player n)), (0, ar h), (1, ai player)]) rfl rfl (by decide) dX12_learns_99 ?_
                  refine v_goto (pc := 102) 27 dX12_learns_102 (by decide) ?_
                  refine v_sub (L2 := [(0, ar h), (1, ai player), (2, ai bt), (3, ai mo), (4, ai (n + 1))]) [4, 5, 2, 1, 0] rfl ?_
                  exact ih _ (by omega) bt mo (n + 1) v2_8 by2_9 tr2_10 rfl (by omega) (by rw [hst]; (repeat' split) <;> first | rfl | (exfalso; omega) | (congr 1 <;> omega) | (simp only [Prod.mk.injEq]; omega)) (by omega) (by exact vK_tr hvk hkeep)
                · skip
                  refine v_iload (pc := 92) 1 rfl dX12_learns_92 ?_
                  refine v_goto (pc := 94) 98 dX12_learns_94 (by decide) ?_
                  refine v_istore_n (pc := 98) (L2 := [(3, ai (fBest f player n)), (2, ai bt), (5, ai (fBest f player n)), (0, ar h), (1, ai player), (4, ai n)]) rfl (by decide) dX12_learns_98 ?_
                  refine v_iinc (pc := 99) 5 (L2 := [(4, ai (n + 1)), (3, ai (fBest f player n)), (2, ai bt), (5, ai (fBest f player n)), (0, ar h), (1, ai player)]) rfl rfl (by decide) dX12_learns_99 ?_
                  refine v_goto (pc := 102) 27 dX12_learns_102 (by decide) ?_
                  refine v_sub (L2 := [(0, ar h), (1, ai player), (2, ai bt), (3, ai (fBest f player n)), (4, ai (n + 1))]) [4, 5, 2, 1, 0] rfl ?_
                  exact ih _ (by omega) bt (fBest f player n) (n + 1) v2_8 by2_9 tr2_10 rfl (by omega) (by rw [hst]; (repeat' split) <;> first | rfl | (exfalso; omega) | (congr 1 <;> omega) | (simp only [Prod.mk.injEq]; omega)) (by omega) (by exact vK_tr hvk hkeep)
              · skip
                refine v_iload (pc := 79) 5 rfl dX12_learns_79 ?_
                refine v_goto (pc := 81) 85 dX12_learns_81 (by decide) ?_
                refine v_istore_n (pc := 85) (L2 := [(2, ai n), (5, ai (fBest f player n)), (0, ar h), (1, ai player), (3, ai mo), (4, ai n)]) rfl (by decide) dX12_learns_85 ?_
                refine v_iload (pc := 86) 1 rfl dX12_learns_86 ?_
                refine v_iload_n (pc := 88) 4 rfl dX12_learns_88 ?_
                refine v_icmp_le (pc := 89) 97 dX12_learns_89 (by decide) (by unfold iB; omega) (by unfold iB; omega) (fun c_16 => ?_) (fun c_16 => ?_)
                · skip
                  refine v_iload_n (pc := 97) 4 rfl dX12_learns_97 ?_
                  refine v_istore_n (pc := 98) (L2 := [(3, ai mo), (2, ai n), (5, ai (fBest f player n)), (0, ar h), (1, ai player), (4, ai n)]) rfl (by decide) dX12_learns_98 ?_
                  refine v_iinc (pc := 99) 5 (L2 := [(4, ai (n + 1)), (3, ai mo), (2, ai n), (5, ai (fBest f player n)), (0, ar h), (1, ai player)]) rfl rfl (by decide) dX12_learns_99 ?_
                  refine v_goto (pc := 102) 27 dX12_learns_102 (by decide) ?_
                  refine v_sub (L2 := [(0, ar h), (1, ai player), (2, ai n), (3, ai mo), (4, ai (n + 1))]) [4, 5, 2, 1, 0] rfl ?_
                  exact ih _ (by omega) n mo (n + 1) v2_8 by2_9 tr2_10 rfl (by omega) (by rw [hst]; (repeat' split) <;> first | rfl | (exfalso; omega) | (congr 1 <;> omega) | (simp only [Prod.mk.injEq]; omega)) (by omega) (by exact vK_tr hvk hkeep)
                · skip
                  refine v_iload (pc := 92) 1 rfl dX12_learns_92 ?_
                  refine v_goto (pc := 94) 98 dX12_learns_94 (by decide) ?_
                  refine v_istore_n (pc := 98) (L2 := [(3, ai (fBest f player n)), (2, ai n), (5, ai (fBest f player n)), (0, ar h), (1, ai player), (4, ai n)]) rfl (by decide) dX12_learns_98 ?_
                  refine v_iinc (pc := 99) 5 (L2 := [(4, ai (n + 1)), (3, ai (fBest f player n)), (2, ai n), (5, ai (fBest f player n)), (0, ar h), (1, ai player)]) rfl rfl (by decide) dX12_learns_99 ?_
                  refine v_goto (pc := 102) 27 dX12_learns_102 (by decide) ?_
                  refine v_sub (L2 := [(0, ar h), (1, ai player), (2, ai n), (3, ai (fBest f player n)), (4, ai (n + 1))]) [4, 5, 2, 1, 0] rfl ?_
                  exact ih _ (by omega) n (fBest f player n) (n + 1) v2_8 by2_9 tr2_10 rfl (by omega) (by rw [hst]; (repeat' split) <;> first | rfl | (exfalso; omega) | (congr 1 <;> omega) | (simp only [Prod.mk.injEq]; omega)) (by omega) (by exact vK_tr hvk hkeep)
    refine v_sub (L2 := [(0, ar h), (1, ai player), (2, ai 0), (3, ai (-1)), (4, ai ((f (37 + player)) - 5))]) [3, 4, 2, 1, 0] rfl ?_
    exact lp27 _ 0 (-1) ((f (37 + player)) - 5) v by0 tr0 rfl (by omega) (by rw [show (f (37 + player) - 5 - (f (37 + player) - 5)).toNat = 0 by omega]; rfl) (by omega) (by exact vK_rf v)
  · skip
    refine v_iconst (pc := 8) dX12_learns_8 ?_
    exact hret (v, by0, tr0) _ _ _ _ _ _ (by exact vK_rf v) (congrArg (fun z => some (ai z)) (by unfold qLearns; (repeat' split) <;> first | rfl | omega | (exfalso; omega))) rfl (Nat.le_of_ble_eq_true rfl) (Nat.le_of_ble_eq_true rfl) dX12_learns_9
set_option maxHeartbeats 4000000 in
set_option maxRecDepth 100000 in
theorem c_X12_as {gS : sG} (ad : Nat → Nat) (v : Nat → Int) (h : Nat) (f : Int → Int) (player : Int) (k : Int) (hS : SOK f) (hb_player : -2147483648 ≤ player ∧ player < 2147483648) (hb_k : -2147483648 ≤ k ∧ k < 2147483648) : Ct gS (S := Unit) yX12_as cX12_as 3 (some .int) 2 43 0 0 [ar h, ai player, ai k] [] (fun q => q ∈ ([(h, co 12 (mO ad v)), ((ad 1), cn 0 936 f)] : aW)) (fun _ => True) (fun _ => some (ai (qAs f player k))) (fun _ => []) := by
  refine ct_I RX12 [(0, ar h), (1, ai player), (2, ai k)] (by decide) rfl (Nat.le_of_ble_eq_true rfl) rfl (fun x hgS hro hret => ?_)
  subst hgS
  have r0 := hro _ (mem_at 0 rfl)
  have r1 := hro _ (mem_at 1 rfl)
  obtain ⟨hg, hSp, hSh, hSs, hSb, hSt, hwf⟩ := id hS
  obtain ⟨hg0, hg1, hg2, hg3, hg4, hg5, hg6, hg7⟩ := id hg
  show V x cX12_as RX12 3 (rmU 2 43 0 0) [] 0 [(0, ar h), (1, ai player), (2, ai k)] [] 0 0
  refine v_aload_n (pc := 0) 0 rfl dX12_as_0 ?_
  refine v_iload_n (pc := 1) 1 rfl dX12_as_1 ?_
  refine v_callV (pc := 2) [] [] [] (As := [ai player]) (rest := []) (c_X12_isPlayer ad v h f player (by first | assumption | omega) (by first | assumption | omega)) (c := 12) rfl (Or.inl r0) wl_X12_136 wi_X12_isPlayer wv_X12_X12_isPlayer_X12_isPlayer wk_X12_isPlayer wz_X12 md_X12_isPlayer rfl (Nat.le_of_ble_eq_true rfl) ⟨Nat.le_of_ble_eq_true rfl, Nat.le_of_ble_eq_true rfl, Nat.le_of_ble_eq_true rfl, Nat.le_of_ble_eq_true rfl⟩ rfl rfl rfl rfl (by decide) (ro_cons (Or.inl r0) (ro_cons (Or.inl r1) ro_nil)) dX12_as_2 (fun u hu => ?_)
  show V x cX12_as RX12 3 (rmU 2 43 0 0) [] 5 [(0, ar h), (1, ai player), (2, ai k)] [ai (if 0 ≤ player ∧ player ≤ (f 0) - 1 then 1 else 0)] 0 0
  refine v_ifb_eq (pc := 5) 18 dX12_as_5 (by decide) (fun c_1 => ?_) (fun c_1 => ?_)
  · skip
    refine v_iconst (pc := 18) dX12_as_18 ?_
    exact hret () _ _ _ _ _ _ trivial (congrArg (fun z => some (ai z)) (by unfold qAs; (repeat' split) <;> first | rfl | omega | (exfalso; omega))) rfl (Nat.le_of_ble_eq_true rfl) (Nat.le_of_ble_eq_true rfl) dX12_as_19
  · skip
    have hf := hSp player (by omega) (by omega)
    obtain ⟨hp, hf1, hf2, hf3, hf4, hf5, hf6, hf7, hf8⟩ := id hf
    refine v_iload_n (pc := 8) 2 rfl dX12_as_8 ?_
    refine v_iconst (pc := 9) dX12_as_9 ?_
    refine v_bipush (pc := 10) dX12_as_10 (by decide) ?_
    refine v_callS (pc := 12) [] [] [] (As := [ai k, ai 0, ai 6]) (rest := []) (c_X12_in k 0 6 (by first | assumption | omega) (by first | assumption | omega) (by first | assumption | omega)) wl_X12_41 ws_X12_in wk_X12_in wz_X12 md_X12_in rfl (Nat.le_of_ble_eq_true rfl) ⟨Nat.le_of_ble_eq_true rfl, Nat.le_of_ble_eq_true rfl, Nat.le_of_ble_eq_true rfl, Nat.le_of_ble_eq_true rfl⟩ rfl rfl rfl rfl (by decide) ro_nil dX12_as_12 (fun u hu => ?_)
    show V x cX12_as RX12 3 (rmU 2 43 0 0) [] 15 [(0, ar h), (1, ai player), (2, ai k)] [ai (if 0 ≤ k ∧ k ≤ 6 then 1 else 0)] 0 0
    refine v_ifb_ne (pc := 15) 20 dX12_as_15 (by decide) (fun c_2 => ?_) (fun c_2 => ?_)
    · skip
      refine v_aload_n (pc := 20) 0 rfl dX12_as_20 ?_
      refine v_get (pc := 21) (v := ar (ad 1)) 1 (Or.inl r0) fl_12_9_12 rfl dX12_as_21 ?_
      refine v_bipush (pc := 24) dX12_as_24 (by decide) ?_
      refine v_iload_n (pc := 26) 1 rfl dX12_as_26 ?_
      refine v_iadd (pc := 27) dX12_as_27 ?_
      refine v_iald (pc := 28) (Or.inl r1) (by omega) (by omega) (by decide) dX12_as_28 ?_
      refine v_iload_n (pc := 29) 2 rfl dX12_as_29 ?_
      refine v_callS (pc := 30) [] [] [] (As := [ai (f (7 + player)), ai k]) (rest := []) (c_X12_isUnder (f (7 + player)) k (by first | assumption | omega) (by first | assumption | omega)) wl_X12_258 ws_X12_isUnder wk_X12_isUnder wz_X12 md_X12_isUnder rfl (Nat.le_of_ble_eq_true rfl) ⟨Nat.le_of_ble_eq_true rfl, Nat.le_of_ble_eq_true rfl, Nat.le_of_ble_eq_true rfl, Nat.le_of_ble_eq_true rfl⟩ rfl rfl rfl rfl (by decide) ro_nil dX12_as_30 (fun u hu => ?_)
      show V x cX12_as RX12 3 (rmU 2 43 0 0) [] 33 [(0, ar h), (1, ai player), (2, ai k)] [ai (if k = 0 ∨ k = (f (7 + player)) ∨ (0 < k ∧ k < 4 ∧ (f (7 + player)) = k + 3) then 1 else 0)] 0 0
      refine v_ifb_eq (pc := 33) 48 dX12_as_33 (by decide) (fun c_3 => ?_) (fun c_3 => ?_)
      · skip
        refine v_bipush (pc := 48) dX12_as_48 (by decide) ?_
        exact hret () _ _ _ _ _ _ trivial (congrArg (fun z => some (ai z)) (by unfold qAs; (repeat' split) <;> first | rfl | omega | (exfalso; omega))) rfl (Nat.le_of_ble_eq_true rfl) (Nat.le_of_ble_eq_true rfl) dX12_as_50
      · skip
        refine v_aload_n (pc := 36) 0 rfl dX12_as_36 ?_
        refine v_get (pc := 37) (v := ar (ad 1)) 1 (Or.inl r0) fl_12_9_12 rfl dX12_as_37 ?_
        refine v_bipush (pc := 40) dX12_as_40 (by decide) ?_
        refine v_iload_n (pc := 42) 1 rfl dX12_as_42 ?_
        refine v_iadd (pc := 43) dX12_as_43 ?_
        refine v_iald (pc := 44) (Or.inl r1) (by omega) (by omega) (by decide) dX12_as_44 ?_
        refine v_goto (pc := 45) 50 dX12_as_45 (by decide) ?_
        exact hret () _ _ _ _ _ _ trivial (congrArg (fun z => some (ai z)) (by unfold qAs; (repeat' split) <;> first | rfl | omega | (exfalso; omega))) rfl (Nat.le_of_ble_eq_true rfl) (Nat.le_of_ble_eq_true rfl) dX12_as_50
    · skip
      refine v_iconst (pc := 18) dX12_as_18 ?_
      exact hret () _ _ _ _ _ _ trivial (congrArg (fun z => some (ai z)) (by unfold qAs; (repeat' split) <;> first | rfl | omega | (exfalso; omega))) rfl (Nat.le_of_ble_eq_true rfl) (Nat.le_of_ble_eq_true rfl) dX12_as_19
set_option maxHeartbeats 4000000 in
set_option maxRecDepth 100000 in
theorem c_X12_trace {gS : sG} (ad : Nat → Nat) (v : Nat → Int) (h : Nat) (bd : Int → Int) (i : Int) (hran : 0 ≤ v 21 ∧ v 21 ≤ 1000000) (hb_i : -2147483648 ≤ i ∧ i < 2147483648) : Ct gS (S := Unit) yX12_trace cX12_trace 2 (some .int) 1 22 0 0 [ar h, ai i] [] (fun q => q ∈ ([(h, co 12 (mO ad v)), ((ad 20), cn 0 20 bd)] : aW)) (fun _ => True) (fun _ => some (ai (if 0 ≤ i ∧ i < v 21 ∧ i < 20 then bd i else -1))) (fun _ => []) := by
  refine ct_I RX12 [(0, ar h), (1, ai i)] (by decide) rfl (Nat.le_of_ble_eq_true rfl) rfl (fun x hgS hro hret => ?_)
  subst hgS
  have r0 := hro _ (mem_at 0 rfl)
  have r1 := hro _ (mem_at 1 rfl)
  show V x cX12_trace RX12 2 (rmU 1 22 0 0) [] 0 [(0, ar h), (1, ai i)] [] 0 0
  refine v_iload_n (pc := 0) 1 rfl dX12_trace_0 ?_
  refine v_iconst (pc := 1) dX12_trace_1 ?_
  refine v_aload_n (pc := 2) 0 rfl dX12_trace_2 ?_
  refine v_get (pc := 3) (v := ai (v 21)) 21 (Or.inl r0) fl_12_246_12 rfl dX12_trace_3 ?_
  refine v_bipush (pc := 6) dX12_trace_6 (by decide) ?_
  refine v_icmp_ge (pc := 8) 18 dX12_trace_8 (by decide) (by unfold iB; omega) (by unfold iB; omega) (fun c_1 => ?_) (fun c_1 => ?_)
  · skip
    refine v_bipush (pc := 18) dX12_trace_18 (by decide) ?_
    refine v_iconst (pc := 20) dX12_trace_20 ?_
    refine v_isub (pc := 21) dX12_trace_21 ?_
    refine v_callS (pc := 22) [] [] [] (As := [ai i, ai 0, ai (20 - 1)]) (rest := []) (c_X12_in i 0 (20 - 1) (by first | assumption | omega) (by first | assumption | omega) (by first | assumption | omega)) wl_X12_41 ws_X12_in wk_X12_in wz_X12 md_X12_in rfl (Nat.le_of_ble_eq_true rfl) ⟨Nat.le_of_ble_eq_true rfl, Nat.le_of_ble_eq_true rfl, Nat.le_of_ble_eq_true rfl, Nat.le_of_ble_eq_true rfl⟩ rfl rfl rfl rfl (by decide) ro_nil dX12_trace_22 (fun u hu => ?_)
    show V x cX12_trace RX12 2 (rmU 1 22 0 0) [] 25 [(0, ar h), (1, ai i)] [ai (if 0 ≤ i ∧ i ≤ (20 - 1) then 1 else 0)] 0 0
    refine v_ifb_eq (pc := 25) 37 dX12_trace_25 (by decide) (fun c_2 => ?_) (fun c_2 => ?_)
    · skip
      refine v_iconst (pc := 37) dX12_trace_37 ?_
      exact hret () _ _ _ _ _ _ trivial (congrArg (fun z => some (ai z)) (by split <;> first | rfl | omega)) rfl (Nat.le_of_ble_eq_true rfl) (Nat.le_of_ble_eq_true rfl) dX12_trace_38
    · skip
      refine v_aload_n (pc := 28) 0 rfl dX12_trace_28 ?_
      refine v_get (pc := 29) (v := ar (ad 20)) 20 (Or.inl r0) fl_12_34_12 rfl dX12_trace_29 ?_
      refine v_iload_n (pc := 32) 1 rfl dX12_trace_32 ?_
      refine v_iald (pc := 33) (Or.inl r1) (by omega) (by omega) (by decide) dX12_trace_33 ?_
      refine v_goto (pc := 34) 38 dX12_trace_34 (by decide) ?_
      exact hret () _ _ _ _ _ _ trivial (congrArg (fun z => some (ai z)) (by split <;> first | rfl | omega)) rfl (Nat.le_of_ble_eq_true rfl) (Nat.le_of_ble_eq_true rfl) dX12_trace_38
  · skip
    refine v_aload_n (pc := 11) 0 rfl dX12_trace_11 ?_
    refine v_get (pc := 12) (v := ai (v 21)) 21 (Or.inl r0) fl_12_246_12 rfl dX12_trace_12 ?_
    refine v_goto (pc := 15) 20 dX12_trace_15 (by decide) ?_
    refine v_iconst (pc := 20) dX12_trace_20 ?_
    refine v_isub (pc := 21) dX12_trace_21 ?_
    refine v_callS (pc := 22) [] [] [] (As := [ai i, ai 0, ai ((v 21) - 1)]) (rest := []) (c_X12_in i 0 ((v 21) - 1) (by first | assumption | omega) (by first | assumption | omega) (by first | assumption | omega)) wl_X12_41 ws_X12_in wk_X12_in wz_X12 md_X12_in rfl (Nat.le_of_ble_eq_true rfl) ⟨Nat.le_of_ble_eq_true rfl, Nat.le_of_ble_eq_true rfl, Nat.le_of_ble_eq_true rfl, Nat.le_of_ble_eq_true rfl⟩ rfl rfl rfl rfl (by decide) ro_nil dX12_trace_22 (fun u hu => ?_)
    show V x cX12_trace RX12 2 (rmU 1 22 0 0) [] 25 [(0, ar h), (1, ai i)] [ai (if 0 ≤ i ∧ i ≤ ((v 21) - 1) then 1 else 0)] 0 0
    refine v_ifb_eq (pc := 25) 37 dX12_trace_25 (by decide) (fun c_3 => ?_) (fun c_3 => ?_)
    · skip
      refine v_iconst (pc := 37) dX12_trace_37 ?_
      exact hret () _ _ _ _ _ _ trivial (congrArg (fun z => some (ai z)) (by split <;> first | rfl | omega)) rfl (Nat.le_of_ble_eq_true rfl) (Nat.le_of_ble_eq_true rfl) dX12_trace_38
    · skip
      refine v_aload_n (pc := 28) 0 rfl dX12_trace_28 ?_
      refine v_get (pc := 29) (v := ar (ad 20)) 20 (Or.inl r0) fl_12_34_12 rfl dX12_trace_29 ?_
      refine v_iload_n (pc := 32) 1 rfl dX12_trace_32 ?_
      refine v_iald (pc := 33) (Or.inl r1) (by omega) (by omega) (by decide) dX12_trace_33 ?_
      refine v_goto (pc := 34) 38 dX12_trace_34 (by decide) ?_
      exact hret () _ _ _ _ _ _ trivial (congrArg (fun z => some (ai z)) (by split <;> first | rfl | omega)) rfl (Nat.le_of_ble_eq_true rfl) (Nat.le_of_ble_eq_true rfl) dX12_trace_38
set_option maxHeartbeats 4000000 in
set_option maxRecDepth 100000 in
theorem c_X12_count {gS : sG} (ad : Nat → Nat) (v : Nat → Int) (h : Nat) (f : Int → Int) (what : Int) (hS : SOK f) (hb_what : -2147483648 ≤ what ∧ what < 2147483648) : Ct gS (S := Unit) yX12_count cX12_count 2 (some .int) 1 22 0 0 [ar h, ai what] [] (fun q => q ∈ ([(h, co 12 (mO ad v)), ((ad 1), cn 0 936 f)] : aW)) (fun _ => True) (fun _ => some (ai (if what = 5 then v 21 else if 0 ≤ what ∧ what ≤ 4 then f what else -1))) (fun _ => []) := by
  refine ct_I RX12 [(0, ar h), (1, ai what)] (by decide) rfl (Nat.le_of_ble_eq_true rfl) rfl (fun x hgS hro hret => ?_)
  subst hgS
  have r0 := hro _ (mem_at 0 rfl)
  have r1 := hro _ (mem_at 1 rfl)
  obtain ⟨hg, hSp, hSh, hSs, hSb, hSt, hwf⟩ := id hS
  obtain ⟨hg0, hg1, hg2, hg3, hg4, hg5, hg6, hg7⟩ := id hg
  show V x cX12_count RX12 2 (rmU 1 22 0 0) [] 0 [(0, ar h), (1, ai what)] [] 0 0
  refine v_iload_n (pc := 0) 1 rfl dX12_count_0 ?_
  refine v_iconst (pc := 1) dX12_count_1 ?_
  refine v_icmp_ne (pc := 2) 12 dX12_count_2 (by decide) (by unfold iB; omega) (by unfold iB; omega) (fun c_1 => ?_) (fun c_1 => ?_)
  · skip
    refine v_iload_n (pc := 12) 1 rfl dX12_count_12 ?_
    refine v_iconst (pc := 13) dX12_count_13 ?_
    refine v_iconst (pc := 14) dX12_count_14 ?_
    refine v_callS (pc := 15) [] [] [] (As := [ai what, ai 0, ai 4]) (rest := []) (c_X12_in what 0 4 (by first | assumption | omega) (by first | assumption | omega) (by first | assumption | omega)) wl_X12_41 ws_X12_in wk_X12_in wz_X12 md_X12_in rfl (Nat.le_of_ble_eq_true rfl) ⟨Nat.le_of_ble_eq_true rfl, Nat.le_of_ble_eq_true rfl, Nat.le_of_ble_eq_true rfl, Nat.le_of_ble_eq_true rfl⟩ rfl rfl rfl rfl (by decide) ro_nil dX12_count_15 (fun u hu => ?_)
    show V x cX12_count RX12 2 (rmU 1 22 0 0) [] 18 [(0, ar h), (1, ai what)] [ai (if 0 ≤ what ∧ what ≤ 4 then 1 else 0)] 0 0
    refine v_ifb_eq (pc := 18) 30 dX12_count_18 (by decide) (fun c_2 => ?_) (fun c_2 => ?_)
    · skip
      refine v_iconst (pc := 30) dX12_count_30 ?_
      exact hret () _ _ _ _ _ _ trivial (congrArg (fun z => some (ai z)) (by (repeat' split) <;> first | rfl | omega | (exfalso; omega))) rfl (Nat.le_of_ble_eq_true rfl) (Nat.le_of_ble_eq_true rfl) dX12_count_31
    · skip
      refine v_aload_n (pc := 21) 0 rfl dX12_count_21 ?_
      refine v_get (pc := 22) (v := ar (ad 1)) 1 (Or.inl r0) fl_12_9_12 rfl dX12_count_22 ?_
      refine v_iload_n (pc := 25) 1 rfl dX12_count_25 ?_
      refine v_iald (pc := 26) (Or.inl r1) (by omega) (by omega) (by decide) dX12_count_26 ?_
      refine v_goto (pc := 27) 31 dX12_count_27 (by decide) ?_
      exact hret () _ _ _ _ _ _ trivial (congrArg (fun z => some (ai z)) (by (repeat' split) <;> first | rfl | omega | (exfalso; omega))) rfl (Nat.le_of_ble_eq_true rfl) (Nat.le_of_ble_eq_true rfl) dX12_count_31
  · skip
    refine v_aload_n (pc := 5) 0 rfl dX12_count_5 ?_
    refine v_get (pc := 6) (v := ai (v 21)) 21 (Or.inl r0) fl_12_246_12 rfl dX12_count_6 ?_
    refine v_goto (pc := 9) 31 dX12_count_9 (by decide) ?_
    exact hret () _ _ _ _ _ _ trivial (congrArg (fun z => some (ai z)) (by (repeat' split) <;> first | rfl | omega | (exfalso; omega))) rfl (Nat.le_of_ble_eq_true rfl) (Nat.le_of_ble_eq_true rfl) dX12_count_31
