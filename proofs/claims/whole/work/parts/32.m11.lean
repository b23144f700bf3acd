set_option maxHeartbeats 4000000 in
set_option maxRecDepth 100000 in
theorem c_X12_ranBody {gS : sG} (ad : Nat → Nat) (v : Nat → Int) (h : Nat) (bd : Int → Int) (b : Int) (hran : 0 ≤ v 21 ∧ v 21 ≤ 60) : Ct gS (S := (Nat → Int) × (Int → Int)) yX12_ranBody cX12_ranBody 2 none 0 0 0 0 [ar h, ai b] [(h, co 12 (mO ad v)), ((ad 20), cn 0 20 bd)] (fun q => q ∈ ([] : aW)) (fun u => AG bd v [b] u.2 u.1) (fun u => none) (fun u => [(h, co 12 (mO ad u.1)), ((ad 20), cn 0 20 u.2)]) := by
  refine ct_V RX12 [(0, ar h), (1, ai b)] (by decide) rfl (Nat.le_of_ble_eq_true rfl) rfl (fun x hgS hnm hro hret => ?_)
  subst hgS
  show V x cX12_ranBody RX12 2 (rmU 0 0 0 0) [(h, co 12 (mO ad v)), ((ad 20), cn 0 20 bd)] 0 [(0, ar h), (1, ai b)] [] 0 0
  refine v_aload_n (pc := 0) 0 rfl dX12_ranBody_0 ?_
  refine v_get (pc := 1) (v := ai (v 21)) 21 (Or.inr ⟨0, rfl⟩) fl_12_246_12 rfl dX12_ranBody_1 ?_
  refine v_bipush (pc := 4) dX12_ranBody_4 (by decide) ?_
  refine v_icmp_ge (pc := 6) 19 dX12_ranBody_6 (by decide) (by unfold iB; omega) (by unfold iB; omega) (fun c_1 => ?_) (fun c_1 => ?_)
  · skip
    refine v_aload_n (pc := 19) 0 rfl dX12_ranBody_19 ?_
    refine v_dup (pc := 20) rfl dX12_ranBody_20 ?_
    refine v_get (pc := 21) (v := ai (v 21)) 21 (Or.inr ⟨0, rfl⟩) fl_12_246_12 rfl dX12_ranBody_21 ?_
    refine v_iconst (pc := 24) dX12_ranBody_24 ?_
    refine v_iadd (pc := 25) dX12_ranBody_25 ?_
    refine v_put (pc := 26) 21 0 rfl fl_12_246_12 ck_12 ft_12_21 (okV_i _) (Nat.le_of_ble_eq_true rfl) (ws2 := [(h, co 12 (mO ad (nup v 21 ((v 21) + 1)))), ((ad 20), cn 0 20 bd)]) rfl dX12_ranBody_26 ?_
    exact hret ((nup v 21 ((v 21) + 1)), bd) _ _ _ _ _ (by (refine ⟨?_, rfl, rfl, rfl, rfl⟩; show (_, _) = (_, _); congr 1; first | rw [if_pos (by omega)] | rw [if_neg (by omega)])) rfl rfl (Nat.le_of_ble_eq_true rfl) (Nat.le_of_ble_eq_true rfl) dX12_ranBody_29
  · skip
    refine v_aload_n (pc := 9) 0 rfl dX12_ranBody_9 ?_
    refine v_get (pc := 10) (v := ar (ad 20)) 20 (Or.inr ⟨0, rfl⟩) fl_12_34_12 rfl dX12_ranBody_10 ?_
    refine v_aload_n (pc := 13) 0 rfl dX12_ranBody_13 ?_
    refine v_get (pc := 14) (v := ai (v 21)) 21 (Or.inr ⟨0, rfl⟩) fl_12_246_12 rfl dX12_ranBody_14 ?_
    refine v_iload_n (pc := 17) 1 rfl dX12_ranBody_17 ?_
    refine v_iast (pc := 18) 1 rfl (by omega) (by omega) (by decide) (ws2 := [(h, co 12 (mO ad v)), ((ad 20), cn 0 20 (aup bd (v 21) b))]) rfl dX12_ranBody_18 ?_
    refine v_aload_n (pc := 19) 0 rfl dX12_ranBody_19 ?_
    refine v_dup (pc := 20) rfl dX12_ranBody_20 ?_
    refine v_get (pc := 21) (v := ai (v 21)) 21 (Or.inr ⟨0, rfl⟩) fl_12_246_12 rfl dX12_ranBody_21 ?_
    refine v_iconst (pc := 24) dX12_ranBody_24 ?_
    refine v_iadd (pc := 25) dX12_ranBody_25 ?_
    refine v_put (pc := 26) 21 0 rfl fl_12_246_12 ck_12 ft_12_21 (okV_i _) (Nat.le_of_ble_eq_true rfl) (ws2 := [(h, co 12 (mO ad (nup v 21 ((v 21) + 1)))), ((ad 20), cn 0 20 (aup bd (v 21) b))]) rfl dX12_ranBody_26 ?_
    exact hret ((nup v 21 ((v 21) + 1)), (aup bd (v 21) b)) _ _ _ _ _ (by (refine ⟨?_, rfl, rfl, rfl, rfl⟩; show (_, _) = (_, _); congr 1; first | rw [if_pos (by omega)] | rw [if_neg (by omega)])) rfl rfl (Nat.le_of_ble_eq_true rfl) (Nat.le_of_ble_eq_true rfl) dX12_ranBody_29
set_option maxHeartbeats 4000000 in
set_option maxRecDepth 100000 in
theorem c_X12_plainStrikes {gS : sG} (ad : Nat → Nat) (v : Nat → Int) (h : Nat) (bd : Int → Int) (x0 : Int) (hran : 0 ≤ v 21 ∧ v 21 ≤ 55) : Ct gS (S := (Nat → Int) × (Int → Int)) yX12_plainStrikes cX12_plainStrikes 2 (some .int) 1 21 0 0 [ar h, ai x0] [(h, co 12 (mO ad v)), ((ad 20), cn 0 20 bd)] (fun q => q ∈ ([] : aW)) (fun u => AG bd v [1] u.2 u.1) (fun u => some (ai (x0 + v 23))) (fun u => [(h, co 12 (mO ad u.1)), ((ad 20), cn 0 20 u.2)]) := by
  refine ct_I RX12 [(0, ar h), (1, ai x0)] (by decide) rfl (Nat.le_of_ble_eq_true rfl) rfl (fun x hgS hro hret => ?_)
  subst hgS
  show V x cX12_plainStrikes RX12 2 (rmU 1 21 0 0) [(h, co 12 (mO ad v)), ((ad 20), cn 0 20 bd)] 0 [(0, ar h), (1, ai x0)] [] 0 0
  refine v_aload_n (pc := 0) 0 rfl dX12_plainStrikes_0 ?_
  refine v_iconst (pc := 1) dX12_plainStrikes_1 ?_
  refine v_callV (pc := 2) [0, 1] [] [] (As := [ai 1]) (rest := []) (c_X12_ranBody ad v h bd 1 (by first | omega | assumption)) (c := 12) rfl (Or.inr ⟨0, rfl⟩) wl_X12_249 wi_X12_ranBody wv_X12_X12_ranBody_X12_ranBody wk_X12_ranBody wz_X12 md_X12_ranBody rfl (Nat.le_of_ble_eq_true rfl) ⟨Nat.le_of_ble_eq_true rfl, Nat.le_of_ble_eq_true rfl, Nat.le_of_ble_eq_true rfl, Nat.le_of_ble_eq_true rfl⟩ rfl rfl rfl rfl (by decide) ro_nil dX12_plainStrikes_2 (fun u hu => ?_)
  obtain ⟨v2_1, bd2_2⟩ := u
  have g_3 : AG bd v [1] bd2_2 v2_1 := hu
  show V x cX12_plainStrikes RX12 2 (rmU 1 21 0 0) [(h, co 12 (mO ad v2_1)), ((ad 20), cn 0 20 bd2_2)] 5 [(0, ar h), (1, ai x0)] [] 0 0
  have g1 := g_3
  have g1l := AG_len g1
  have g1k := g1.2.2.1
  have g1n := g1.2.2.2.1
  have g1v := g1.2.2.2.2
  try simp only [List.length_cons, List.length_nil] at g1l
  refine v_iload_n (pc := 5) 1 rfl dX12_plainStrikes_5 ?_
  refine v_aload_n (pc := 6) 0 rfl dX12_plainStrikes_6 ?_
  refine v_get (pc := 7) (v := ai (v2_1 23)) 23 (Or.inr ⟨0, rfl⟩) fl_12_252_12 rfl dX12_plainStrikes_7 ?_
  refine v_iadd (pc := 10) dX12_plainStrikes_10 ?_
  exact hret (v2_1, bd2_2) _ _ _ _ _ _ (by exact g1) (congrArg (fun z => some (ai z)) (by omega)) rfl (Nat.le_of_ble_eq_true rfl) (Nat.le_of_ble_eq_true rfl) dX12_plainStrikes_11
set_option maxHeartbeats 4000000 in
set_option maxRecDepth 100000 in
theorem c_X12_strikesActs {gS : sG} (ad : Nat → Nat) (v : Nat → Int) (h : Nat) (bd : Int → Int) (x0 : Int) (hran : 0 ≤ v 21 ∧ v 21 ≤ 50) (hkd : 0 ≤ v 22 ∧ v 22 ≤ 6) : Ct gS (S := (Nat → Int) × (Int → Int)) yX12_strikesActs cX12_strikesActs 2 (some .int) 2 42 0 0 [ar h, ai x0] [(h, co 12 (mO ad v)), ((ad 20), cn 0 20 bd)] (fun q => q ∈ ([] : aW)) (fun u => AG bd v (bS (v 22)) u.2 u.1) (fun u => some (ai (aStr (v 22) (v 23) x0))) (fun u => [(h, co 12 (mO ad u.1)), ((ad 20), cn 0 20 u.2)]) := by
  refine ct_I RX12 [(0, ar h), (1, ai x0)] (by decide) rfl (Nat.le_of_ble_eq_true rfl) rfl (fun x hgS hro hret => ?_)
  subst hgS
  show V x cX12_strikesActs RX12 2 (rmU 2 42 0 0) [(h, co 12 (mO ad v)), ((ad 20), cn 0 20 bd)] 0 [(0, ar h), (1, ai x0)] [] 0 0
  refine v_aload_n (pc := 0) 0 rfl dX12_strikesActs_0 ?_
  refine v_get (pc := 1) (v := ai (v 22)) 22 (Or.inr ⟨0, rfl⟩) fl_12_255_12 rfl dX12_strikesActs_1 ?_
  refine v_iconst (pc := 4) dX12_strikesActs_4 ?_
  refine v_callS (pc := 5) [] [0, 1] [(h, co 12 (mO ad v)), ((ad 20), cn 0 20 bd)] (As := [ai (v 22), ai 1]) (rest := []) (c_X12_isUnder (v 22) 1 (by first | omega | assumption) (by first | omega | assumption)) wl_X12_258 ws_X12_isUnder wk_X12_isUnder wz_X12 md_X12_isUnder rfl (Nat.le_of_ble_eq_true rfl) ⟨Nat.le_of_ble_eq_true rfl, Nat.le_of_ble_eq_true rfl, Nat.le_of_ble_eq_true rfl, Nat.le_of_ble_eq_true rfl⟩ rfl rfl rfl rfl (by decide) ro_nil dX12_strikesActs_5 (fun u hu => ?_)
  show V x cX12_strikesActs RX12 2 (rmU 2 42 0 0) [(h, co 12 (mO ad v)), ((ad 20), cn 0 20 bd)] 8 [(0, ar h), (1, ai x0)] [ai (if 1 = 0 ∨ 1 = (v 22) ∨ (0 < 1 ∧ 1 < 4 ∧ (v 22) = 1 + 3) then 1 else 0)] 0 0
  refine v_ifb_eq (pc := 8) 25 dX12_strikesActs_8 (by decide) (fun c_1 => ?_) (fun c_1 => ?_)
  · skip
    refine v_aload_n (pc := 25) 0 rfl dX12_strikesActs_25 ?_
    refine v_get (pc := 26) (v := ai (v 22)) 22 (Or.inr ⟨0, rfl⟩) fl_12_255_12 rfl dX12_strikesActs_26 ?_
    refine v_iconst (pc := 29) dX12_strikesActs_29 ?_
    refine v_icmp_ne (pc := 30) 50 dX12_strikesActs_30 (by decide) (by unfold iB; omega) (by unfold iB; omega) (fun c_2 => ?_) (fun c_2 => ?_)
    · skip
      refine v_aload_n (pc := 50) 0 rfl dX12_strikesActs_50 ?_
      refine v_iload_n (pc := 51) 1 rfl dX12_strikesActs_51 ?_
      refine v_callV (pc := 52) [0, 1] [] [] (As := [ai x0]) (rest := []) (c_X12_plainStrikes ad v h bd x0 (by first | omega | assumption)) (c := 12) rfl (Or.inr ⟨0, rfl⟩) wl_X12_261 wi_X12_plainStrikes wv_X12_X12_plainStrikes_X12_plainStrikes wk_X12_plainStrikes wz_X12 md_X12_plainStrikes rfl (Nat.le_of_ble_eq_true rfl) ⟨Nat.le_of_ble_eq_true rfl, Nat.le_of_ble_eq_true rfl, Nat.le_of_ble_eq_true rfl, Nat.le_of_ble_eq_true rfl⟩ rfl rfl rfl rfl (by decide) ro_nil dX12_strikesActs_52 (fun u hu => ?_)
      obtain ⟨v2_3, bd2_4⟩ := u
      have g_5 : AG bd v [1] bd2_4 v2_3 := hu
      show V x cX12_strikesActs RX12 2 (rmU 2 42 0 0) [(h, co 12 (mO ad v2_3)), ((ad 20), cn 0 20 bd2_4)] 55 [(0, ar h), (1, ai x0)] [ai (x0 + v 23)] 0 0
      have g2 := g_5
      have g2l := AG_len g2
      have g2k := g2.2.2.1
      have g2n := g2.2.2.2.1
      have g2v := g2.2.2.2.2
      try simp only [List.length_cons, List.length_nil] at g2l
      exact hret (v2_3, bd2_4) _ _ _ _ _ _ (by (unfold bS; rw [if_neg (by omega), if_neg (by omega)]; exact g2)) (congrArg (fun z => some (ai z)) (by unfold aStr; rw [if_neg (by omega), if_neg (by omega)])) rfl (Nat.le_of_ble_eq_true rfl) (Nat.le_of_ble_eq_true rfl) dX12_strikesActs_55
    · skip
      refine v_aload_n (pc := 33) 0 rfl dX12_strikesActs_33 ?_
      refine v_bipush (pc := 34) dX12_strikesActs_34 (by decide) ?_
      refine v_callV (pc := 36) [0, 1] [] [] (As := [ai 51]) (rest := []) (c_X12_ranBody ad v h bd 51 (by first | omega | assumption)) (c := 12) rfl (Or.inr ⟨0, rfl⟩) wl_X12_249 wi_X12_ranBody wv_X12_X12_ranBody_X12_ranBody wk_X12_ranBody wz_X12 md_X12_ranBody rfl (Nat.le_of_ble_eq_true rfl) ⟨Nat.le_of_ble_eq_true rfl, Nat.le_of_ble_eq_true rfl, Nat.le_of_ble_eq_true rfl, Nat.le_of_ble_eq_true rfl⟩ rfl rfl rfl rfl (by decide) ro_nil dX12_strikesActs_36 (fun u hu => ?_)
      obtain ⟨v2_6, bd2_7⟩ := u
      have g_8 : AG bd v [51] bd2_7 v2_6 := hu
      show V x cX12_strikesActs RX12 2 (rmU 2 42 0 0) [(h, co 12 (mO ad v2_6)), ((ad 20), cn 0 20 bd2_7)] 39 [(0, ar h), (1, ai x0)] [] 0 0
      have g1 := g_8
      have g1l := AG_len g1
      have g1k := g1.2.2.1
      have g1n := g1.2.2.2.1
      have g1v := g1.2.2.2.2
      try simp only [List.length_cons, List.length_nil] at g1l
      refine v_aload_n (pc := 39) 0 rfl dX12_strikesActs_39 ?_
      refine v_iload_n (pc := 40) 1 rfl dX12_strikesActs_40 ?_
      refine v_callV (pc := 41) [0, 1] [] [] (As := [ai x0]) (rest := []) (c_X12_plainStrikes ad v2_6 h bd2_7 x0 (by first | omega | assumption)) (c := 12) rfl (Or.inr ⟨0, rfl⟩) wl_X12_261 wi_X12_plainStrikes wv_X12_X12_plainStrikes_X12_plainStrikes wk_X12_plainStrikes wz_X12 md_X12_plainStrikes rfl (Nat.le_of_ble_eq_true rfl) ⟨Nat.le_of_ble_eq_true rfl, Nat.le_of_ble_eq_true rfl, Nat.le_of_ble_eq_true rfl, Nat.le_of_ble_eq_true rfl⟩ rfl rfl rfl rfl (by decide) ro_nil dX12_strikesActs_41 (fun u hu => ?_)
      obtain ⟨v2_9, bd2_10⟩ := u
      have g_11 : AG bd2_7 v2_6 [1] bd2_10 v2_9 := hu
      show V x cX12_strikesActs RX12 2 (rmU 2 42 0 0) [(h, co 12 (mO ad v2_9)), ((ad 20), cn 0 20 bd2_10)] 44 [(0, ar h), (1, ai x0)] [ai (x0 + v2_6 23)] 0 0
      have g2 := g_11
      have g2l := AG_len g2
      have g2k := g2.2.2.1
      have g2n := g2.2.2.2.1
      have g2v := g2.2.2.2.2
      try simp only [List.length_cons, List.length_nil] at g2l
      refine v_aload_n (pc := 44) 0 rfl dX12_strikesActs_44 ?_
      refine v_get (pc := 45) (v := ai (v2_9 23)) 23 (Or.inr ⟨0, rfl⟩) fl_12_252_12 rfl dX12_strikesActs_45 ?_
      refine v_ixor (pc := 48) (c := (kXor (x0 + v2_6 23) (v2_9 23))) (kXor_I _ _) dX12_strikesActs_48 ?_
      exact hret (v2_9, bd2_10) _ _ _ _ _ _ (by (have q := AG_app g1 g2; unfold bS; rw [if_neg (by omega), if_pos (by omega)]; exact q)) (congrArg (fun z => some (ai z)) (by unfold aStr; rw [if_neg (by omega), if_pos (by omega), g2n, g1n])) rfl (Nat.le_of_ble_eq_true rfl) (Nat.le_of_ble_eq_true rfl) dX12_strikesActs_49
  · skip
    refine v_aload_n (pc := 11) 0 rfl dX12_strikesActs_11 ?_
    refine v_bipush (pc := 12) dX12_strikesActs_12 (by decide) ?_
    refine v_callV (pc := 14) [0, 1] [] [] (As := [ai 11]) (rest := []) (c_X12_ranBody ad v h bd 11 (by first | omega | assumption)) (c := 12) rfl (Or.inr ⟨0, rfl⟩) wl_X12_249 wi_X12_ranBody wv_X12_X12_ranBody_X12_ranBody wk_X12_ranBody wz_X12 md_X12_ranBody rfl (Nat.le_of_ble_eq_true rfl) ⟨Nat.le_of_ble_eq_true rfl, Nat.le_of_ble_eq_true rfl, Nat.le_of_ble_eq_true rfl, Nat.le_of_ble_eq_true rfl⟩ rfl rfl rfl rfl (by decide) ro_nil dX12_strikesActs_14 (fun u hu => ?_)
    obtain ⟨v2_12, bd2_13⟩ := u
    have g_14 : AG bd v [11] bd2_13 v2_12 := hu
    show V x cX12_strikesActs RX12 2 (rmU 2 42 0 0) [(h, co 12 (mO ad v2_12)), ((ad 20), cn 0 20 bd2_13)] 17 [(0, ar h), (1, ai x0)] [] 0 0
    have g1 := g_14
    have g1l := AG_len g1
    have g1k := g1.2.2.1
    have g1n := g1.2.2.2.1
    have g1v := g1.2.2.2.2
    try simp only [List.length_cons, List.length_nil] at g1l
    refine v_aload_n (pc := 17) 0 rfl dX12_strikesActs_17 ?_
    refine v_iload_n (pc := 18) 1 rfl dX12_strikesActs_18 ?_
    refine v_iconst (pc := 19) dX12_strikesActs_19 ?_
    refine v_imul (pc := 20) dX12_strikesActs_20 ?_
    refine v_callV (pc := 21) [0, 1] [] [] (As := [ai (x0 * 3)]) (rest := []) (c_X12_plainStrikes ad v2_12 h bd2_13 (x0 * 3) (by first | omega | assumption)) (c := 12) rfl (Or.inr ⟨0, rfl⟩) wl_X12_261 wi_X12_plainStrikes wv_X12_X12_plainStrikes_X12_plainStrikes wk_X12_plainStrikes wz_X12 md_X12_plainStrikes rfl (Nat.le_of_ble_eq_true rfl) ⟨Nat.le_of_ble_eq_true rfl, Nat.le_of_ble_eq_true rfl, Nat.le_of_ble_eq_true rfl, Nat.le_of_ble_eq_true rfl⟩ rfl rfl rfl rfl (by decide) ro_nil dX12_strikesActs_21 (fun u hu => ?_)
    obtain ⟨v2_15, bd2_16⟩ := u
    have g_17 : AG bd2_13 v2_12 [1] bd2_16 v2_15 := hu
    show V x cX12_strikesActs RX12 2 (rmU 2 42 0 0) [(h, co 12 (mO ad v2_15)), ((ad 20), cn 0 20 bd2_16)] 24 [(0, ar h), (1, ai x0)] [ai ((x0 * 3) + v2_12 23)] 0 0
    have g2 := g_17
    have g2l := AG_len g2
    have g2k := g2.2.2.1
    have g2n := g2.2.2.2.1
    have g2v := g2.2.2.2.2
    try simp only [List.length_cons, List.length_nil] at g2l
    exact hret (v2_15, bd2_16) _ _ _ _ _ _ (by (have q := AG_app g1 g2; unfold bS; rw [if_pos (by omega)]; exact q)) (congrArg (fun z => some (ai z)) (by unfold aStr; rw [if_pos (by omega)]; omega)) rfl (Nat.le_of_ble_eq_true rfl) (Nat.le_of_ble_eq_true rfl) dX12_strikesActs_24
set_option maxHeartbeats 4000000 in
set_option maxRecDepth 100000 in
theorem c_X12_plainCatches {gS : sG} (ad : Nat → Nat) (v : Nat → Int) (h : Nat) (bd : Int → Int) (x0 : Int) (hran : 0 ≤ v 21 ∧ v 21 ≤ 45) (hkd : 0 ≤ v 22 ∧ v 22 ≤ 6) : Ct gS (S := (Nat → Int) × (Int → Int)) yX12_plainCatches cX12_plainCatches 2 (some .int) 3 63 0 0 [ar h, ai x0] [(h, co 12 (mO ad v)), ((ad 20), cn 0 20 bd)] (fun q => q ∈ ([] : aW)) (fun u => AG bd v (2 :: bS (v 22)) u.2 u.1) (fun u => some (ai (aPC (v 22) (v 23) (v 24) x0))) (fun u => [(h, co 12 (mO ad u.1)), ((ad 20), cn 0 20 u.2)]) := by
  refine ct_I RX12 [(0, ar h), (1, ai x0)] (by decide) rfl (Nat.le_of_ble_eq_true rfl) rfl (fun x hgS hro hret => ?_)
  subst hgS
  have hbl := bS_len (v 22)
  show V x cX12_plainCatches RX12 2 (rmU 3 63 0 0) [(h, co 12 (mO ad v)), ((ad 20), cn 0 20 bd)] 0 [(0, ar h), (1, ai x0)] [] 0 0
  refine v_aload_n (pc := 0) 0 rfl dX12_plainCatches_0 ?_
  refine v_iconst (pc := 1) dX12_plainCatches_1 ?_
  refine v_callV (pc := 2) [0, 1] [] [] (As := [ai 2]) (rest := []) (c_X12_ranBody ad v h bd 2 (by first | omega | assumption)) (c := 12) rfl (Or.inr ⟨0, rfl⟩) wl_X12_249 wi_X12_ranBody wv_X12_X12_ranBody_X12_ranBody wk_X12_ranBody wz_X12 md_X12_ranBody rfl (Nat.le_of_ble_eq_true rfl) ⟨Nat.le_of_ble_eq_true rfl, Nat.le_of_ble_eq_true rfl, Nat.le_of_ble_eq_true rfl, Nat.le_of_ble_eq_true rfl⟩ rfl rfl rfl rfl (by decide) ro_nil dX12_plainCatches_2 (fun u hu => ?_)
  obtain ⟨v2_1, bd2_2⟩ := u
  have g_3 : AG bd v [2] bd2_2 v2_1 := hu
  show V x cX12_plainCatches RX12 2 (rmU 3 63 0 0) [(h, co 12 (mO ad v2_1)), ((ad 20), cn 0 20 bd2_2)] 5 [(0, ar h), (1, ai x0)] [] 0 0
  have g1 := g_3
  have g1l := AG_len g1
  have g1k := g1.2.2.1
  have g1n := g1.2.2.2.1
  have g1v := g1.2.2.2.2
  try simp only [List.length_cons, List.length_nil] at g1l
  refine v_aload_n (pc := 5) 0 rfl dX12_plainCatches_5 ?_
  refine v_iload_n (pc := 6) 1 rfl dX12_plainCatches_6 ?_
  refine v_callV (pc := 7) [0, 1] [] [] (As := [ai x0]) (rest := []) (c_X12_strikesActs ad v2_1 h bd2_2 x0 (by first | omega | assumption) (by first | omega | assumption)) (c := 12) rfl (Or.inr ⟨0, rfl⟩) wl_X12_264 wi_X12_strikesActs wv_X12_X12_strikesActs_X12_strikesActs wk_X12_strikesActs wz_X12 md_X12_strikesActs rfl (Nat.le_of_ble_eq_true rfl) ⟨Nat.le_of_ble_eq_true rfl, Nat.le_of_ble_eq_true rfl, Nat.le_of_ble_eq_true rfl, Nat.le_of_ble_eq_true rfl⟩ rfl rfl rfl rfl (by decide) ro_nil dX12_plainCatches_7 (fun u hu => ?_)
  obtain ⟨v2_4, bd2_5⟩ := u
  have g_6 : AG bd2_2 v2_1 (bS (v2_1 22)) bd2_5 v2_4 := hu
  show V x cX12_plainCatches RX12 2 (rmU 3 63 0 0) [(h, co 12 (mO ad v2_4)), ((ad 20), cn 0 20 bd2_5)] 10 [(0, ar h), (1, ai x0)] [ai (aStr (v2_1 22) (v2_1 23) x0)] 0 0
  have g2 := g_6
  have g2l := AG_len g2
  have g2k := g2.2.2.1
  have g2n := g2.2.2.2.1
  have g2v := g2.2.2.2.2
  try simp only [List.length_cons, List.length_nil] at g2l
  refine v_aload_n (pc := 10) 0 rfl dX12_plainCatches_10 ?_
  refine v_get (pc := 11) (v := ai (v2_4 24)) 24 (Or.inr ⟨0, rfl⟩) fl_12_267_12 rfl dX12_plainCatches_11 ?_
  refine v_isub (pc := 14) dX12_plainCatches_14 ?_
  exact hret (v2_4, bd2_5) _ _ _ _ _ _ (by (have q := AG_app g1 g2; rw [g1k] at q; exact q)) (congrArg (fun z => some (ai z)) (by unfold aPC; rw [g2v, g1v, g1k, g1n])) rfl (Nat.le_of_ble_eq_true rfl) (Nat.le_of_ble_eq_true rfl) dX12_plainCatches_15
set_option maxHeartbeats 4000000 in
set_option maxRecDepth 100000 in
theorem c_X12_catchesActs {gS : sG} (ad : Nat → Nat) (v : Nat → Int) (h : Nat) (bd : Int → Int) (x0 : Int) (hran : 0 ≤ v 21 ∧ v 21 ≤ 40) (hkd : 0 ≤ v 22 ∧ v 22 ≤ 6) : Ct gS (S := (Nat → Int) × (Int → Int)) yX12_catchesActs cX12_catchesActs 2 (some .int) 4 84 0 0 [ar h, ai x0] [(h, co 12 (mO ad v)), ((ad 20), cn 0 20 bd)] (fun q => q ∈ ([] : aW)) (fun u => AG bd v (bC (v 22)) u.2 u.1) (fun u => some (ai (aCt (v 22) (v 23) (v 24) x0))) (fun u => [(h, co 12 (mO ad u.1)), ((ad 20), cn 0 20 u.2)]) := by
  refine ct_I RX12 [(0, ar h), (1, ai x0)] (by decide) rfl (Nat.le_of_ble_eq_true rfl) rfl (fun x hgS hro hret => ?_)
  subst hgS
  have hbl := bS_len (v 22)
  show V x cX12_catchesActs RX12 2 (rmU 4 84 0 0) [(h, co 12 (mO ad v)), ((ad 20), cn 0 20 bd)] 0 [(0, ar h), (1, ai x0)] [] 0 0
  refine v_aload_n (pc := 0) 0 rfl dX12_catchesActs_0 ?_
  refine v_get (pc := 1) (v := ai (v 22)) 22 (Or.inr ⟨0, rfl⟩) fl_12_255_12 rfl dX12_catchesActs_1 ?_
  refine v_iconst (pc := 4) dX12_catchesActs_4 ?_
  refine v_callS (pc := 5) [] [0, 1] [(h, co 12 (mO ad v)), ((ad 20), cn 0 20 bd)] (As := [ai (v 22), ai 2]) (rest := []) (c_X12_isUnder (v 22) 2 (by first | omega | assumption) (by first | omega | assumption)) wl_X12_258 ws_X12_isUnder wk_X12_isUnder wz_X12 md_X12_isUnder rfl (Nat.le_of_ble_eq_true rfl) ⟨Nat.le_of_ble_eq_true rfl, Nat.le_of_ble_eq_true rfl, Nat.le_of_ble_eq_true rfl, Nat.le_of_ble_eq_true rfl⟩ rfl rfl rfl rfl (by decide) ro_nil dX12_catchesActs_5 (fun u hu => ?_)
  show V x cX12_catchesActs RX12 2 (rmU 4 84 0 0) [(h, co 12 (mO ad v)), ((ad 20), cn 0 20 bd)] 8 [(0, ar h), (1, ai x0)] [ai (if 2 = 0 ∨ 2 = (v 22) ∨ (0 < 2 ∧ 2 < 4 ∧ (v 22) = 2 + 3) then 1 else 0)] 0 0
  refine v_ifb_eq (pc := 8) 24 dX12_catchesActs_8 (by decide) (fun c_1 => ?_) (fun c_1 => ?_)
  · skip
    refine v_aload_n (pc := 24) 0 rfl dX12_catchesActs_24 ?_
    refine v_get (pc := 25) (v := ai (v 22)) 22 (Or.inr ⟨0, rfl⟩) fl_12_255_12 rfl dX12_catchesActs_25 ?_
    refine v_bipush (pc := 28) dX12_catchesActs_28 (by decide) ?_
    refine v_icmp_ne (pc := 30) 50 dX12_catchesActs_30 (by decide) (by unfold iB; omega) (by unfold iB; omega) (fun c_2 => ?_) (fun c_2 => ?_)
    · skip
      refine v_aload_n (pc := 50) 0 rfl dX12_catchesActs_50 ?_
      refine v_iload_n (pc := 51) 1 rfl dX12_catchesActs_51 ?_
      refine v_callV (pc := 52) [0, 1] [] [] (As := [ai x0]) (rest := []) (c_X12_plainCatches ad v h bd x0 (by first | omega | assumption) (by first | omega | assumption)) (c := 12) rfl (Or.inr ⟨0, rfl⟩) wl_X12_270 wi_X12_plainCatches wv_X12_X12_plainCatches_X12_plainCatches wk_X12_plainCatches wz_X12 md_X12_plainCatches rfl (Nat.le_of_ble_eq_true rfl) ⟨Nat.le_of_ble_eq_true rfl, Nat.le_of_ble_eq_true rfl, Nat.le_of_ble_eq_true rfl, Nat.le_of_ble_eq_true rfl⟩ rfl rfl rfl rfl (by decide) ro_nil dX12_catchesActs_52 (fun u hu => ?_)
      obtain ⟨v2_3, bd2_4⟩ := u
      have g_5 : AG bd v (2 :: bS (v 22)) bd2_4 v2_3 := hu
      show V x cX12_catchesActs RX12 2 (rmU 4 84 0 0) [(h, co 12 (mO ad v2_3)), ((ad 20), cn 0 20 bd2_4)] 55 [(0, ar h), (1, ai x0)] [ai (aPC (v 22) (v 23) (v 24) x0)] 0 0
      have g2 := g_5
      have g2l := AG_len g2
      have g2k := g2.2.2.1
      have g2n := g2.2.2.2.1
      have g2v := g2.2.2.2.2
      try simp only [List.length_cons, List.length_nil] at g2l
      exact hret (v2_3, bd2_4) _ _ _ _ _ _ (by (unfold bC; rw [if_neg (by omega), if_neg (by omega)]; exact g2)) (congrArg (fun z => some (ai z)) (by unfold aCt; rw [if_neg (by omega), if_neg (by omega)])) rfl (Nat.le_of_ble_eq_true rfl) (Nat.le_of_ble_eq_true rfl) dX12_catchesActs_55
    · skip
      refine v_aload_n (pc := 33) 0 rfl dX12_catchesActs_33 ?_
      refine v_bipush (pc := 34) dX12_catchesActs_34 (by decide) ?_
      refine v_callV (pc := 36) [0, 1] [] [] (As := [ai 61]) (rest := []) (c_X12_ranBody ad v h bd 61 (by first | omega | assumption)) (c := 12) rfl (Or.inr ⟨0, rfl⟩) wl_X12_249 wi_X12_ranBody wv_X12_X12_ranBody_X12_ranBody wk_X12_ranBody wz_X12 md_X12_ranBody rfl (Nat.le_of_ble_eq_true rfl) ⟨Nat.le_of_ble_eq_true rfl, Nat.le_of_ble_eq_true rfl, Nat.le_of_ble_eq_true rfl, Nat.le_of_ble_eq_true rfl⟩ rfl rfl rfl rfl (by decide) ro_nil dX12_catchesActs_36 (fun u hu => ?_)
      obtain ⟨v2_6, bd2_7⟩ := u
      have g_8 : AG bd v [61] bd2_7 v2_6 := hu
      show V x cX12_catchesActs RX12 2 (rmU 4 84 0 0) [(h, co 12 (mO ad v2_6)), ((ad 20), cn 0 20 bd2_7)] 39 [(0, ar h), (1, ai x0)] [] 0 0
      have g1 := g_8
      have g1l := AG_len g1
      have g1k := g1.2.2.1
      have g1n := g1.2.2.2.1
      have g1v := g1.2.2.2.2
      try simp only [List.length_cons, List.length_nil] at g1l
      refine v_aload_n (pc := 39) 0 rfl dX12_catchesActs_39 ?_
      refine v_iload_n (pc := 40) 1 rfl dX12_catchesActs_40 ?_
      refine v_callV (pc := 41) [0, 1] [] [] (As := [ai x0]) (rest := []) (c_X12_plainCatches ad v2_6 h bd2_7 x0 (by first | omega | assumption) (by first | omega | assumption)) (c := 12) rfl (Or.inr ⟨0, rfl⟩) wl_X12_270 wi_X12_plainCatches wv_X12_X12_plainCatches_X12_plainCatches wk_X12_plainCatches wz_X12 md_X12_plainCatches rfl (Nat.le_of_ble_eq_true rfl) ⟨Nat.le_of_ble_eq_true rfl, Nat.le_of_ble_eq_true rfl, Nat.le_of_ble_eq_true rfl, Nat.le_of_ble_eq_true rfl⟩ rfl rfl rfl rfl (by decide) ro_nil dX12_catchesActs_41 (fun u hu => ?_)
      obtain ⟨v2_9, bd2_10⟩ := u
      have g_11 : AG bd2_7 v2_6 (2 :: bS (v2_6 22)) bd2_10 v2_9 := hu
      show V x cX12_catchesActs RX12 2 (rmU 4 84 0 0) [(h, co 12 (mO ad v2_9)), ((ad 20), cn 0 20 bd2_10)] 44 [(0, ar h), (1, ai x0)] [ai (aPC (v2_6 22) (v2_6 23) (v2_6 24) x0)] 0 0
      have g2 := g_11
      have g2l := AG_len g2
      have g2k := g2.2.2.1
      have g2n := g2.2.2.2.1
      have g2v := g2.2.2.2.2
      try simp only [List.length_cons, List.length_nil] at g2l
      refine v_aload_n (pc := 44) 0 rfl dX12_catchesActs_44 ?_
      refine v_get (pc := 45) (v := ai (v2_9 24)) 24 (Or.inr ⟨0, rfl⟩) fl_12_267_12 rfl dX12_catchesActs_45 ?_
      refine v_iadd (pc := 48) dX12_catchesActs_48 ?_
      exact hret (v2_9, bd2_10) _ _ _ _ _ _ (by (have q := AG_app g1 g2; rw [g1k] at q; unfold bC; rw [if_neg (by omega), if_pos (by omega)]; exact q)) (congrArg (fun z => some (ai z)) (by unfold aCt; rw [if_neg (by omega), if_pos (by omega), g2v, g1k, g1n, g1v])) rfl (Nat.le_of_ble_eq_true rfl) (Nat.le_of_ble_eq_true rfl) dX12_catchesActs_49
  · skip
    refine v_aload_n (pc := 11) 0 rfl dX12_catchesActs_11 ?_
    refine v_bipush (pc := 12) dX12_catchesActs_12 (by decide) ?_
    refine v_callV (pc := 14) [0, 1] [] [] (As := [ai 21]) (rest := []) (c_X12_ranBody ad v h bd 21 (by first | omega | assumption)) (c := 12) rfl (Or.inr ⟨0, rfl⟩) wl_X12_249 wi_X12_ranBody wv_X12_X12_ranBody_X12_ranBody wk_X12_ranBody wz_X12 md_X12_ranBody rfl (Nat.le_of_ble_eq_true rfl) ⟨Nat.le_of_ble_eq_true rfl, Nat.le_of_ble_eq_true rfl, Nat.le_of_ble_eq_true rfl, Nat.le_of_ble_eq_true rfl⟩ rfl rfl rfl rfl (by decide) ro_nil dX12_catchesActs_14 (fun u hu => ?_)
    obtain ⟨v2_12, bd2_13⟩ := u
    have g_14 : AG bd v [21] bd2_13 v2_12 := hu
    show V x cX12_catchesActs RX12 2 (rmU 4 84 0 0) [(h, co 12 (mO ad v2_12)), ((ad 20), cn 0 20 bd2_13)] 17 [(0, ar h), (1, ai x0)] [] 0 0
    have g1 := g_14
    have g1l := AG_len g1
    have g1k := g1.2.2.1
    have g1n := g1.2.2.2.1
    have g1v := g1.2.2.2.2
    try simp only [List.length_cons, List.length_nil] at g1l
    refine v_aload_n (pc := 17) 0 rfl dX12_catchesActs_17 ?_
    refine v_iload_n (pc := 18) 1 rfl dX12_catchesActs_18 ?_
    refine v_callV (pc := 19) [0, 1] [] [] (As := [ai x0]) (rest := []) (c_X12_plainCatches ad v2_12 h bd2_13 x0 (by first | omega | assumption) (by first | omega | assumption)) (c := 12) rfl (Or.inr ⟨0, rfl⟩) wl_X12_270 wi_X12_plainCatches wv_X12_X12_plainCatches_X12_plainCatches wk_X12_plainCatches wz_X12 md_X12_plainCatches rfl (Nat.le_of_ble_eq_true rfl) ⟨Nat.le_of_ble_eq_true rfl, Nat.le_of_ble_eq_true rfl, Nat.le_of_ble_eq_true rfl, Nat.le_of_ble_eq_true rfl⟩ rfl rfl rfl rfl (by decide) ro_nil dX12_catchesActs_19 (fun u hu => ?_)
    obtain ⟨v2_15, bd2_16⟩ := u
    have g_17 : AG bd2_13 v2_12 (2 :: bS (v2_12 22)) bd2_16 v2_15 := hu
    show V x cX12_catchesActs RX12 2 (rmU 4 84 0 0) [(h, co 12 (mO ad v2_15)), ((ad 20), cn 0 20 bd2_16)] 22 [(0, ar h), (1, ai x0)] [ai (aPC (v2_12 22) (v2_12 23) (v2_12 24) x0)] 0 0
    have g2 := g_17
    have g2l := AG_len g2
    have g2k := g2.2.2.1
    have g2n := g2.2.2.2.1
    have g2v := g2.2.2.2.2
    try simp only [List.length_cons, List.length_nil] at g2l
    refine v_ineg (pc := 22) dX12_catchesActs_22 ?_
    exact hret (v2_15, bd2_16) _ _ _ _ _ _ (by (have q := AG_app g1 g2; rw [g1k] at q; unfold bC; rw [if_pos (by omega)]; exact q)) (congrArg (fun z => some (ai z)) (by unfold aCt; rw [if_pos (by omega), g1k, g1n, g1v])) rfl (Nat.le_of_ble_eq_true rfl) (Nat.le_of_ble_eq_true rfl) dX12_catchesActs_23
set_option maxHeartbeats 4000000 in
set_option maxRecDepth 100000 in
theorem c_X12_plainTells {gS : sG} (ad : Nat → Nat) (v : Nat → Int) (h : Nat) (bd : Int → Int) (x0 : Int) (hran : 0 ≤ v 21 ∧ v 21 ≤ 35) (hkd : 0 ≤ v 22 ∧ v 22 ≤ 6) : Ct gS (S := (Nat → Int) × (Int → Int)) yX12_plainTells cX12_plainTells 2 (some .int) 5 105 0 0 [ar h, ai x0] [(h, co 12 (mO ad v)), ((ad 20), cn 0 20 bd)] (fun q => q ∈ ([] : aW)) (fun u => AG bd v (3 :: bC (v 22)) u.2 u.1) (fun u => some (ai (aPT (v 22) (v 23) (v 24) x0))) (fun u => [(h, co 12 (mO ad u.1)), ((ad 20), cn 0 20 u.2)]) := by
  refine ct_I RX12 [(0, ar h), (1, ai x0)] (by decide) rfl (Nat.le_of_ble_eq_true rfl) rfl (fun x hgS hro hret => ?_)
  subst hgS
  have hbl := bC_len (v 22)
  show V x cX12_plainTells RX12 2 (rmU 5 105 0 0) [(h, co 12 (mO ad v)), ((ad 20), cn 0 20 bd)] 0 [(0, ar h), (1, ai x0)] [] 0 0
  refine v_aload_n (pc := 0) 0 rfl dX12_plainTells_0 ?_
  refine v_iconst (pc := 1) dX12_plainTells_1 ?_
  refine v_callV (pc := 2) [0, 1] [] [] (As := [ai 3]) (rest := []) (c_X12_ranBody ad v h bd 3 (by first | omega | assumption)) (c := 12) rfl (Or.inr ⟨0, rfl⟩) wl_X12_249 wi_X12_ranBody wv_X12_X12_ranBody_X12_ranBody wk_X12_ranBody wz_X12 md_X12_ranBody rfl (Nat.le_of_ble_eq_true rfl) ⟨Nat.le_of_ble_eq_true rfl, Nat.le_of_ble_eq_true rfl, Nat.le_of_ble_eq_true rfl, Nat.le_of_ble_eq_true rfl⟩ rfl rfl rfl rfl (by decide) ro_nil dX12_plainTells_2 (fun u hu => ?_)
  obtain ⟨v2_1, bd2_2⟩ := u
  have g_3 : AG bd v [3] bd2_2 v2_1 := hu
  show V x cX12_plainTells RX12 2 (rmU 5 105 0 0) [(h, co 12 (mO ad v2_1)), ((ad 20), cn 0 20 bd2_2)] 5 [(0, ar h), (1, ai x0)] [] 0 0
  have g1 := g_3
  have g1l := AG_len g1
  have g1k := g1.2.2.1
  have g1n := g1.2.2.2.1
  have g1v := g1.2.2.2.2
  try simp only [List.length_cons, List.length_nil] at g1l
  refine v_aload_n (pc := 5) 0 rfl dX12_plainTells_5 ?_
  refine v_iload_n (pc := 6) 1 rfl dX12_plainTells_6 ?_
  refine v_callV (pc := 7) [0, 1] [] [] (As := [ai x0]) (rest := []) (c_X12_catchesActs ad v2_1 h bd2_2 x0 (by first | omega | assumption) (by first | omega | assumption)) (c := 12) rfl (Or.inr ⟨0, rfl⟩) wl_X12_273 wi_X12_catchesActs wv_X12_X12_catchesActs_X12_catchesActs wk_X12_catchesActs wz_X12 md_X12_catchesActs rfl (Nat.le_of_ble_eq_true rfl) ⟨Nat.le_of_ble_eq_true rfl, Nat.le_of_ble_eq_true rfl, Nat.le_of_ble_eq_true rfl, Nat.le_of_ble_eq_true rfl⟩ rfl rfl rfl rfl (by decide) ro_nil dX12_plainTells_7 (fun u hu => ?_)
  obtain ⟨v2_4, bd2_5⟩ := u
  have g_6 : AG bd2_2 v2_1 (bC (v2_1 22)) bd2_5 v2_4 := hu
  show V x cX12_plainTells RX12 2 (rmU 5 105 0 0) [(h, co 12 (mO ad v2_4)), ((ad 20), cn 0 20 bd2_5)] 10 [(0, ar h), (1, ai x0)] [ai (aCt (v2_1 22) (v2_1 23) (v2_1 24) x0)] 0 0
  have g2 := g_6
  have g2l := AG_len g2
  have g2k := g2.2.2.1
  have g2n := g2.2.2.2.1
  have g2v := g2.2.2.2.2
  try simp only [List.length_cons, List.length_nil] at g2l
  refine v_iconst (pc := 10) dX12_plainTells_10 ?_
  refine v_imul (pc := 11) dX12_plainTells_11 ?_
  exact hret (v2_4, bd2_5) _ _ _ _ _ _ (by (have q := AG_app g1 g2; rw [g1k] at q; exact q)) (congrArg (fun z => some (ai z)) (by unfold aPT; rw [g1v, g1k, g1n])) rfl (Nat.le_of_ble_eq_true rfl) (Nat.le_of_ble_eq_true rfl) dX12_plainTells_12
set_option maxHeartbeats 4000000 in
set_option maxRecDepth 100000 in
theorem c_X12_tellsActs {gS : sG} (ad : Nat → Nat) (v : Nat → Int) (h : Nat) (bd : Int → Int) (x0 : Int) (hran : 0 ≤ v 21 ∧ v 21 ≤ 20) (hkd : 0 ≤ v 22 ∧ v 22 ≤ 6) : Ct gS (S := (Nat → Int) × (Int → Int)) yX12_tellsActs cX12_tellsActs 3 (some .int) 6 126 0 0 [ar h, ai x0] [(h, co 12 (mO ad v)), ((ad 20), cn 0 20 bd)] (fun q => q ∈ ([] : aW)) (fun u => AG bd v (bT (v 22)) u.2 u.1) (fun u => some (ai (aTl (v 22) (v 23) (v 24) x0))) (fun u => [(h, co 12 (mO ad u.1)), ((ad 20), cn 0 20 u.2)]) := by
  refine ct_I RX12 [(0, ar h), (1, ai x0)] (by decide) rfl (Nat.le_of_ble_eq_true rfl) rfl (fun x hgS hro hret => ?_)
  subst hgS
  have hbl := bC_len (v 22)
  show V x cX12_tellsActs RX12 3 (rmU 6 126 0 0) [(h, co 12 (mO ad v)), ((ad 20), cn 0 20 bd)] 0 [(0, ar h), (1, ai x0)] [] 0 0
  refine v_aload_n (pc := 0) 0 rfl dX12_tellsActs_0 ?_
  refine v_get (pc := 1) (v := ai (v 22)) 22 (Or.inr ⟨0, rfl⟩) fl_12_255_12 rfl dX12_tellsActs_1 ?_
  refine v_iconst (pc := 4) dX12_tellsActs_4 ?_
  refine v_callS (pc := 5) [] [0, 1] [(h, co 12 (mO ad v)), ((ad 20), cn 0 20 bd)] (As := [ai (v 22), ai 3]) (rest := []) (c_X12_isUnder (v 22) 3 (by first | omega | assumption) (by first | omega | assumption)) wl_X12_258 ws_X12_isUnder wk_X12_isUnder wz_X12 md_X12_isUnder rfl (Nat.le_of_ble_eq_true rfl) ⟨Nat.le_of_ble_eq_true rfl, Nat.le_of_ble_eq_true rfl, Nat.le_of_ble_eq_true rfl, Nat.le_of_ble_eq_true rfl⟩ rfl rfl rfl rfl (by decide) ro_nil dX12_tellsActs_5 (fun u hu => ?_)
  show V x cX12_tellsActs RX12 3 (rmU 6 126 0 0) [(h, co 12 (mO ad v)), ((ad 20), cn 0 20 bd)] 8 [(0, ar h), (1, ai x0)] [ai (if 3 = 0 ∨ 3 = (v 22) ∨ (0 < 3 ∧ 3 < 4 ∧ (v 22) = 3 + 3) then 1 else 0)] 0 0
  refine v_ifb_eq (pc := 8) 26 dX12_tellsActs_8 (by decide) (fun c_1 => ?_) (fun c_1 => ?_)
  · skip
    refine v_aload_n (pc := 26) 0 rfl dX12_tellsActs_26 ?_
    refine v_get (pc := 27) (v := ai (v 22)) 22 (Or.inr ⟨0, rfl⟩) fl_12_255_12 rfl dX12_tellsActs_27 ?_
    refine v_iconst (pc := 30) dX12_tellsActs_30 ?_
    refine v_icmp_ne (pc := 31) 56 dX12_tellsActs_31 (by decide) (by unfold iB; omega) (by unfold iB; omega) (fun c_2 => ?_) (fun c_2 => ?_)
    · skip
      refine v_aload_n (pc := 56) 0 rfl dX12_tellsActs_56 ?_
      refine v_iload_n (pc := 57) 1 rfl dX12_tellsActs_57 ?_
      refine v_callV (pc := 58) [0, 1] [] [] (As := [ai x0]) (rest := []) (c_X12_plainTells ad v h bd x0 (by first | omega | assumption) (by first | omega | assumption)) (c := 12) rfl (Or.inr ⟨0, rfl⟩) wl_X12_276 wi_X12_plainTells wv_X12_X12_plainTells_X12_plainTells wk_X12_plainTells wz_X12 md_X12_plainTells rfl (Nat.le_of_ble_eq_true rfl) ⟨Nat.le_of_ble_eq_true rfl, Nat.le_of_ble_eq_true rfl, Nat.le_of_ble_eq_true rfl, Nat.le_of_ble_eq_true rfl⟩ rfl rfl rfl rfl (by decide) ro_nil dX12_tellsActs_58 (fun u hu => ?_)
      obtain ⟨v2_3, bd2_4⟩ := u
      have g_5 : AG bd v (3 :: bC (v 22)) bd2_4 v2_3 := hu
      show V x cX12_tellsActs RX12 3 (rmU 6 126 0 0) [(h, co 12 (mO ad v2_3)), ((ad 20), cn 0 20 bd2_4)] 61 [(0, ar h), (1, ai x0)] [ai (aPT (v 22) (v 23) (v 24) x0)] 0 0
      have g2 := g_5
      have g2l := AG_len g2
      have g2k := g2.2.2.1
      have g2n := g2.2.2.2.1
      have g2v := g2.2.2.2.2
      try simp only [List.length_cons, List.length_nil] at g2l
      exact hret (v2_3, bd2_4) _ _ _ _ _ _ (by (unfold bT; rw [if_neg (by omega), if_neg (by omega)]; exact g2)) (congrArg (fun z => some (ai z)) (by unfold aTl; rw [if_neg (by omega), if_neg (by omega)])) rfl (Nat.le_of_ble_eq_true rfl) (Nat.le_of_ble_eq_true rfl) dX12_tellsActs_61
    · skip
      refine v_aload_n (pc := 34) 0 rfl dX12_tellsActs_34 ?_
      refine v_bipush (pc := 35) dX12_tellsActs_35 (by decide) ?_
      refine v_callV (pc := 37) [0, 1] [] [] (As := [ai 41]) (rest := []) (c_X12_ranBody ad v h bd 41 (by first | omega | assumption)) (c := 12) rfl (Or.inr ⟨0, rfl⟩) wl_X12_249 wi_X12_ranBody wv_X12_X12_ranBody_X12_ranBody wk_X12_ranBody wz_X12 md_X12_ranBody rfl (Nat.le_of_ble_eq_true rfl) ⟨Nat.le_of_ble_eq_true rfl, Nat.le_of_ble_eq_true rfl, Nat.le_of_ble_eq_true rfl, Nat.le_of_ble_eq_true rfl⟩ rfl rfl rfl rfl (by decide) ro_nil dX12_tellsActs_37 (fun u hu => ?_)
      obtain ⟨v2_6, bd2_7⟩ := u
      have g_8 : AG bd v [41] bd2_7 v2_6 := hu
      show V x cX12_tellsActs RX12 3 (rmU 6 126 0 0) [(h, co 12 (mO ad v2_6)), ((ad 20), cn 0 20 bd2_7)] 40 [(0, ar h), (1, ai x0)] [] 0 0
      have g1 := g_8
      have g1l := AG_len g1
      have g1k := g1.2.2.1
      have g1n := g1.2.2.2.1
      have g1v := g1.2.2.2.2
      try simp only [List.length_cons, List.length_nil] at g1l
      refine v_aload_n (pc := 40) 0 rfl dX12_tellsActs_40 ?_
      refine v_iload_n (pc := 41) 1 rfl dX12_tellsActs_41 ?_
      refine v_iconst (pc := 42) dX12_tellsActs_42 ?_
      refine v_isub (pc := 43) dX12_tellsActs_43 ?_
      refine v_callV (pc := 44) [0, 1] [] [] (As := [ai (x0 - 1)]) (rest := []) (c_X12_plainTells ad v2_6 h bd2_7 (x0 - 1) (by first | omega | assumption) (by first | omega | assumption)) (c := 12) rfl (Or.inr ⟨0, rfl⟩) wl_X12_276 wi_X12_plainTells wv_X12_X12_plainTells_X12_plainTells wk_X12_plainTells wz_X12 md_X12_plainTells rfl (Nat.le_of_ble_eq_true rfl) ⟨Nat.le_of_ble_eq_true rfl, Nat.le_of_ble_eq_true rfl, Nat.le_of_ble_eq_true rfl, Nat.le_of_ble_eq_true rfl⟩ rfl rfl rfl rfl (by decide) ro_nil dX12_tellsActs_44 (fun u hu => ?_)
      obtain ⟨v2_9, bd2_10⟩ := u
      have g_11 : AG bd2_7 v2_6 (3 :: bC (v2_6 22)) bd2_10 v2_9 := hu
      show V x cX12_tellsActs RX12 3 (rmU 6 126 0 0) [(h, co 12 (mO ad v2_9)), ((ad 20), cn 0 20 bd2_10)] 47 [(0, ar h), (1, ai x0)] [ai (aPT (v2_6 22) (v2_6 23) (v2_6 24) (x0 - 1))] 0 0
      have g2 := g_11
      have g2l := AG_len g2
      have g2k := g2.2.2.1
      have g2n := g2.2.2.2.1
      have g2v := g2.2.2.2.2
      try simp only [List.length_cons, List.length_nil] at g2l
      rw [g1k] at g2l
      refine v_istore_n (pc := 47) (L2 := [(2, ai (aPT (v2_6 22) (v2_6 23) (v2_6 24) (x0 - 1))), (0, ar h), (1, ai x0)]) rfl (by decide) dX12_tellsActs_47 ?_
      refine v_iload_n (pc := 48) 0 rfl dX12_tellsActs_48 ?_
      refine v_aload_n (pc := 49) 1 rfl dX12_tellsActs_49 ?_
      refine v_iconst (pc := 50) dX12_tellsActs_50 ?_
      refine v_callV (pc := 51) [0, 1] [] [] (As := [ai 2]) (rest := [ai (aPT (v2_6 22) (v2_6 23) (v2_6 24) (x0 - 1))]) (c_X12_strikesActs ad v2_9 h bd2_10 2 (by first | omega | assumption) (by first | omega | assumption)) (c := 12) rfl (Or.inr ⟨0, rfl⟩) wl_X12_264 wi_X12_strikesActs wv_X12_X12_strikesActs_X12_strikesActs wk_X12_strikesActs wz_X12 md_X12_strikesActs rfl (Nat.le_of_ble_eq_true rfl) ⟨Nat.le_of_ble_eq_true rfl, Nat.le_of_ble_eq_true rfl, Nat.le_of_ble_eq_true rfl, Nat.le_of_ble_eq_true rfl⟩ rfl rfl rfl rfl (by decide) ro_nil dX12_tellsActs_51 (fun u hu => ?_)
      obtain ⟨v2_12, bd2_13⟩ := u
      have g_14 : AG bd2_10 v2_9 (bS (v2_9 22)) bd2_13 v2_12 := hu
      show V x cX12_tellsActs RX12 3 (rmU 6 126 0 0) [(h, co 12 (mO ad v2_12)), ((ad 20), cn 0 20 bd2_13)] 54 [(2, ai (aPT (v2_6 22) (v2_6 23) (v2_6 24) (x0 - 1))), (0, ar h), (1, ai x0)] [ai (aStr (v2_9 22) (v2_9 23) 2), ai (aPT (v2_6 22) (v2_6 23) (v2_6 24) (x0 - 1))] 0 0
      have g3 := g_14
      have g3l := AG_len g3
      have g3k := g3.2.2.1
      have g3n := g3.2.2.2.1
      have g3v := g3.2.2.2.2
      try simp only [List.length_cons, List.length_nil] at g3l
      refine v_iadd (pc := 54) dX12_tellsActs_54 ?_
      exact hret (v2_12, bd2_13) _ _ _ _ _ _ (by (have q := AG_app (AG_app g1 g2) g3; rw [g2k, g1k] at q; unfold bT; rw [if_neg (by omega), if_pos (by omega)]; exact q)) (congrArg (fun z => some (ai z)) (by unfold aTl; rw [if_neg (by omega), if_pos (by omega), g2k, g2n, g1k, g1n, g1v])) rfl (Nat.le_of_ble_eq_true rfl) (Nat.le_of_ble_eq_true rfl) dX12_tellsActs_55
  · skip
    refine v_aload_n (pc := 11) 0 rfl dX12_tellsActs_11 ?_
    refine v_bipush (pc := 12) dX12_tellsActs_12 (by decide) ?_
    refine v_callV (pc := 14) [0, 1] [] [] (As := [ai 31]) (rest := []) (c_X12_ranBody ad v h bd 31 (by first | omega | assumption)) (c := 12) rfl (Or.inr ⟨0, rfl⟩) wl_X12_249 wi_X12_ranBody wv_X12_X12_ranBody_X12_ranBody wk_X12_ranBody wz_X12 md_X12_ranBody rfl (Nat.le_of_ble_eq_true rfl) ⟨Nat.le_of_ble_eq_true rfl, Nat.le_of_ble_eq_true rfl, Nat.le_of_ble_eq_true rfl, Nat.le_of_ble_eq_true rfl⟩ rfl rfl rfl rfl (by decide) ro_nil dX12_tellsActs_14 (fun u hu => ?_)
    obtain ⟨v2_15, bd2_16⟩ := u
    have g_17 : AG bd v [31] bd2_16 v2_15 := hu
    show V x cX12_tellsActs RX12 3 (rmU 6 126 0 0) [(h, co 12 (mO ad v2_15)), ((ad 20), cn 0 20 bd2_16)] 17 [(0, ar h), (1, ai x0)] [] 0 0
    have g1 := g_17
    have g1l := AG_len g1
    have g1k := g1.2.2.1
    have g1n := g1.2.2.2.1
    have g1v := g1.2.2.2.2
    try simp only [List.length_cons, List.length_nil] at g1l
    refine v_aload_n (pc := 17) 0 rfl dX12_tellsActs_17 ?_
    refine v_iload_n (pc := 18) 1 rfl dX12_tellsActs_18 ?_
    refine v_callV (pc := 19) [0, 1] [] [] (As := [ai x0]) (rest := []) (c_X12_plainTells ad v2_15 h bd2_16 x0 (by first | omega | assumption) (by first | omega | assumption)) (c := 12) rfl (Or.inr ⟨0, rfl⟩) wl_X12_276 wi_X12_plainTells wv_X12_X12_plainTells_X12_plainTells wk_X12_plainTells wz_X12 md_X12_plainTells rfl (Nat.le_of_ble_eq_true rfl) ⟨Nat.le_of_ble_eq_true rfl, Nat.le_of_ble_eq_true rfl, Nat.le_of_ble_eq_true rfl, Nat.le_of_ble_eq_true rfl⟩ rfl rfl rfl rfl (by decide) ro_nil dX12_tellsActs_19 (fun u hu => ?_)
    obtain ⟨v2_18, bd2_19⟩ := u
    have g_20 : AG bd2_16 v2_15 (3 :: bC (v2_15 22)) bd2_19 v2_18 := hu
    show V x cX12_tellsActs RX12 3 (rmU 6 126 0 0) [(h, co 12 (mO ad v2_18)), ((ad 20), cn 0 20 bd2_19)] 22 [(0, ar h), (1, ai x0)] [ai (aPT (v2_15 22) (v2_15 23) (v2_15 24) x0)] 0 0
    have g2 := g_20
    have g2l := AG_len g2
    have g2k := g2.2.2.1
    have g2n := g2.2.2.2.1
    have g2v := g2.2.2.2.2
    try simp only [List.length_cons, List.length_nil] at g2l
    refine v_bipush (pc := 22) dX12_tellsActs_22 (by decide) ?_
    refine v_ixor (pc := 24) (c := (kXor (aPT (v2_15 22) (v2_15 23) (v2_15 24) x0) 7)) (kXor_I _ _) dX12_tellsActs_24 ?_
    exact hret (v2_18, bd2_19) _ _ _ _ _ _ (by (have q := AG_app g1 g2; rw [g1k] at q; unfold bT; rw [if_pos (by omega)]; exact q)) (congrArg (fun z => some (ai z)) (by unfold aTl; rw [if_pos (by omega), g1k, g1n, g1v])) rfl (Nat.le_of_ble_eq_true rfl) (Nat.le_of_ble_eq_true rfl) dX12_tellsActs_25
set_option maxHeartbeats 4000000 in
set_option maxRecDepth 100000 in
theorem c_X12_act {gS : sG} (ad : Nat → Nat) (v : Nat → Int) (h : Nat) (f : Int → Int) (bd : Int → Int) (player : Int) (act : Int) (x0 : Int) (hS : SOK f) (hb_player : -2147483648 ≤ player ∧ player < 2147483648) (hb_act : -2147483648 ≤ act ∧ act < 2147483648) (hb_x0 : -2147483648 ≤ x0 ∧ x0 < 2147483648) : Ct gS (S := (Nat → Int) × (Int → Int)) yX12_act cX12_act 4 (some .int) 7 148 0 0 [ar h, ai player, ai act, ai x0] [(h, co 12 (mO ad v)), ((ad 20), cn 0 20 bd)] (fun q => q ∈ ([((ad 1), cn 0 936 f)] : aW)) (fun u => (u.2, u.1 21) = (lAct f player act).foldl rb (bd, 0) ∧ u.1 3 = v 3) (fun u => some (ai (qAct f player act x0))) (fun u => [(h, co 12 (mO ad u.1)), ((ad 20), cn 0 20 u.2)]) := by
  refine ct_I RX12 [(0, ar h), (1, ai player), (2, ai act), (3, ai x0)] (by decide) rfl (Nat.le_of_ble_eq_true rfl) rfl (fun x hgS hro hret => ?_)
  subst hgS
  have r0 := hro _ (mem_at 0 rfl)
  obtain ⟨hg, hSp, hSh, hSs, hSb, hSt, hwf⟩ := id hS
  obtain ⟨hg0, hg1, hg2, hg3, hg4, hg5, hg6, hg7⟩ := id hg
  show V x cX12_act RX12 4 (rmU 7 148 0 0) [(h, co 12 (mO ad v)), ((ad 20), cn 0 20 bd)] 0 [(0, ar h), (1, ai player), (2, ai act), (3, ai x0)] [] 0 0
  refine v_aload_n (pc := 0) 0 rfl dX12_act_0 ?_
  refine v_iconst (pc := 1) dX12_act_1 ?_
  refine v_put (pc := 2) 21 0 rfl fl_12_246_12 ck_12 ft_12_21 (okV_i _) (Nat.le_of_ble_eq_true rfl) (ws2 := [(h, co 12 (mO ad (nup v 21 0))), ((ad 20), cn 0 20 bd)]) rfl dX12_act_2 ?_
  refine v_aload_n (pc := 5) 0 rfl dX12_act_5 ?_
  refine v_iload_n (pc := 6) 1 rfl dX12_act_6 ?_
  refine v_callV (pc := 7) [] [0, 1] [(h, co 12 (mO ad (nup v 21 0))), ((ad 20), cn 0 20 bd)] (As := [ai player]) (rest := []) (c_X12_isPlayer ad (nup v 21 0) h f player (by first | omega | assumption) (by assumption)) (c := 12) rfl (Or.inr ⟨0, rfl⟩) wl_X12_136 wi_X12_isPlayer wv_X12_X12_isPlayer_X12_isPlayer wk_X12_isPlayer wz_X12 md_X12_isPlayer rfl (Nat.le_of_ble_eq_true rfl) ⟨Nat.le_of_ble_eq_true rfl, Nat.le_of_ble_eq_true rfl, Nat.le_of_ble_eq_true rfl, Nat.le_of_ble_eq_true rfl⟩ rfl rfl rfl rfl (by decide) (ro_cons (Or.inr ⟨0, rfl, by decide⟩) (ro_cons (Or.inl r0) ro_nil)) dX12_act_7 (fun u hu => ?_)
  show V x cX12_act RX12 4 (rmU 7 148 0 0) [(h, co 12 (mO ad (nup v 21 0))), ((ad 20), cn 0 20 bd)] 10 [(0, ar h), (1, ai player), (2, ai act), (3, ai x0)] [ai (if 0 ≤ player ∧ player ≤ (f 0) - 1 then 1 else 0)] 0 0
  refine v_ifb_eq (pc := 10) 22 dX12_act_10 (by decide) (fun c_1 => ?_) (fun c_1 => ?_)
  · skip
    refine v_iconst (pc := 22) dX12_act_22 ?_
    exact hret ((nup v 21 0), bd) _ _ _ _ _ _ (by (unfold lAct; rw [if_pos (by omega)]; exact ⟨rfl, rfl⟩)) (congrArg (fun z => some (ai z)) (by unfold qAct; rw [if_pos (by omega)])) rfl (Nat.le_of_ble_eq_true rfl) (Nat.le_of_ble_eq_true rfl) dX12_act_23
  · skip
    refine v_iload_n (pc := 13) 2 rfl dX12_act_13 ?_
    refine v_iconst (pc := 14) dX12_act_14 ?_
    refine v_iconst (pc := 15) dX12_act_15 ?_
    refine v_callS (pc := 16) [] [0, 1] [(h, co 12 (mO ad (nup v 21 0))), ((ad 20), cn 0 20 bd)] (As := [ai act, ai 0, ai 2]) (rest := []) (c_X12_in act 0 2 (by first | omega | assumption) (by first | omega | assumption) (by first | omega | assumption)) wl_X12_41 ws_X12_in wk_X12_in wz_X12 md_X12_in rfl (Nat.le_of_ble_eq_true rfl) ⟨Nat.le_of_ble_eq_true rfl, Nat.le_of_ble_eq_true rfl, Nat.le_of_ble_eq_true rfl, Nat.le_of_ble_eq_true rfl⟩ rfl rfl rfl rfl (by decide) ro_nil dX12_act_16 (fun u hu => ?_)
    show V x cX12_act RX12 4 (rmU 7 148 0 0) [(h, co 12 (mO ad (nup v 21 0))), ((ad 20), cn 0 20 bd)] 19 [(0, ar h), (1, ai player), (2, ai act), (3, ai x0)] [ai (if 0 ≤ act ∧ act ≤ 2 then 1 else 0)] 0 0
    refine v_ifb_ne (pc := 19) 24 dX12_act_19 (by decide) (fun c_2 => ?_) (fun c_2 => ?_)
    · skip
      have hf := hSp player (by omega) (by omega)
      obtain ⟨hp, hf1, hf2, hf3, hf4, hf5, hf6, hf7, hf8⟩ := id hf
      refine v_aload_n (pc := 24) 0 rfl dX12_act_24 ?_
      refine v_aload_n (pc := 25) 0 rfl dX12_act_25 ?_
      refine v_get (pc := 26) (v := ar (ad 1)) 1 (Or.inr ⟨0, rfl⟩) fl_12_9_12 rfl dX12_act_26 ?_
      refine v_bipush (pc := 29) dX12_act_29 (by decide) ?_
      refine v_iload_n (pc := 31) 1 rfl dX12_act_31 ?_
      refine v_iadd (pc := 32) dX12_act_32 ?_
      refine v_iald (pc := 33) (Or.inl r0) (by omega) (by omega) (by decide) dX12_act_33 ?_
      refine v_put (pc := 34) 22 0 rfl fl_12_255_12 ck_12 ft_12_22 (okV_i _) (Nat.le_of_ble_eq_true rfl) (ws2 := [(h, co 12 (mO ad (nup (nup v 21 0) 22 (f (7 + player))))), ((ad 20), cn 0 20 bd)]) rfl dX12_act_34 ?_
      refine v_aload_n (pc := 37) 0 rfl dX12_act_37 ?_
      refine v_iload_n (pc := 38) 1 rfl dX12_act_38 ?_
      refine v_put (pc := 39) 23 0 rfl fl_12_252_12 ck_12 ft_12_23 (okV_i _) (Nat.le_of_ble_eq_true rfl) (ws2 := [(h, co 12 (mO ad (nup (nup (nup v 21 0) 22 (f (7 + player))) 23 player))), ((ad 20), cn 0 20 bd)]) rfl dX12_act_39 ?_
      refine v_aload_n (pc := 42) 0 rfl dX12_act_42 ?_
      refine v_aload_n (pc := 43) 0 rfl dX12_act_43 ?_
      refine v_get (pc := 44) (v := ar (ad 1)) 1 (Or.inr ⟨0, rfl⟩) fl_12_9_12 rfl dX12_act_44 ?_
      refine v_bipush (pc := 47) dX12_act_47 (by decide) ?_
      refine v_iload_n (pc := 49) 1 rfl dX12_act_49 ?_
      refine v_iadd (pc := 50) dX12_act_50 ?_
      refine v_iald (pc := 51) (Or.inl r0) (by omega) (by omega) (by decide) dX12_act_51 ?_
      refine v_put (pc := 52) 24 0 rfl fl_12_267_12 ck_12 ft_12_24 (okV_i _) (Nat.le_of_ble_eq_true rfl) (ws2 := [(h, co 12 (mO ad (nup (nup (nup (nup v 21 0) 22 (f (7 + player))) 23 player) 24 (f (13 + player))))), ((ad 20), cn 0 20 bd)]) rfl dX12_act_52 ?_
      refine v_iload_n (pc := 55) 2 rfl dX12_act_55 ?_
      refine v_if_ne (pc := 56) 67 dX12_act_56 (by decide) (by unfold iB; omega) (fun c_3 => ?_) (fun c_3 => ?_)
      · skip
        refine v_iload_n (pc := 67) 2 rfl dX12_act_67 ?_
        refine v_iconst (pc := 68) dX12_act_68 ?_
        refine v_icmp_ne (pc := 69) 80 dX12_act_69 (by decide) (by unfold iB; omega) (by unfold iB; omega) (fun c_4 => ?_) (fun c_4 => ?_)
        · skip
          refine v_aload_n (pc := 80) 0 rfl dX12_act_80 ?_
          refine v_iload_n (pc := 81) 3 rfl dX12_act_81 ?_
          refine v_callV (pc := 82) [0, 1] [] [] (As := [ai x0]) (rest := []) (c_X12_tellsActs ad (nup (nup (nup (nup v 21 0) 22 (f (7 + player))) 23 player) 24 (f (13 + player))) h bd x0 (by show (0 : Int) ≤ 0 ∧ (0 : Int) ≤ 20; decide) (by exact hf1)) (c := 12) rfl (Or.inr ⟨0, rfl⟩) wl_X12_279 wi_X12_tellsActs wv_X12_X12_tellsActs_X12_tellsActs wk_X12_tellsActs wz_X12 md_X12_tellsActs rfl (Nat.le_of_ble_eq_true rfl) ⟨Nat.le_of_ble_eq_true rfl, Nat.le_of_ble_eq_true rfl, Nat.le_of_ble_eq_true rfl, Nat.le_of_ble_eq_true rfl⟩ rfl rfl rfl rfl (by decide) ro_nil dX12_act_82 (fun u hu => ?_)
          obtain ⟨v2_5, bd2_6⟩ := u
          have g_7 : AG bd (nup (nup (nup (nup v 21 0) 22 (f (7 + player))) 23 player) 24 (f (13 + player))) (bT ((nup (nup (nup (nup v 21 0) 22 (f (7 + player))) 23 player) 24 (f (13 + player))) 22)) bd2_6 v2_5 := hu
          show V x cX12_act RX12 4 (rmU 7 148 0 0) [(h, co 12 (mO ad v2_5)), ((ad 20), cn 0 20 bd2_6)] 85 [(0, ar h), (1, ai player), (2, ai act), (3, ai x0)] [ai (aTl ((nup (nup (nup (nup v 21 0) 22 (f (7 + player))) 23 player) 24 (f (13 + player))) 22) ((nup (nup (nup (nup v 21 0) 22 (f (7 + player))) 23 player) 24 (f (13 + player))) 23) ((nup (nup (nup (nup v 21 0) 22 (f (7 + player))) 23 player) 24 (f (13 + player))) 24) x0)] 0 0
          have g1 := g_7
          exact hret (v2_5, bd2_6) _ _ _ _ _ _ (by (unfold lAct; rw [if_neg (by omega)]; first | (rw [if_pos (by omega)]; exact ⟨g1.1, g1.2.1⟩) | (rw [if_neg (by omega), if_pos (by omega)]; exact ⟨g1.1, g1.2.1⟩) | (rw [if_neg (by omega), if_neg (by omega)]; exact ⟨g1.1, g1.2.1⟩))) (congrArg (fun z => some (ai z)) (by unfold qAct; rw [if_neg (by omega)]; first | (rw [if_pos (by omega)]; rfl) | (rw [if_neg (by omega), if_pos (by omega)]; rfl) | (rw [if_neg (by omega), if_neg (by omega)]; rfl))) rfl (Nat.le_of_ble_eq_true rfl) (Nat.le_of_ble_eq_true rfl) dX12_act_85
        · skip
          refine v_aload_n (pc := 72) 0 rfl dX12_act_72 ?_
          refine v_iload_n (pc := 73) 3 rfl dX12_act_73 ?_
          refine v_callV (pc := 74) [0, 1] [] [] (As := [ai x0]) (rest := []) (c_X12_catchesActs ad (nup (nup (nup (nup v 21 0) 22 (f (7 + player))) 23 player) 24 (f (13 + player))) h bd x0 (by show (0 : Int) ≤ 0 ∧ (0 : Int) ≤ 40; decide) (by exact hf1)) (c := 12) rfl (Or.inr ⟨0, rfl⟩) wl_X12_273 wi_X12_catchesActs wv_X12_X12_catchesActs_X12_catchesActs wk_X12_catchesActs wz_X12 md_X12_catchesActs rfl (Nat.le_of_ble_eq_true rfl) ⟨Nat.le_of_ble_eq_true rfl, Nat.le_of_ble_eq_true rfl, Nat.le_of_ble_eq_true rfl, Nat.le_of_ble_eq_true rfl⟩ rfl rfl rfl rfl (by decide) ro_nil dX12_act_74 (fun u hu => ?_)
          obtain ⟨v2_8, bd2_9⟩ := u
          have g_10 : AG bd (nup (nup (nup (nup v 21 0) 22 (f (7 + player))) 23 player) 24 (f (13 + player))) (bC ((nup (nup (nup (nup v 21 0) 22 (f (7 + player))) 23 player) 24 (f (13 + player))) 22)) bd2_9 v2_8 := hu
          show V x cX12_act RX12 4 (rmU 7 148 0 0) [(h, co 12 (mO ad v2_8)), ((ad 20), cn 0 20 bd2_9)] 77 [(0, ar h), (1, ai player), (2, ai act), (3, ai x0)] [ai (aCt ((nup (nup (nup (nup v 21 0) 22 (f (7 + player))) 23 player) 24 (f (13 + player))) 22) ((nup (nup (nup (nup v 21 0) 22 (f (7 + player))) 23 player) 24 (f (13 + player))) 23) ((nup (nup (nup (nup v 21 0) 22 (f (7 + player))) 23 player) 24 (f (13 + player))) 24) x0)] 0 0
          have g1 := g_10
          refine v_goto (pc := 77) 85 dX12_act_77 (by decide) ?_
          exact hret (v2_8, bd2_9) _ _ _ _ _ _ (by (unfold lAct; rw [if_neg (by omega)]; first | (rw [if_pos (by omega)]; exact ⟨g1.1, g1.2.1⟩) | (rw [if_neg (by omega), if_pos (by omega)]; exact ⟨g1.1, g1.2.1⟩) | (rw [if_neg (by omega), if_neg (by omega)]; exact ⟨g1.1, g1.2.1⟩))) (congrArg (fun z => some (ai z)) (by unfold qAct; rw [if_neg (by omega)]; first | (rw [if_pos (by omega)]; rfl) | (rw [if_neg (by omega), if_pos (by omega)]; rfl) | (rw [if_neg (by omega), if_neg (by omega)]; rfl))) rfl (Nat.le_of_ble_eq_true rfl) (Nat.le_of_ble_eq_true rfl) dX12_act_85
      · skip
        refine v_aload_n (pc := 59) 0 rfl dX12_act_59 ?_
        refine v_iload_n (pc := 60) 3 rfl dX12_act_60 ?_
        refine v_callV (pc := 61) [0, 1] [] [] (As := [ai x0]) (rest := []) (c_X12_strikesActs ad (nup (nup (nup (nup v 21 0) 22 (f (7 + player))) 23 player) 24 (f (13 + player))) h bd x0 (by show (0 : Int) ≤ 0 ∧ (0 : Int) ≤ 50; decide) (by exact hf1)) (c := 12) rfl (Or.inr ⟨0, rfl⟩) wl_X12_264 wi_X12_strikesActs wv_X12_X12_strikesActs_X12_strikesActs wk_X12_strikesActs wz_X12 md_X12_strikesActs rfl (Nat.le_of_ble_eq_true rfl) ⟨Nat.le_of_ble_eq_true rfl, Nat.le_of_ble_eq_true rfl, Nat.le_of_ble_eq_true rfl, Nat.le_of_ble_eq_true rfl⟩ rfl rfl rfl rfl (by decide) ro_nil dX12_act_61 (fun u hu => ?_)
        obtain ⟨v2_11, bd2_12⟩ := u
        have g_13 : AG bd (nup (nup (nup (nup v 21 0) 22 (f (7 + player))) 23 player) 24 (f (13 + player))) (bS ((nup (nup (nup (nup v 21 0) 22 (f (7 + player))) 23 player) 24 (f (13 + player))) 22)) bd2_12 v2_11 := hu
        show V x cX12_act RX12 4 (rmU 7 148 0 0) [(h, co 12 (mO ad v2_11)), ((ad 20), cn 0 20 bd2_12)] 64 [(0, ar h), (1, ai player), (2, ai act), (3, ai x0)] [ai (aStr ((nup (nup (nup (nup v 21 0) 22 (f (7 + player))) 23 player) 24 (f (13 + player))) 22) ((nup (nup (nup (nup v 21 0) 22 (f (7 + player))) 23 player) 24 (f (13 + player))) 23) x0)] 0 0
        have g1 := g_13
        refine v_goto (pc := 64) 85 dX12_act_64 (by decide) ?_
        exact hret (v2_11, bd2_12) _ _ _ _ _ _ (by (unfold lAct; rw [if_neg (by omega)]; first | (rw [if_pos (by omega)]; exact ⟨g1.1, g1.2.1⟩) | (rw [if_neg (by omega), if_pos (by omega)]; exact ⟨g1.1, g1.2.1⟩) | (rw [if_neg (by omega), if_neg (by omega)]; exact ⟨g1.1, g1.2.1⟩))) (congrArg (fun z => some (ai z)) (by unfold qAct; rw [if_neg (by omega)]; first | (rw [if_pos (by omega)]; rfl) | (rw [if_neg (by omega), if_pos (by omega)]; rfl) | (rw [if_neg (by omega), if_neg (by omega)]; rfl))) rfl (Nat.le_of_ble_eq_true rfl) (Nat.le_of_ble_eq_true rfl) dX12_act_85
    · skip
      refine v_iconst (pc := 22) dX12_act_22 ?_
      exact hret ((nup v 21 0), bd) _ _ _ _ _ _ (by (unfold lAct; rw [if_pos (by omega)]; exact ⟨rfl, rfl⟩)) (congrArg (fun z => some (ai z)) (by unfold qAct; rw [if_pos (by omega)])) rfl (Nat.le_of_ble_eq_true rfl) (Nat.le_of_ble_eq_true rfl) dX12_act_23
set_option maxHeartbeats 4000000 in
set_option maxRecDepth 100000 in
theorem c_X12_image {gS : sG} (ad : Nat → Nat) (v : Nat → Int) (h : Nat) (f : Int → Int) (g : Int → Int) (hS : SOK f) : Ct gS (S := Unit) yX12_image cX12_image 2 (some .int) 0 0 0 0 [ar h] [(h, co 12 (mO ad v)), ((ad 2), cn 0 936 g)] (fun q => q ∈ ([((ad 1), cn 0 936 f)] : aW)) (fun _ => True) (fun _ => some (ai (f 0))) (fun _ => [(h, co 12 (mO ad (nup v 3 1))), ((ad 2), cn 0 936 f)]) := by
  refine ct_I RX12 [(0, ar h)] (by decide) rfl (Nat.le_of_ble_eq_true rfl) rfl (fun x hgS hro hret => ?_)
  subst hgS
  have r0 := hro _ (mem_at 0 rfl)
  show V x cX12_image RX12 2 (rmU 0 0 0 0) [(h, co 12 (mO ad v)), ((ad 2), cn 0 936 g)] 0 [(0, ar h)] [] 0 0
  refine v_iconst (pc := 0) dX12_image_0 ?_
  refine v_istore_n (pc := 1) (L2 := [(1, ai 0), (0, ar h)]) rfl (by decide) dX12_image_1 ?_
  have lp2 : ∀ (mm : Nat) (k : Int) (g1 : Int → Int), (936 - k).toNat = mm → (0 ≤ k ∧ k ≤ 936) → (∀ j : Int, 0 ≤ j → j < k → g1 j = f j) → V x cX12_image RX12 2 (rmU 0 0 0 0) [(h, co 12 (mO ad v)), ((ad 2), cn 0 936 g1)] 2 [(0, ar h), (1, ai k)] [] 0 0 := by
    intro mm
    induction mm using Nat.strongRecOn with
    | _ mm ih =>
      intro k g1 hmm hk hg1
      refine v_iload_n (pc := 2) 1 rfl dX12_image_2 ?_
      refine v_sipush (pc := 3) dX12_image_3 (by decide) ?_
      refine v_icmp_ge (pc := 6) 27 dX12_image_6 (by decide) (by unfold iB; omega) (by unfold iB; omega) (fun c_1 => ?_) (fun c_1 => ?_)
      · skip
        refine v_ext (q := 1) (a := ad 2) (N := 936) (t := 0) (f := g1) (g := f) (ws2 := [(h, co 12 (mO ad v)), ((ad 2), cn 0 936 f)]) rfl (fun j j0 j1 => hg1 j j0 (by omega)) rfl ?_
        refine v_aload_n (pc := 27) 0 rfl dX12_image_27 ?_
        refine v_iconst (pc := 28) dX12_image_28 ?_
        refine v_put (pc := 29) 3 0 rfl fl_12_282_12 ck_12 ft_12_3 okV_z1 (Nat.le_of_ble_eq_true rfl) (ws2 := [(h, co 12 (mO ad (nup v 3 1))), ((ad 2), cn 0 936 f)]) rfl dX12_image_29 ?_
        refine v_aload_n (pc := 32) 0 rfl dX12_image_32 ?_
        refine v_get (pc := 33) (v := ar (ad 1)) 1 (Or.inr ⟨0, rfl⟩) fl_12_9_12 rfl dX12_image_33 ?_
        refine v_iconst (pc := 36) dX12_image_36 ?_
        refine v_iald (pc := 37) (Or.inl r0) (by omega) (by omega) (by decide) dX12_image_37 ?_
        exact hret () _ _ _ _ _ _ trivial (congrArg (fun z => some (ai z)) (by rfl)) rfl (Nat.le_of_ble_eq_true rfl) (Nat.le_of_ble_eq_true rfl) dX12_image_38
      · skip
        refine v_aload_n (pc := 9) 0 rfl dX12_image_9 ?_
        refine v_get (pc := 10) (v := ar (ad 2)) 2 (Or.inr ⟨0, rfl⟩) fl_12_15_12 rfl dX12_image_10 ?_
        refine v_iload_n (pc := 13) 1 rfl dX12_image_13 ?_
        refine v_aload_n (pc := 14) 0 rfl dX12_image_14 ?_
        refine v_get (pc := 15) (v := ar (ad 1)) 1 (Or.inr ⟨0, rfl⟩) fl_12_9_12 rfl dX12_image_15 ?_
        refine v_iload_n (pc := 18) 1 rfl dX12_image_18 ?_
        refine v_iald (pc := 19) (Or.inl r0) (by omega) (by omega) (by decide) dX12_image_19 ?_
        refine v_iast (pc := 20) 1 rfl (by omega) (by omega) (by decide) (ws2 := [(h, co 12 (mO ad v)), ((ad 2), cn 0 936 (aup g1 k (f k)))]) rfl dX12_image_20 ?_
        refine v_iinc (pc := 21) 1 (L2 := [(1, ai (k + 1)), (0, ar h)]) rfl rfl (by decide) dX12_image_21 ?_
        refine v_goto (pc := 24) 2 dX12_image_24 (by decide) ?_
        refine v_sub (L2 := [(0, ar h), (1, ai (k + 1))]) [1, 0] rfl ?_
        exact ih _ (by omega) (k + 1) (aup g1 k (f k)) rfl (by omega) (by intro j j0 j1; unfold aup; split <;> first | (rename_i e; rw [e]; done) | exact hg1 j j0 (by omega))
  refine v_sub (L2 := [(0, ar h), (1, ai 0)]) [1, 0] rfl ?_
  exact lp2 _ 0 g rfl (by omega) (by intro j j0 j1; omega)
set_option maxHeartbeats 4000000 in
set_option maxRecDepth 100000 in
theorem c_X12_undo {gS : sG} (ad : Nat → Nat) (v : Nat → Int) (h : Nat) (f : Int → Int) (g : Int → Int) (h3 : v 3 = 0 ∨ v 3 = 1) (hSg : v 3 = 1 → SOK g) : Ct gS (S := Int → Int) yX12_undo cX12_undo 2 (some .int) 0 0 0 0 [ar h] [((ad 1), cn 0 936 f)] (fun q => q ∈ ([(h, co 12 (mO ad v)), ((ad 2), cn 0 936 g)] : aW)) (fun u => u = if v 3 = 0 then f else g) (fun u => some (ai (if v 3 = 0 then -3 else g 0))) (fun u => [((ad 1), cn 0 936 u)]) := by
  refine ct_I RX12 [(0, ar h)] (by decide) rfl (Nat.le_of_ble_eq_true rfl) rfl (fun x hgS hro hret => ?_)
  subst hgS
  have r0 := hro _ (mem_at 0 rfl)
  have r1 := hro _ (mem_at 1 rfl)
  show V x cX12_undo RX12 2 (rmU 0 0 0 0) [((ad 1), cn 0 936 f)] 0 [(0, ar h)] [] 0 0
  refine v_aload_n (pc := 0) 0 rfl dX12_undo_0 ?_
  refine v_get (pc := 1) (v := ai (v 3)) 3 (Or.inl r0) fl_12_282_12 rfl dX12_undo_1 ?_
  refine v_if_ne (pc := 4) 10 dX12_undo_4 (by decide) (by unfold iB; omega) (fun c_1 => ?_) (fun c_1 => ?_)
  · skip
    refine v_iconst (pc := 10) dX12_undo_10 ?_
    refine v_istore_n (pc := 11) (L2 := [(1, ai 0), (0, ar h)]) rfl (by decide) dX12_undo_11 ?_
    have lp12 : ∀ (mm : Nat) (k : Int) (f1 : Int → Int), (936 - k).toNat = mm → (0 ≤ k ∧ k ≤ 936) → (∀ j : Int, 0 ≤ j → j < k → f1 j = g j) → V x cX12_undo RX12 2 (rmU 0 0 0 0) [((ad 1), cn 0 936 f1)] 12 [(0, ar h), (1, ai k)] [] 0 0 := by
      intro mm
      induction mm using Nat.strongRecOn with
      | _ mm ih =>
        intro k f1 hmm hk hg1
        refine v_iload_n (pc := 12) 1 rfl dX12_undo_12 ?_
        refine v_sipush (pc := 13) dX12_undo_13 (by decide) ?_
        refine v_icmp_ge (pc := 16) 37 dX12_undo_16 (by decide) (by unfold iB; omega) (by unfold iB; omega) (fun c_2 => ?_) (fun c_2 => ?_)
        · skip
          refine v_ext (q := 0) (a := ad 1) (N := 936) (t := 0) (f := f1) (g := g) (ws2 := [((ad 1), cn 0 936 g)]) rfl (fun j j0 j1 => hg1 j j0 (by omega)) rfl ?_
          refine v_aload_n (pc := 37) 0 rfl dX12_undo_37 ?_
          refine v_get (pc := 38) (v := ar (ad 1)) 1 (Or.inl r0) fl_12_9_12 rfl dX12_undo_38 ?_
          refine v_iconst (pc := 41) dX12_undo_41 ?_
          refine v_iald (pc := 42) (Or.inr ⟨0, rfl⟩) (by omega) (by omega) (by decide) dX12_undo_42 ?_
          exact hret g _ _ _ _ _ _ (by first | (rw [if_pos (by omega)]) | (rw [if_neg (by omega)])) (congrArg (fun z => some (ai z)) (by first | (rw [if_pos (by omega)]) | (rw [if_neg (by omega)]))) rfl (Nat.le_of_ble_eq_true rfl) (Nat.le_of_ble_eq_true rfl) dX12_undo_43
        · skip
          refine v_aload_n (pc := 19) 0 rfl dX12_undo_19 ?_
          refine v_get (pc := 20) (v := ar (ad 1)) 1 (Or.inl r0) fl_12_9_12 rfl dX12_undo_20 ?_
          refine v_iload_n (pc := 23) 1 rfl dX12_undo_23 ?_
          refine v_aload_n (pc := 24) 0 rfl dX12_undo_24 ?_
          refine v_get (pc := 25) (v := ar (ad 2)) 2 (Or.inl r0) fl_12_15_12 rfl dX12_undo_25 ?_
          refine v_iload_n (pc := 28) 1 rfl dX12_undo_28 ?_
          refine v_iald (pc := 29) (Or.inl r1) (by omega) (by omega) (by decide) dX12_undo_29 ?_
          refine v_iast (pc := 30) 0 rfl (by omega) (by omega) (by decide) (ws2 := [((ad 1), cn 0 936 (aup f1 k (g k)))]) rfl dX12_undo_30 ?_
          refine v_iinc (pc := 31) 1 (L2 := [(1, ai (k + 1)), (0, ar h)]) rfl rfl (by decide) dX12_undo_31 ?_
          refine v_goto (pc := 34) 12 dX12_undo_34 (by decide) ?_
          refine v_sub (L2 := [(0, ar h), (1, ai (k + 1))]) [1, 0] rfl ?_
          exact ih _ (by omega) (k + 1) (aup f1 k (g k)) rfl (by omega) (by intro j j0 j1; unfold aup; split <;> first | (rename_i e; rw [e]; done) | exact hg1 j j0 (by omega))
    refine v_sub (L2 := [(0, ar h), (1, ai 0)]) [1, 0] rfl ?_
    exact lp12 _ 0 f rfl (by omega) (by intro j j0 j1; omega)
  · skip
    refine v_bipush (pc := 7) dX12_undo_7 (by decide) ?_
    exact hret f _ _ _ _ _ _ (by first | (rw [if_pos (by omega)]) | (rw [if_neg (by omega)])) (congrArg (fun z => some (ai z)) (by first | (rw [if_pos (by omega)]) | (rw [if_neg (by omega)]))) rfl (Nat.le_of_ble_eq_true rfl) (Nat.le_of_ble_eq_true rfl) dX12_undo_9
