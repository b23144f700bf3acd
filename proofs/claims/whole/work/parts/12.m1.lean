set_option maxHeartbeats 4000000 in
set_option maxRecDepth 100000 in
theorem c_X12_in {gS : sG} (a : Int) (lo : Int) (hi : Int) (hb_a : -2147483648 ≤ a ∧ a < 2147483648) (hb_lo : -2147483648 ≤ lo ∧ lo < 2147483648) (hb_hi : -2147483648 ≤ hi ∧ hi < 2147483648) : Ct gS (S := Unit) yX12_in cX12_in 3 (some .boolean) 0 0 0 0 [ai a, ai lo, ai hi] [] (fun q => q ∈ ([] : aW)) (fun _ => True) (fun _ => some (ai (if lo ≤ a ∧ a ≤ hi then 1 else 0))) (fun _ => []) := by
  refine ct_Z RX12 [(0, ai a), (1, ai lo), (2, ai hi)] (by decide) rfl (Nat.le_of_ble_eq_true rfl) rfl (fun x hgS hro hret => ?_)
  subst hgS
  show V x cX12_in RX12 3 (rmU 0 0 0 0) [] 0 [(0, ai a), (1, ai lo), (2, ai hi)] [] 0 0
  refine v_iload_n (pc := 0) 0 rfl dX12_in_0 ?_
  refine v_iload_n (pc := 1) 1 rfl dX12_in_1 ?_
  refine v_icmp_lt (pc := 2) 14 dX12_in_2 (by decide) (by unfold iB; omega) (by unfold iB; omega) (fun c_1 => ?_) (fun c_1 => ?_)
  · skip
    refine v_iconst (pc := 14) dX12_in_14 ?_
    exact hret () _ _ _ _ _ _ trivial (congrArg (fun z => some (ai z)) (by split <;> omega)) (Or.inl rfl) rfl (Nat.le_of_ble_eq_true rfl) (Nat.le_of_ble_eq_true rfl) dX12_in_15
  · skip
    refine v_iload_n (pc := 5) 0 rfl dX12_in_5 ?_
    refine v_iload_n (pc := 6) 2 rfl dX12_in_6 ?_
    refine v_icmp_gt (pc := 7) 14 dX12_in_7 (by decide) (by unfold iB; omega) (by unfold iB; omega) (fun c_2 => ?_) (fun c_2 => ?_)
    · skip
      refine v_iconst (pc := 14) dX12_in_14 ?_
      exact hret () _ _ _ _ _ _ trivial (congrArg (fun z => some (ai z)) (by split <;> omega)) (Or.inl rfl) rfl (Nat.le_of_ble_eq_true rfl) (Nat.le_of_ble_eq_true rfl) dX12_in_15
    · skip
      refine v_iconst (pc := 10) dX12_in_10 ?_
      refine v_goto (pc := 11) 15 dX12_in_11 (by decide) ?_
      exact hret () _ _ _ _ _ _ trivial (congrArg (fun z => some (ai z)) (by split <;> omega)) (Or.inr rfl) rfl (Nat.le_of_ble_eq_true rfl) (Nat.le_of_ble_eq_true rfl) dX12_in_15
set_option maxHeartbeats 4000000 in
set_option maxRecDepth 100000 in
theorem c_X12_isPlayer {gS : sG} (ad : Nat → Nat) (v : Nat → Int) (h : Nat) (f : Int → Int) (p : Int) (hb_p : -2147483648 ≤ p ∧ p < 2147483648) (hg : GF f) : Ct gS (S := Unit) yX12_isPlayer cX12_isPlayer 2 (some .boolean) 1 22 0 0 [ar h, ai p] [] (fun q => q ∈ ([(h, co 12 (mO ad v)), ((ad 1), cn 0 936 f)] : aW)) (fun _ => True) (fun _ => some (ai (if 0 ≤ p ∧ p ≤ (f 0) - 1 then 1 else 0))) (fun _ => []) := by
  refine ct_Z RX12 [(0, ar h), (1, ai p)] (by decide) rfl (Nat.le_of_ble_eq_true rfl) rfl (fun x hgS hro hret => ?_)
  subst hgS
  have r0 := hro _ (mem_at 0 rfl)
  have r1 := hro _ (mem_at 1 rfl)
  obtain ⟨hg0, hg1, hg2, hg3, hg4, hg5, hg6, hg7⟩ := id hg
  show V x cX12_isPlayer RX12 2 (rmU 1 22 0 0) [] 0 [(0, ar h), (1, ai p)] [] 0 0
  refine v_iload_n (pc := 0) 1 rfl dX12_isPlayer_0 ?_
  refine v_iconst (pc := 1) dX12_isPlayer_1 ?_
  refine v_aload_n (pc := 2) 0 rfl dX12_isPlayer_2 ?_
  refine v_get (pc := 3) (v := ar (ad 1)) 1 (Or.inl r0) fl_12_9_12 rfl dX12_isPlayer_3 ?_
  refine v_iconst (pc := 6) dX12_isPlayer_6 ?_
  refine v_iald (pc := 7) (Or.inl r1) (by omega) (by omega) (by decide) dX12_isPlayer_7 ?_
  refine v_iconst (pc := 8) dX12_isPlayer_8 ?_
  refine v_isub (pc := 9) dX12_isPlayer_9 ?_
  refine v_callS (pc := 10) [] [] [] (As := [ai p, ai 0, ai ((f 0) - 1)]) (rest := []) (c_X12_in p 0 ((f 0) - 1) (by first | assumption | omega) (by first | assumption | omega) (by first | assumption | omega)) wl_X12_41 ws_X12_in wk_X12_in wz_X12 md_X12_in rfl (Nat.le_of_ble_eq_true rfl) ⟨Nat.le_of_ble_eq_true rfl, Nat.le_of_ble_eq_true rfl, Nat.le_of_ble_eq_true rfl, Nat.le_of_ble_eq_true rfl⟩ rfl rfl rfl rfl (by decide) ro_nil dX12_isPlayer_10 (fun u hu => ?_)
  show V x cX12_isPlayer RX12 2 (rmU 1 22 0 0) [] 13 [(0, ar h), (1, ai p)] [ai (if 0 ≤ p ∧ p ≤ ((f 0) - 1) then 1 else 0)] 0 0
  exact hret () _ _ _ _ _ _ trivial (congrArg (fun z => some (ai z)) (by rfl)) ite01 rfl (Nat.le_of_ble_eq_true rfl) (Nat.le_of_ble_eq_true rfl) dX12_isPlayer_13
set_option maxHeartbeats 4000000 in
set_option maxRecDepth 100000 in
theorem c_X12_isPile {gS : sG} (n : Int) (force : Int) (hb_n : -2147483648 ≤ n ∧ n < 2147483648) (hb_force : -2147483648 ≤ force ∧ force < 2147483648) : Ct gS (S := Unit) yX12_isPile cX12_isPile 2 (some .boolean) 1 22 0 0 [ai n, ai force] [] (fun q => q ∈ ([] : aW)) (fun _ => True) (fun _ => some (ai (if (1 ≤ n ∧ n ≤ 99) ∧ (0 ≤ force ∧ force ≤ 20) then 1 else 0))) (fun _ => []) := by
  refine ct_Z RX12 [(0, ai n), (1, ai force)] (by decide) rfl (Nat.le_of_ble_eq_true rfl) rfl (fun x hgS hro hret => ?_)
  subst hgS
  show V x cX12_isPile RX12 2 (rmU 1 22 0 0) [] 0 [(0, ai n), (1, ai force)] [] 0 0
  refine v_iload_n (pc := 0) 0 rfl dX12_isPile_0 ?_
  refine v_iconst (pc := 1) dX12_isPile_1 ?_
  refine v_bipush (pc := 2) dX12_isPile_2 (by decide) ?_
  refine v_callS (pc := 4) [] [] [] (As := [ai n, ai 1, ai 99]) (rest := []) (c_X12_in n 1 99 (by first | assumption | omega) (by first | assumption | omega) (by first | assumption | omega)) wl_X12_41 ws_X12_in wk_X12_in wz_X12 md_X12_in rfl (Nat.le_of_ble_eq_true rfl) ⟨Nat.le_of_ble_eq_true rfl, Nat.le_of_ble_eq_true rfl, Nat.le_of_ble_eq_true rfl, Nat.le_of_ble_eq_true rfl⟩ rfl rfl rfl rfl (by decide) ro_nil dX12_isPile_4 (fun u hu => ?_)
  show V x cX12_isPile RX12 2 (rmU 1 22 0 0) [] 7 [(0, ai n), (1, ai force)] [ai (if 1 ≤ n ∧ n ≤ 99 then 1 else 0)] 0 0
  refine v_ifb_eq (pc := 7) 24 dX12_isPile_7 (by decide) (fun c_1 => ?_) (fun c_1 => ?_)
  · skip
    refine v_iconst (pc := 24) dX12_isPile_24 ?_
    exact hret () _ _ _ _ _ _ trivial (congrArg (fun z => some (ai z)) (by split <;> omega)) (Or.inl rfl) rfl (Nat.le_of_ble_eq_true rfl) (Nat.le_of_ble_eq_true rfl) dX12_isPile_25
  · skip
    refine v_iload_n (pc := 10) 1 rfl dX12_isPile_10 ?_
    refine v_iconst (pc := 11) dX12_isPile_11 ?_
    refine v_bipush (pc := 12) dX12_isPile_12 (by decide) ?_
    refine v_callS (pc := 14) [] [] [] (As := [ai force, ai 0, ai 20]) (rest := []) (c_X12_in force 0 20 (by first | assumption | omega) (by first | assumption | omega) (by first | assumption | omega)) wl_X12_41 ws_X12_in wk_X12_in wz_X12 md_X12_in rfl (Nat.le_of_ble_eq_true rfl) ⟨Nat.le_of_ble_eq_true rfl, Nat.le_of_ble_eq_true rfl, Nat.le_of_ble_eq_true rfl, Nat.le_of_ble_eq_true rfl⟩ rfl rfl rfl rfl (by decide) ro_nil dX12_isPile_14 (fun u hu => ?_)
    show V x cX12_isPile RX12 2 (rmU 1 22 0 0) [] 17 [(0, ai n), (1, ai force)] [ai (if 0 ≤ force ∧ force ≤ 20 then 1 else 0)] 0 0
    refine v_ifb_eq (pc := 17) 24 dX12_isPile_17 (by decide) (fun c_2 => ?_) (fun c_2 => ?_)
    · skip
      refine v_iconst (pc := 24) dX12_isPile_24 ?_
      exact hret () _ _ _ _ _ _ trivial (congrArg (fun z => some (ai z)) (by split <;> omega)) (Or.inl rfl) rfl (Nat.le_of_ble_eq_true rfl) (Nat.le_of_ble_eq_true rfl) dX12_isPile_25
    · skip
      refine v_iconst (pc := 20) dX12_isPile_20 ?_
      refine v_goto (pc := 21) 25 dX12_isPile_21 (by decide) ?_
      exact hret () _ _ _ _ _ _ trivial (congrArg (fun z => some (ai z)) (by split <;> omega)) (Or.inr rfl) rfl (Nat.le_of_ble_eq_true rfl) (Nat.le_of_ble_eq_true rfl) dX12_isPile_25
set_option maxHeartbeats 4000000 in
set_option maxRecDepth 100000 in
theorem c_X12_tellsOf {gS : sG} (ad : Nat → Nat) (v : Nat → Int) (h : Nat) (f : Int → Int) (wh : Int) (none : Int) (hg : GF f) (hw : 0 ≤ wh ∧ wh < 900) : Ct gS (S := Unit) yX12_tellsOf cX12_tellsOf 3 (some .int) 0 0 0 0 [ar h, ai wh, ai none] [] (fun q => q ∈ ([(h, co 12 (mO ad v)), ((ad 1), cn 0 936 f)] : aW)) (fun _ => True) (fun _ => some (ai (if f 5 = -1 then none else f (wh + f 5)))) (fun _ => []) := by
  refine ct_I RX12 [(0, ar h), (1, ai wh), (2, ai none)] (by decide) rfl (Nat.le_of_ble_eq_true rfl) rfl (fun x hgS hro hret => ?_)
  subst hgS
  have r0 := hro _ (mem_at 0 rfl)
  have r1 := hro _ (mem_at 1 rfl)
  obtain ⟨hg0, hg1, hg2, hg3, hg4, hg5, hg6, hg7⟩ := id hg
  show V x cX12_tellsOf RX12 3 (rmU 0 0 0 0) [] 0 [(0, ar h), (1, ai wh), (2, ai none)] [] 0 0
  refine v_aload_n (pc := 0) 0 rfl dX12_tellsOf_0 ?_
  refine v_get (pc := 1) (v := ar (ad 1)) 1 (Or.inl r0) fl_12_9_12 rfl dX12_tellsOf_1 ?_
  refine v_iconst (pc := 4) dX12_tellsOf_4 ?_
  refine v_iald (pc := 5) (Or.inl r1) (by omega) (by omega) (by decide) dX12_tellsOf_5 ?_
  refine v_iconst (pc := 6) dX12_tellsOf_6 ?_
  refine v_icmp_ne (pc := 7) 14 dX12_tellsOf_7 (by decide) (by unfold iB; omega) (by unfold iB; omega) (fun c_1 => ?_) (fun c_1 => ?_)
  · skip
    refine v_aload_n (pc := 14) 0 rfl dX12_tellsOf_14 ?_
    refine v_get (pc := 15) (v := ar (ad 1)) 1 (Or.inl r0) fl_12_9_12 rfl dX12_tellsOf_15 ?_
    refine v_iload_n (pc := 18) 1 rfl dX12_tellsOf_18 ?_
    refine v_aload_n (pc := 19) 0 rfl dX12_tellsOf_19 ?_
    refine v_get (pc := 20) (v := ar (ad 1)) 1 (Or.inl r0) fl_12_9_12 rfl dX12_tellsOf_20 ?_
    refine v_iconst (pc := 23) dX12_tellsOf_23 ?_
    refine v_iald (pc := 24) (Or.inl r1) (by omega) (by omega) (by decide) dX12_tellsOf_24 ?_
    refine v_iadd (pc := 25) dX12_tellsOf_25 ?_
    refine v_iald (pc := 26) (Or.inl r1) (by omega) (by omega) (by decide) dX12_tellsOf_26 ?_
    exact hret () _ _ _ _ _ _ trivial (congrArg (fun z => some (ai z)) (by split <;> first | rfl | omega)) rfl (Nat.le_of_ble_eq_true rfl) (Nat.le_of_ble_eq_true rfl) dX12_tellsOf_27
  · skip
    refine v_iload_n (pc := 10) 2 rfl dX12_tellsOf_10 ?_
    refine v_goto (pc := 11) 27 dX12_tellsOf_11 (by decide) ?_
    exact hret () _ _ _ _ _ _ trivial (congrArg (fun z => some (ai z)) (by split <;> first | rfl | omega)) rfl (Nat.le_of_ble_eq_true rfl) (Nat.le_of_ble_eq_true rfl) dX12_tellsOf_27
set_option maxHeartbeats 4000000 in
set_option maxRecDepth 100000 in
theorem c_X12_unsure {gS : sG} (ad : Nat → Nat) (v : Nat → Int) (h : Nat) (f : Int → Int) (p : Int) (g : Int) (hf : PF f p) (hgl : 0 ≤ g ∧ g ≤ 18) : Ct gS (S := Unit) yX12_unsure cX12_unsure 4 (some .int) 0 0 0 0 [ar h, ai p, ai g] [] (fun q => q ∈ ([(h, co 12 (mO ad v)), ((ad 1), cn 0 936 f)] : aW)) (fun _ => True) (fun _ => some (ai (kUns (f (19 + p)) g))) (fun _ => []) := by
  refine ct_I RX12 [(0, ar h), (1, ai p), (2, ai g)] (by decide) rfl (Nat.le_of_ble_eq_true rfl) rfl (fun x hgS hro hret => ?_)
  subst hgS
  have r0 := hro _ (mem_at 0 rfl)
  have r1 := hro _ (mem_at 1 rfl)
  obtain ⟨hp, hf1, hf2, hf3, hf4, hf5, hf6, hf7, hf8⟩ := id hf
  show V x cX12_unsure RX12 4 (rmU 0 0 0 0) [] 0 [(0, ar h), (1, ai p), (2, ai g)] [] 0 0
  refine v_iconst (pc := 0) dX12_unsure_0 ?_
  refine v_iload_n (pc := 1) 2 rfl dX12_unsure_1 ?_
  refine v_iadd (pc := 2) dX12_unsure_2 ?_
  refine v_aload_n (pc := 3) 0 rfl dX12_unsure_3 ?_
  refine v_get (pc := 4) (v := ar (ad 1)) 1 (Or.inl r0) fl_12_9_12 rfl dX12_unsure_4 ?_
  refine v_bipush (pc := 7) dX12_unsure_7 (by decide) ?_
  refine v_iload_n (pc := 9) 1 rfl dX12_unsure_9 ?_
  refine v_iadd (pc := 10) dX12_unsure_10 ?_
  refine v_iald (pc := 11) (Or.inl r1) (by omega) (by omega) (by decide) dX12_unsure_11 ?_
  refine v_iconst (pc := 12) dX12_unsure_12 ?_
  refine v_idiv (pc := 13) (by omega) (by omega) (by unfold iB; omega) (by unfold iB; omega) dX12_unsure_13 ?_
  refine v_isub (pc := 14) dX12_unsure_14 ?_
  refine v_istore_n (pc := 15) (L2 := [(3, ai ((3 + g) - ((f (19 + p)) / 4))), (0, ar h), (1, ai p), (2, ai g)]) rfl (by decide) dX12_unsure_15 ?_
  refine v_iload_n (pc := 16) 0 rfl dX12_unsure_16 ?_
  refine v_if_ge (pc := 17) 24 dX12_unsure_17 (by decide) (by unfold iB; omega) (fun c_1 => ?_) (fun c_1 => ?_)
  · skip
    refine v_iload_n (pc := 24) 0 rfl dX12_unsure_24 ?_
    exact hret () _ _ _ _ _ _ trivial (congrArg (fun z => some (ai z)) (by unfold kUns; split <;> omega)) rfl (Nat.le_of_ble_eq_true rfl) (Nat.le_of_ble_eq_true rfl) dX12_unsure_25
  · skip
    refine v_iconst (pc := 20) dX12_unsure_20 ?_
    refine v_goto (pc := 21) 25 dX12_unsure_21 (by decide) ?_
    exact hret () _ _ _ _ _ _ trivial (congrArg (fun z => some (ai z)) (by unfold kUns; split <;> omega)) rfl (Nat.le_of_ble_eq_true rfl) (Nat.le_of_ble_eq_true rfl) dX12_unsure_25
set_option maxHeartbeats 4000000 in
set_option maxRecDepth 100000 in
theorem c_X12_unsureOf {gS : sG} (ad : Nat → Nat) (v : Nat → Int) (h : Nat) (f : Int → Int) (p : Int) (hf : PF f p) : Ct gS (S := Unit) yX12_unsureOf cX12_unsureOf 3 (some .int) 1 23 0 0 [ar h, ai p] [] (fun q => q ∈ ([(h, co 12 (mO ad v)), ((ad 1), cn 0 936 f)] : aW)) (fun _ => True) (fun _ => some (ai (kUnsOf (f (7 + p)) (f (19 + p)) (f (31 + p))))) (fun _ => []) := by
  refine ct_I RX12 [(0, ar h), (1, ai p)] (by decide) rfl (Nat.le_of_ble_eq_true rfl) rfl (fun x hgS hro hret => ?_)
  subst hgS
  have r0 := hro _ (mem_at 0 rfl)
  have r1 := hro _ (mem_at 1 rfl)
  obtain ⟨hp, hf1, hf2, hf3, hf4, hf5, hf6, hf7, hf8⟩ := id hf
  have hu1 := kUns_b hf3 (g := f (31 + p)) (by omega)
  have hu2 := kUns_b hf3 (g := 0) (by omega)
  have hu3 := kUns_b hf3 (g := 2 * f (31 + p)) (by omega)
  show V x cX12_unsureOf RX12 3 (rmU 1 23 0 0) [] 0 [(0, ar h), (1, ai p)] [] 0 0
  refine v_aload_n (pc := 0) 0 rfl dX12_unsureOf_0 ?_
  refine v_get (pc := 1) (v := ar (ad 1)) 1 (Or.inl r0) fl_12_9_12 rfl dX12_unsureOf_1 ?_
  refine v_bipush (pc := 4) dX12_unsureOf_4 (by decide) ?_
  refine v_iload_n (pc := 6) 1 rfl dX12_unsureOf_6 ?_
  refine v_iadd (pc := 7) dX12_unsureOf_7 ?_
  refine v_iald (pc := 8) (Or.inl r1) (by omega) (by omega) (by decide) dX12_unsureOf_8 ?_
  refine v_istore_n (pc := 9) (L2 := [(2, ai (f (31 + p))), (0, ar h), (1, ai p)]) rfl (by decide) dX12_unsureOf_9 ?_
  refine v_aload_n (pc := 10) 1 rfl dX12_unsureOf_10 ?_
  refine v_get (pc := 11) (v := ar (ad 1)) 1 (Or.inl r0) fl_12_9_12 rfl dX12_unsureOf_11 ?_
  refine v_bipush (pc := 14) dX12_unsureOf_14 (by decide) ?_
  refine v_iload_n (pc := 16) 2 rfl dX12_unsureOf_16 ?_
  refine v_iadd (pc := 17) dX12_unsureOf_17 ?_
  refine v_iald (pc := 18) (Or.inl r1) (by omega) (by omega) (by decide) dX12_unsureOf_18 ?_
  rcases Classical.em ((f (7 + p)) < 1 ∨ 5 < (f (7 + p))) with c_1 | c_1
  · refine v_sw_out (pc := 19) 79 dX12_unsureOf_19 (by decide) (by unfold iB; omega) c_1 ?_
    refine v_aload_n (pc := 79) 1 rfl dX12_unsureOf_79 ?_
    refine v_iload_n (pc := 80) 2 rfl dX12_unsureOf_80 ?_
    refine v_iload_n (pc := 81) 0 rfl dX12_unsureOf_81 ?_
    refine v_callV (pc := 82) [] [] [] (As := [ai p, ai (f (31 + p))]) (rest := []) (c_X12_unsure ad v h f p (f (31 + p)) (by first | assumption | omega) (by first | assumption | omega)) (c := 12) rfl (Or.inl r0) wl_X12_133 wi_X12_unsure wv_X12_X12_unsure_X12_unsure wk_X12_unsure wz_X12 md_X12_unsure rfl (Nat.le_of_ble_eq_true rfl) ⟨Nat.le_of_ble_eq_true rfl, Nat.le_of_ble_eq_true rfl, Nat.le_of_ble_eq_true rfl, Nat.le_of_ble_eq_true rfl⟩ rfl rfl rfl rfl (by decide) (ro_cons (Or.inl r0) (ro_cons (Or.inl r1) ro_nil)) dX12_unsureOf_82 (fun u hu => ?_)
    show V x cX12_unsureOf RX12 3 (rmU 1 23 0 0) [] 85 [(2, ai (f (31 + p))), (0, ar h), (1, ai p)] [ai (kUns (f (19 + p)) (f (31 + p)))] 0 0
    exact hret () _ _ _ _ _ _ trivial (congrArg (fun z => some (ai z)) (by unfold kUnsOf; (repeat' split) <;> first | rfl | omega)) rfl (Nat.le_of_ble_eq_true rfl) (Nat.le_of_ble_eq_true rfl) dX12_unsureOf_85
  · rcases (show (f (7 + p)) = 1 ∨ (f (7 + p)) = 2 ∨ (f (7 + p)) = 3 ∨ (f (7 + p)) = 4 ∨ (f (7 + p)) = 5 by omega) with c_1e | c_1e | c_1e | c_1e | c_1e
    · refine v_sw_in (pc := 19) 52 0 dX12_unsureOf_19 (by unfold iB; omega) (by omega) (by omega) (by rw [c_1e]; rfl) rfl (by decide) ?_
      refine v_aload_n (pc := 52) 1 rfl dX12_unsureOf_52 ?_
      refine v_iload_n (pc := 53) 2 rfl dX12_unsureOf_53 ?_
      refine v_iload_n (pc := 54) 0 rfl dX12_unsureOf_54 ?_
      refine v_callV (pc := 55) [] [] [] (As := [ai p, ai (f (31 + p))]) (rest := []) (c_X12_unsure ad v h f p (f (31 + p)) (by first | assumption | omega) (by first | assumption | omega)) (c := 12) rfl (Or.inl r0) wl_X12_133 wi_X12_unsure wv_X12_X12_unsure_X12_unsure wk_X12_unsure wz_X12 md_X12_unsure rfl (Nat.le_of_ble_eq_true rfl) ⟨Nat.le_of_ble_eq_true rfl, Nat.le_of_ble_eq_true rfl, Nat.le_of_ble_eq_true rfl, Nat.le_of_ble_eq_true rfl⟩ rfl rfl rfl rfl (by decide) (ro_cons (Or.inl r0) (ro_cons (Or.inl r1) ro_nil)) dX12_unsureOf_55 (fun u hu => ?_)
      show V x cX12_unsureOf RX12 3 (rmU 1 23 0 0) [] 58 [(2, ai (f (31 + p))), (0, ar h), (1, ai p)] [ai (kUns (f (19 + p)) (f (31 + p)))] 0 0
      refine v_iconst (pc := 58) dX12_unsureOf_58 ?_
      refine v_idiv (pc := 59) (by omega) (by omega) (by unfold iB; omega) (by unfold iB; omega) dX12_unsureOf_59 ?_
      exact hret () _ _ _ _ _ _ trivial (congrArg (fun z => some (ai z)) (by unfold kUnsOf; (repeat' split) <;> first | rfl | omega)) rfl (Nat.le_of_ble_eq_true rfl) (Nat.le_of_ble_eq_true rfl) dX12_unsureOf_60
    · refine v_sw_in (pc := 19) 79 1 dX12_unsureOf_19 (by unfold iB; omega) (by omega) (by omega) (by rw [c_1e]; rfl) rfl (by decide) ?_
      refine v_aload_n (pc := 79) 1 rfl dX12_unsureOf_79 ?_
      refine v_iload_n (pc := 80) 2 rfl dX12_unsureOf_80 ?_
      refine v_iload_n (pc := 81) 0 rfl dX12_unsureOf_81 ?_
      refine v_callV (pc := 82) [] [] [] (As := [ai p, ai (f (31 + p))]) (rest := []) (c_X12_unsure ad v h f p (f (31 + p)) (by first | assumption | omega) (by first | assumption | omega)) (c := 12) rfl (Or.inl r0) wl_X12_133 wi_X12_unsure wv_X12_X12_unsure_X12_unsure wk_X12_unsure wz_X12 md_X12_unsure rfl (Nat.le_of_ble_eq_true rfl) ⟨Nat.le_of_ble_eq_true rfl, Nat.le_of_ble_eq_true rfl, Nat.le_of_ble_eq_true rfl, Nat.le_of_ble_eq_true rfl⟩ rfl rfl rfl rfl (by decide) (ro_cons (Or.inl r0) (ro_cons (Or.inl r1) ro_nil)) dX12_unsureOf_82 (fun u hu => ?_)
      show V x cX12_unsureOf RX12 3 (rmU 1 23 0 0) [] 85 [(2, ai (f (31 + p))), (0, ar h), (1, ai p)] [ai (kUns (f (19 + p)) (f (31 + p)))] 0 0
      exact hret () _ _ _ _ _ _ trivial (congrArg (fun z => some (ai z)) (by unfold kUnsOf; (repeat' split) <;> first | rfl | omega)) rfl (Nat.le_of_ble_eq_true rfl) (Nat.le_of_ble_eq_true rfl) dX12_unsureOf_85
    · refine v_sw_in (pc := 19) 79 2 dX12_unsureOf_19 (by unfold iB; omega) (by omega) (by omega) (by rw [c_1e]; rfl) rfl (by decide) ?_
      refine v_aload_n (pc := 79) 1 rfl dX12_unsureOf_79 ?_
      refine v_iload_n (pc := 80) 2 rfl dX12_unsureOf_80 ?_
      refine v_iload_n (pc := 81) 0 rfl dX12_unsureOf_81 ?_
      refine v_callV (pc := 82) [] [] [] (As := [ai p, ai (f (31 + p))]) (rest := []) (c_X12_unsure ad v h f p (f (31 + p)) (by first | assumption | omega) (by first | assumption | omega)) (c := 12) rfl (Or.inl r0) wl_X12_133 wi_X12_unsure wv_X12_X12_unsure_X12_unsure wk_X12_unsure wz_X12 md_X12_unsure rfl (Nat.le_of_ble_eq_true rfl) ⟨Nat.le_of_ble_eq_true rfl, Nat.le_of_ble_eq_true rfl, Nat.le_of_ble_eq_true rfl, Nat.le_of_ble_eq_true rfl⟩ rfl rfl rfl rfl (by decide) (ro_cons (Or.inl r0) (ro_cons (Or.inl r1) ro_nil)) dX12_unsureOf_82 (fun u hu => ?_)
      show V x cX12_unsureOf RX12 3 (rmU 1 23 0 0) [] 85 [(2, ai (f (31 + p))), (0, ar h), (1, ai p)] [ai (kUns (f (19 + p)) (f (31 + p)))] 0 0
      exact hret () _ _ _ _ _ _ trivial (congrArg (fun z => some (ai z)) (by unfold kUnsOf; (repeat' split) <;> first | rfl | omega)) rfl (Nat.le_of_ble_eq_true rfl) (Nat.le_of_ble_eq_true rfl) dX12_unsureOf_85
    · refine v_sw_in (pc := 19) 61 3 dX12_unsureOf_19 (by unfold iB; omega) (by omega) (by omega) (by rw [c_1e]; rfl) rfl (by decide) ?_
      refine v_aload_n (pc := 61) 1 rfl dX12_unsureOf_61 ?_
      refine v_iload_n (pc := 62) 2 rfl dX12_unsureOf_62 ?_
      refine v_iconst (pc := 63) dX12_unsureOf_63 ?_
      refine v_callV (pc := 64) [] [] [] (As := [ai p, ai 0]) (rest := []) (c_X12_unsure ad v h f p 0 (by first | assumption | omega) (by first | assumption | omega)) (c := 12) rfl (Or.inl r0) wl_X12_133 wi_X12_unsure wv_X12_X12_unsure_X12_unsure wk_X12_unsure wz_X12 md_X12_unsure rfl (Nat.le_of_ble_eq_true rfl) ⟨Nat.le_of_ble_eq_true rfl, Nat.le_of_ble_eq_true rfl, Nat.le_of_ble_eq_true rfl, Nat.le_of_ble_eq_true rfl⟩ rfl rfl rfl rfl (by decide) (ro_cons (Or.inl r0) (ro_cons (Or.inl r1) ro_nil)) dX12_unsureOf_64 (fun u hu => ?_)
      show V x cX12_unsureOf RX12 3 (rmU 1 23 0 0) [] 67 [(2, ai (f (31 + p))), (0, ar h), (1, ai p)] [ai (kUns (f (19 + p)) 0)] 0 0
      refine v_iconst (pc := 67) dX12_unsureOf_67 ?_
      refine v_idiv (pc := 68) (by omega) (by omega) (by unfold iB; omega) (by unfold iB; omega) dX12_unsureOf_68 ?_
      exact hret () _ _ _ _ _ _ trivial (congrArg (fun z => some (ai z)) (by unfold kUnsOf; (repeat' split) <;> first | rfl | omega)) rfl (Nat.le_of_ble_eq_true rfl) (Nat.le_of_ble_eq_true rfl) dX12_unsureOf_69
    · refine v_sw_in (pc := 19) 70 4 dX12_unsureOf_19 (by unfold iB; omega) (by omega) (by omega) (by rw [c_1e]; rfl) rfl (by decide) ?_
      refine v_aload_n (pc := 70) 1 rfl dX12_unsureOf_70 ?_
      refine v_iload_n (pc := 71) 2 rfl dX12_unsureOf_71 ?_
      refine v_iconst (pc := 72) dX12_unsureOf_72 ?_
      refine v_iload_n (pc := 73) 0 rfl dX12_unsureOf_73 ?_
      refine v_imul (pc := 74) dX12_unsureOf_74 ?_
      refine v_callV (pc := 75) [] [] [] (As := [ai p, ai (2 * (f (31 + p)))]) (rest := []) (c_X12_unsure ad v h f p (2 * (f (31 + p))) (by first | assumption | omega) (by first | assumption | omega)) (c := 12) rfl (Or.inl r0) wl_X12_133 wi_X12_unsure wv_X12_X12_unsure_X12_unsure wk_X12_unsure wz_X12 md_X12_unsure rfl (Nat.le_of_ble_eq_true rfl) ⟨Nat.le_of_ble_eq_true rfl, Nat.le_of_ble_eq_true rfl, Nat.le_of_ble_eq_true rfl, Nat.le_of_ble_eq_true rfl⟩ rfl rfl rfl rfl (by decide) (ro_cons (Or.inl r0) (ro_cons (Or.inl r1) ro_nil)) dX12_unsureOf_75 (fun u hu => ?_)
      show V x cX12_unsureOf RX12 3 (rmU 1 23 0 0) [] 78 [(2, ai (f (31 + p))), (0, ar h), (1, ai p)] [ai (kUns (f (19 + p)) (2 * (f (31 + p))))] 0 0
      exact hret () _ _ _ _ _ _ trivial (congrArg (fun z => some (ai z)) (by unfold kUnsOf; (repeat' split) <;> first | rfl | omega)) rfl (Nat.le_of_ble_eq_true rfl) (Nat.le_of_ble_eq_true rfl) dX12_unsureOf_78
set_option maxHeartbeats 4000000 in
set_option maxRecDepth 100000 in
theorem c_X12_turnOf {gS : sG} (ad : Nat → Nat) (v : Nat → Int) (h : Nat) (f : Int → Int) (p : Int) (n : Int) (force : Int) (hf : PF f p) (hg : GF f) (hn : 0 ≤ n ∧ n ≤ 99) (hfo : 0 ≤ force ∧ force ≤ 20) : Ct gS (S := Unit) yX12_turnOf cX12_turnOf 5 (some .int) 0 0 0 0 [ar h, ai p, ai n, ai force] [] (fun q => q ∈ ([(h, co 12 (mO ad v)), ((ad 1), cn 0 936 f)] : aW)) (fun _ => True) (fun _ => some (ai (kTurn (f (7 + p)) (f (13 + p)) (f (49 + 4 * p + f 6 % 4)) n force))) (fun _ => []) := by
  refine ct_I RX12 [(0, ar h), (1, ai p), (2, ai n), (3, ai force)] (by decide) rfl (Nat.le_of_ble_eq_true rfl) rfl (fun x hgS hro hret => ?_)
  subst hgS
  have r0 := hro _ (mem_at 0 rfl)
  have r1 := hro _ (mem_at 1 rfl)
  obtain ⟨hp, hf1, hf2, hf3, hf4, hf5, hf6, hf7, hf8⟩ := id hf
  obtain ⟨hg0, hg1, hg2, hg3, hg4, hg5, hg6, hg7⟩ := id hg
  have hr := hf8 (f 6 % 4) (by omega) (by omega)
  show V x cX12_turnOf RX12 5 (rmU 0 0 0 0) [] 0 [(0, ar h), (1, ai p), (2, ai n), (3, ai force)] [] 0 0
  refine v_iconst (pc := 0) dX12_turnOf_0 ?_
  refine v_iload_n (pc := 1) 3 rfl dX12_turnOf_1 ?_
  refine v_imul (pc := 2) dX12_turnOf_2 ?_
  refine v_iload_n (pc := 3) 2 rfl dX12_turnOf_3 ?_
  refine v_iconst (pc := 4) dX12_turnOf_4 ?_
  refine v_idiv (pc := 5) (by omega) (by omega) (by unfold iB; omega) (by unfold iB; omega) dX12_turnOf_5 ?_
  refine v_isub (pc := 6) dX12_turnOf_6 ?_
  refine v_istore (pc := 7) (L2 := [(4, ai ((5 * force) - (n / 2))), (0, ar h), (1, ai p), (2, ai n), (3, ai force)]) rfl (by decide) dX12_turnOf_7 ?_
  refine v_aload_n (pc := 9) 1 rfl dX12_turnOf_9 ?_
  refine v_get (pc := 10) (v := ar (ad 1)) 1 (Or.inl r0) fl_12_9_12 rfl dX12_turnOf_10 ?_
  refine v_bipush (pc := 13) dX12_turnOf_13 (by decide) ?_
  refine v_iload_n (pc := 15) 2 rfl dX12_turnOf_15 ?_
  refine v_iadd (pc := 16) dX12_turnOf_16 ?_
  refine v_iald (pc := 17) (Or.inl r1) (by omega) (by omega) (by decide) dX12_turnOf_17 ?_
  rcases Classical.em ((f (7 + p)) < 2 ∨ 6 < (f (7 + p))) with c_1 | c_1
  · refine v_sw_out (pc := 18) 115 dX12_turnOf_18 (by decide) (by unfold iB; omega) c_1 ?_
    refine v_iload (pc := 115) 0 rfl dX12_turnOf_115 ?_
    exact hret () _ _ _ _ _ _ trivial (congrArg (fun z => some (ai z)) (by unfold kTurn kLean; (repeat' split) <;> omega)) rfl (Nat.le_of_ble_eq_true rfl) (Nat.le_of_ble_eq_true rfl) dX12_turnOf_117
  · rcases (show (f (7 + p)) = 2 ∨ (f (7 + p)) = 3 ∨ (f (7 + p)) = 4 ∨ (f (7 + p)) = 5 ∨ (f (7 + p)) = 6 by omega) with c_1e | c_1e | c_1e | c_1e | c_1e
    · refine v_sw_in (pc := 18) 52 0 dX12_turnOf_18 (by unfold iB; omega) (by omega) (by omega) (by rw [c_1e]; rfl) rfl (by decide) ?_
      refine v_iload (pc := 52) 0 rfl dX12_turnOf_52 ?_
      refine v_aload_n (pc := 54) 1 rfl dX12_turnOf_54 ?_
      refine v_get (pc := 55) (v := ar (ad 1)) 1 (Or.inl r0) fl_12_9_12 rfl dX12_turnOf_55 ?_
      refine v_bipush (pc := 58) dX12_turnOf_58 (by decide) ?_
      refine v_iload_n (pc := 60) 2 rfl dX12_turnOf_60 ?_
      refine v_iadd (pc := 61) dX12_turnOf_61 ?_
      refine v_iald (pc := 62) (Or.inl r1) (by omega) (by omega) (by decide) dX12_turnOf_62 ?_
      refine v_iadd (pc := 63) dX12_turnOf_63 ?_
      exact hret () _ _ _ _ _ _ trivial (congrArg (fun z => some (ai z)) (by unfold kTurn kLean; (repeat' split) <;> omega)) rfl (Nat.le_of_ble_eq_true rfl) (Nat.le_of_ble_eq_true rfl) dX12_turnOf_64
    · refine v_sw_in (pc := 18) 65 1 dX12_turnOf_18 (by unfold iB; omega) (by omega) (by omega) (by rw [c_1e]; rfl) rfl (by decide) ?_
      refine v_iload (pc := 65) 0 rfl dX12_turnOf_65 ?_
      refine v_aload_n (pc := 67) 1 rfl dX12_turnOf_67 ?_
      refine v_get (pc := 68) (v := ar (ad 1)) 1 (Or.inl r0) fl_12_9_12 rfl dX12_turnOf_68 ?_
      refine v_bipush (pc := 71) dX12_turnOf_71 (by decide) ?_
      refine v_iload_n (pc := 73) 2 rfl dX12_turnOf_73 ?_
      refine v_iadd (pc := 74) dX12_turnOf_74 ?_
      refine v_iald (pc := 75) (Or.inl r1) (by omega) (by omega) (by decide) dX12_turnOf_75 ?_
      refine v_isub (pc := 76) dX12_turnOf_76 ?_
      exact hret () _ _ _ _ _ _ trivial (congrArg (fun z => some (ai z)) (by unfold kTurn kLean; (repeat' split) <;> omega)) rfl (Nat.le_of_ble_eq_true rfl) (Nat.le_of_ble_eq_true rfl) dX12_turnOf_77
    · refine v_sw_in (pc := 18) 115 2 dX12_turnOf_18 (by unfold iB; omega) (by omega) (by omega) (by rw [c_1e]; rfl) rfl (by decide) ?_
      refine v_iload (pc := 115) 0 rfl dX12_turnOf_115 ?_
      exact hret () _ _ _ _ _ _ trivial (congrArg (fun z => some (ai z)) (by unfold kTurn kLean; (repeat' split) <;> omega)) rfl (Nat.le_of_ble_eq_true rfl) (Nat.le_of_ble_eq_true rfl) dX12_turnOf_117
    · refine v_sw_in (pc := 18) 52 3 dX12_turnOf_18 (by unfold iB; omega) (by omega) (by omega) (by rw [c_1e]; rfl) rfl (by decide) ?_
      refine v_iload (pc := 52) 0 rfl dX12_turnOf_52 ?_
      refine v_aload_n (pc := 54) 1 rfl dX12_turnOf_54 ?_
      refine v_get (pc := 55) (v := ar (ad 1)) 1 (Or.inl r0) fl_12_9_12 rfl dX12_turnOf_55 ?_
      refine v_bipush (pc := 58) dX12_turnOf_58 (by decide) ?_
      refine v_iload_n (pc := 60) 2 rfl dX12_turnOf_60 ?_
      refine v_iadd (pc := 61) dX12_turnOf_61 ?_
      refine v_iald (pc := 62) (Or.inl r1) (by omega) (by omega) (by decide) dX12_turnOf_62 ?_
      refine v_iadd (pc := 63) dX12_turnOf_63 ?_
      exact hret () _ _ _ _ _ _ trivial (congrArg (fun z => some (ai z)) (by unfold kTurn kLean; (repeat' split) <;> omega)) rfl (Nat.le_of_ble_eq_true rfl) (Nat.le_of_ble_eq_true rfl) dX12_turnOf_64
    · refine v_sw_in (pc := 18) 78 4 dX12_turnOf_18 (by unfold iB; omega) (by omega) (by omega) (by rw [c_1e]; rfl) rfl (by decide) ?_
      refine v_iload (pc := 78) 0 rfl dX12_turnOf_78 ?_
      refine v_aload_n (pc := 80) 1 rfl dX12_turnOf_80 ?_
      refine v_get (pc := 81) (v := ar (ad 1)) 1 (Or.inl r0) fl_12_9_12 rfl dX12_turnOf_81 ?_
      refine v_bipush (pc := 84) dX12_turnOf_84 (by decide) ?_
      refine v_iload_n (pc := 86) 2 rfl dX12_turnOf_86 ?_
      refine v_iadd (pc := 87) dX12_turnOf_87 ?_
      refine v_iald (pc := 88) (Or.inl r1) (by omega) (by omega) (by decide) dX12_turnOf_88 ?_
      refine v_isub (pc := 89) dX12_turnOf_89 ?_
      refine v_aload_n (pc := 90) 1 rfl dX12_turnOf_90 ?_
      refine v_get (pc := 91) (v := ar (ad 1)) 1 (Or.inl r0) fl_12_9_12 rfl dX12_turnOf_91 ?_
      refine v_bipush (pc := 94) dX12_turnOf_94 (by decide) ?_
      refine v_iconst (pc := 96) dX12_turnOf_96 ?_
      refine v_iload_n (pc := 97) 2 rfl dX12_turnOf_97 ?_
      refine v_imul (pc := 98) dX12_turnOf_98 ?_
      refine v_iadd (pc := 99) dX12_turnOf_99 ?_
      refine v_aload_n (pc := 100) 1 rfl dX12_turnOf_100 ?_
      refine v_get (pc := 101) (v := ar (ad 1)) 1 (Or.inl r0) fl_12_9_12 rfl dX12_turnOf_101 ?_
      refine v_bipush (pc := 104) dX12_turnOf_104 (by decide) ?_
      refine v_iald (pc := 106) (Or.inl r1) (by omega) (by omega) (by decide) dX12_turnOf_106 ?_
      refine v_iconst (pc := 107) dX12_turnOf_107 ?_
      refine v_irem (pc := 108) (by omega) (by omega) (by unfold iB; omega) (by unfold iB; omega) dX12_turnOf_108 ?_
      refine v_iadd (pc := 109) dX12_turnOf_109 ?_
      refine v_iald (pc := 110) (Or.inl r1) (by omega) (by omega) (by decide) dX12_turnOf_110 ?_
      refine v_iadd (pc := 111) dX12_turnOf_111 ?_
      refine v_iconst (pc := 112) dX12_turnOf_112 ?_
      refine v_isub (pc := 113) dX12_turnOf_113 ?_
      exact hret () _ _ _ _ _ _ trivial (congrArg (fun z => some (ai z)) (by unfold kTurn kLean; (repeat' split) <;> omega)) rfl (Nat.le_of_ble_eq_true rfl) (Nat.le_of_ble_eq_true rfl) dX12_turnOf_114
set_option maxHeartbeats 4000000 in
set_option maxRecDepth 100000 in
theorem c_X12_oneMore {gS : sG} (ad : Nat → Nat) (v : Nat → Int) (h : Nat) (f : Int → Int) (p : Int) (hf : PF f p) : Ct gS (S := Unit) yX12_oneMore cX12_oneMore 2 (some .int) 0 0 0 0 [ar h, ai p] [] (fun q => q ∈ ([(h, co 12 (mO ad v)), ((ad 1), cn 0 936 f)] : aW)) (fun _ => True) (fun _ => some (ai (if f (37 + p) < 99 then f (37 + p) + 1 else 99))) (fun _ => []) := by
  refine ct_I RX12 [(0, ar h), (1, ai p)] (by decide) rfl (Nat.le_of_ble_eq_true rfl) rfl (fun x hgS hro hret => ?_)
  subst hgS
  have r0 := hro _ (mem_at 0 rfl)
  have r1 := hro _ (mem_at 1 rfl)
  obtain ⟨hp, hf1, hf2, hf3, hf4, hf5, hf6, hf7, hf8⟩ := id hf
  show V x cX12_oneMore RX12 2 (rmU 0 0 0 0) [] 0 [(0, ar h), (1, ai p)] [] 0 0
  refine v_aload_n (pc := 0) 0 rfl dX12_oneMore_0 ?_
  refine v_get (pc := 1) (v := ar (ad 1)) 1 (Or.inl r0) fl_12_9_12 rfl dX12_oneMore_1 ?_
  refine v_bipush (pc := 4) dX12_oneMore_4 (by decide) ?_
  refine v_iload_n (pc := 6) 1 rfl dX12_oneMore_6 ?_
  refine v_iadd (pc := 7) dX12_oneMore_7 ?_
  refine v_iald (pc := 8) (Or.inl r1) (by omega) (by omega) (by decide) dX12_oneMore_8 ?_
  refine v_bipush (pc := 9) dX12_oneMore_9 (by decide) ?_
  refine v_icmp_ge (pc := 11) 28 dX12_oneMore_11 (by decide) (by unfold iB; omega) (by unfold iB; omega) (fun c_1 => ?_) (fun c_1 => ?_)
  · skip
    refine v_bipush (pc := 28) dX12_oneMore_28 (by decide) ?_
    exact hret () _ _ _ _ _ _ trivial (congrArg (fun z => some (ai z)) (by split <;> omega)) rfl (Nat.le_of_ble_eq_true rfl) (Nat.le_of_ble_eq_true rfl) dX12_oneMore_30
  · skip
    refine v_aload_n (pc := 14) 0 rfl dX12_oneMore_14 ?_
    refine v_get (pc := 15) (v := ar (ad 1)) 1 (Or.inl r0) fl_12_9_12 rfl dX12_oneMore_15 ?_
    refine v_bipush (pc := 18) dX12_oneMore_18 (by decide) ?_
    refine v_iload_n (pc := 20) 1 rfl dX12_oneMore_20 ?_
    refine v_iadd (pc := 21) dX12_oneMore_21 ?_
    refine v_iald (pc := 22) (Or.inl r1) (by omega) (by omega) (by decide) dX12_oneMore_22 ?_
    refine v_iconst (pc := 23) dX12_oneMore_23 ?_
    refine v_iadd (pc := 24) dX12_oneMore_24 ?_
    refine v_goto (pc := 25) 30 dX12_oneMore_25 (by decide) ?_
    exact hret () _ _ _ _ _ _ trivial (congrArg (fun z => some (ai z)) (by split <;> omega)) rfl (Nat.le_of_ble_eq_true rfl) (Nat.le_of_ble_eq_true rfl) dX12_oneMore_30
