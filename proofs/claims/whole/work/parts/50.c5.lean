set_option maxHeartbeats 4000000 in
set_option maxRecDepth 100000 in
theorem c_X5_strikes_k5 {gS : sG} (h : Nat) (ta : Nat) (kd : Int) (num : Int) (pv : Int) (sk : Int) (hn : Int) (gl : Int) (sc : Int) (pu : Int) (xx : Int) (tr : Int → Int) (htr : trB tr 990) : Ct gS (S := Unit) yX5_strikes cX5_strikes 2 (some .int) 1 22 0 0 [ar h, ai xx] [(ta, cn 0 21 tr)] (fun q => q ∈ ([(h, co 5 [ar ta, ai kd, ai num, ai pv, ai sk, ai hn, ai gl, ai sc, ai pu])] : aW)) (fun _ => True) (fun _ => some (ai (xx + num))) (fun _ => [(ta, cn 0 21 (bg tr 1))]) := by
  refine ct_I RX5 [(0, ar h), (1, ai xx)] (by decide) rfl (Nat.le_of_ble_eq_true rfl) rfl (fun x hgS hro hret => ?_)
  subst hgS
  have r0 := hro _ (mem_at 0 rfl)
  show V x cX5_strikes RX5 2 (rmU 1 22 0 0) [(ta, cn 0 21 tr)] 0 [(0, ar h), (1, ai xx)] [] 0 0
  refine v_aload_n (pc := 0) 0 rfl dX5_strikes_0 ?_
  refine v_iconst (pc := 1) dX5_strikes_1 ?_
  refine v_callU (pc := 2) [0] [] [] (z := yX5_begins) (As := [ai 1]) (rest := []) (c_X5_begins_k5 h ta kd num pv sk hn gl sc pu 1 tr (by exact trB_le htr (by decide))) (c := 5) rfl (Or.inl r0) wl_X5_82 wsm_22 wi_X5_begins wk_X5_begins wv_X5_X5_begins_X5_begins wi_X5_begins wk_X5_begins wz_X5 mdo_X5_begins rfl (Nat.le_of_ble_eq_true rfl) ⟨Nat.le_of_ble_eq_true rfl, Nat.le_of_ble_eq_true rfl, Nat.le_of_ble_eq_true rfl, Nat.le_of_ble_eq_true rfl⟩ rfl rfl rfl rfl (by decide) (ro_cons (Or.inl r0) ro_nil) dX5_strikes_2 (fun u hu => ?_)
  show V x cX5_strikes RX5 2 (rmU 1 22 0 0) [(ta, cn 0 21 (bg tr 1))] 5 [(0, ar h), (1, ai xx)] [] 0 0
  refine v_iload_n (pc := 5) 1 rfl dX5_strikes_5 ?_
  refine v_aload_n (pc := 6) 0 rfl dX5_strikes_6 ?_
  refine v_get (pc := 7) (v := ai num) 2 (Or.inl r0) fl_5_48_5 rfl dX5_strikes_7 ?_
  refine v_iadd (pc := 10) dX5_strikes_10 ?_
  exact hret () _ _ _ _ _ _ trivial (congrArg (fun z => some (ai z)) (by rfl)) rfl (Nat.le_of_ble_eq_true rfl) (Nat.le_of_ble_eq_true rfl) dX5_strikes_11
set_option maxHeartbeats 4000000 in
set_option maxRecDepth 100000 in
theorem c_X5_catches_k5 {gS : sG} (h : Nat) (ta : Nat) (kd : Int) (num : Int) (pv : Int) (sk : Int) (hn : Int) (gl : Int) (sc : Int) (pu : Int) (xx : Int) (tr : Int → Int) (htr : trB tr 960) : Ct gS (S := Unit) yX5_catches cX5_catches 2 (some .int) 3 64 0 0 [ar h, ai xx] [(ta, cn 0 21 tr)] (fun q => q ∈ ([(h, co 5 [ar ta, ai kd, ai num, ai pv, ai sk, ai hn, ai gl, ai sc, ai pu])] : aW)) (fun _ => True) (fun _ => some (ai ((xx + num) - pv))) (fun _ => [(ta, cn 0 21 (bg (bg tr 2) 1))]) := by
  refine ct_I RX5 [(0, ar h), (1, ai xx)] (by decide) rfl (Nat.le_of_ble_eq_true rfl) rfl (fun x hgS hro hret => ?_)
  subst hgS
  have r0 := hro _ (mem_at 0 rfl)
  show V x cX5_catches RX5 2 (rmU 3 64 0 0) [(ta, cn 0 21 tr)] 0 [(0, ar h), (1, ai xx)] [] 0 0
  refine v_aload_n (pc := 0) 0 rfl dX5_catches_0 ?_
  refine v_iconst (pc := 1) dX5_catches_1 ?_
  refine v_callU (pc := 2) [0] [] [] (z := yX5_begins) (As := [ai 2]) (rest := []) (c_X5_begins_k5 h ta kd num pv sk hn gl sc pu 2 tr (by exact trB_le htr (by decide))) (c := 5) rfl (Or.inl r0) wl_X5_82 wsm_22 wi_X5_begins wk_X5_begins wv_X5_X5_begins_X5_begins wi_X5_begins wk_X5_begins wz_X5 mdo_X5_begins rfl (Nat.le_of_ble_eq_true rfl) ⟨Nat.le_of_ble_eq_true rfl, Nat.le_of_ble_eq_true rfl, Nat.le_of_ble_eq_true rfl, Nat.le_of_ble_eq_true rfl⟩ rfl rfl rfl rfl (by decide) (ro_cons (Or.inl r0) ro_nil) dX5_catches_2 (fun u hu => ?_)
  show V x cX5_catches RX5 2 (rmU 3 64 0 0) [(ta, cn 0 21 (bg tr 2))] 5 [(0, ar h), (1, ai xx)] [] 0 0
  refine v_aload_n (pc := 5) 0 rfl dX5_catches_5 ?_
  refine v_iload_n (pc := 6) 1 rfl dX5_catches_6 ?_
  refine v_callU (pc := 7) [0] [] [] (z := yX5_strikes) (As := [ai xx]) (rest := []) (c_X5_strikes_k5 h ta kd num pv sk hn gl sc pu xx (bg tr 2) (by exact trB_le (trB_bg htr (Int.le_refl _)) (by decide))) (c := 5) rfl (Or.inl r0) wl_X5_86 wsm_4 wi_X5_strikes wk_X5_strikes wv_X5_X5_strikes_X5_strikes wi_X5_strikes wk_X5_strikes wz_X5 mdo_X5_strikes rfl (Nat.le_of_ble_eq_true rfl) ⟨Nat.le_of_ble_eq_true rfl, Nat.le_of_ble_eq_true rfl, Nat.le_of_ble_eq_true rfl, Nat.le_of_ble_eq_true rfl⟩ rfl rfl rfl rfl (by decide) (ro_cons (Or.inl r0) ro_nil) dX5_catches_7 (fun u hu => ?_)
  show V x cX5_catches RX5 2 (rmU 3 64 0 0) [(ta, cn 0 21 (bg (bg tr 2) 1))] 10 [(0, ar h), (1, ai xx)] [ai (xx + num)] 0 0
  refine v_aload_n (pc := 10) 0 rfl dX5_catches_10 ?_
  refine v_get (pc := 11) (v := ai pv) 3 (Or.inl r0) fl_5_51_5 rfl dX5_catches_11 ?_
  refine v_isub (pc := 14) dX5_catches_14 ?_
  exact hret () _ _ _ _ _ _ trivial (congrArg (fun z => some (ai z)) (by rfl)) rfl (Nat.le_of_ble_eq_true rfl) (Nat.le_of_ble_eq_true rfl) dX5_catches_15
set_option maxHeartbeats 4000000 in
set_option maxRecDepth 100000 in
theorem c_X5_tells_k5 {gS : sG} (h : Nat) (ta : Nat) (kd : Int) (num : Int) (pv : Int) (sk : Int) (hn : Int) (gl : Int) (sc : Int) (pu : Int) (xx : Int) (tr : Int → Int) (htr : trB tr 930) : Ct gS (S := Unit) yX5_tells cX5_tells 2 (some .int) 5 106 0 0 [ar h, ai xx] [(ta, cn 0 21 tr)] (fun q => q ∈ ([(h, co 5 [ar ta, ai kd, ai num, ai pv, ai sk, ai hn, ai gl, ai sc, ai pu])] : aW)) (fun _ => True) (fun _ => some (ai (((xx + num) - pv) * 2))) (fun _ => [(ta, cn 0 21 (bg (bg (bg tr 3) 2) 1))]) := by
  refine ct_I RX5 [(0, ar h), (1, ai xx)] (by decide) rfl (Nat.le_of_ble_eq_true rfl) rfl (fun x hgS hro hret => ?_)
  subst hgS
  have r0 := hro _ (mem_at 0 rfl)
  show V x cX5_tells RX5 2 (rmU 5 106 0 0) [(ta, cn 0 21 tr)] 0 [(0, ar h), (1, ai xx)] [] 0 0
  refine v_aload_n (pc := 0) 0 rfl dX5_tells_0 ?_
  refine v_iconst (pc := 1) dX5_tells_1 ?_
  refine v_callU (pc := 2) [0] [] [] (z := yX5_begins) (As := [ai 3]) (rest := []) (c_X5_begins_k5 h ta kd num pv sk hn gl sc pu 3 tr (by exact trB_le htr (by decide))) (c := 5) rfl (Or.inl r0) wl_X5_82 wsm_22 wi_X5_begins wk_X5_begins wv_X5_X5_begins_X5_begins wi_X5_begins wk_X5_begins wz_X5 mdo_X5_begins rfl (Nat.le_of_ble_eq_true rfl) ⟨Nat.le_of_ble_eq_true rfl, Nat.le_of_ble_eq_true rfl, Nat.le_of_ble_eq_true rfl, Nat.le_of_ble_eq_true rfl⟩ rfl rfl rfl rfl (by decide) (ro_cons (Or.inl r0) ro_nil) dX5_tells_2 (fun u hu => ?_)
  show V x cX5_tells RX5 2 (rmU 5 106 0 0) [(ta, cn 0 21 (bg tr 3))] 5 [(0, ar h), (1, ai xx)] [] 0 0
  refine v_aload_n (pc := 5) 0 rfl dX5_tells_5 ?_
  refine v_iload_n (pc := 6) 1 rfl dX5_tells_6 ?_
  refine v_callU (pc := 7) [0] [] [] (z := yX5_catches) (As := [ai xx]) (rest := []) (c_X5_catches_k5 h ta kd num pv sk hn gl sc pu xx (bg tr 3) (by exact trB_le (trB_bg htr (Int.le_refl _)) (by decide))) (c := 5) rfl (Or.inl r0) wl_X5_89 wsm_8 wi_X5_catches wk_X5_catches wv_X5_X5_catches_X5_catches wi_X5_catches wk_X5_catches wz_X5 mdo_X5_catches rfl (Nat.le_of_ble_eq_true rfl) ⟨Nat.le_of_ble_eq_true rfl, Nat.le_of_ble_eq_true rfl, Nat.le_of_ble_eq_true rfl, Nat.le_of_ble_eq_true rfl⟩ rfl rfl rfl rfl (by decide) (ro_cons (Or.inl r0) ro_nil) dX5_tells_7 (fun u hu => ?_)
  show V x cX5_tells RX5 2 (rmU 5 106 0 0) [(ta, cn 0 21 (bg (bg (bg tr 3) 2) 1))] 10 [(0, ar h), (1, ai xx)] [ai ((xx + num) - pv)] 0 0
  refine v_iconst (pc := 10) dX5_tells_10 ?_
  refine v_imul (pc := 11) dX5_tells_11 ?_
  exact hret () _ _ _ _ _ _ trivial (congrArg (fun z => some (ai z)) (by rfl)) rfl (Nat.le_of_ble_eq_true rfl) (Nat.le_of_ble_eq_true rfl) dX5_tells_12
set_option maxHeartbeats 4000000 in
set_option maxRecDepth 100000 in
theorem c_X5_strikes_k8 {gS : sG} (h : Nat) (ta : Nat) (kd : Int) (num : Int) (pv : Int) (sk : Int) (hn : Int) (gl : Int) (sc : Int) (pu : Int) (xx : Int) (tr : Int → Int) (htr : trB tr 990) : Ct gS (S := Unit) yX5_strikes cX5_strikes 2 (some .int) 1 22 0 0 [ar h, ai xx] [(ta, cn 0 21 tr)] (fun q => q ∈ ([(h, co 8 [ar ta, ai kd, ai num, ai pv, ai sk, ai hn, ai gl, ai sc, ai pu])] : aW)) (fun _ => True) (fun _ => some (ai (xx + num))) (fun _ => [(ta, cn 0 21 (bg tr 1))]) := by
  refine ct_I RX5 [(0, ar h), (1, ai xx)] (by decide) rfl (Nat.le_of_ble_eq_true rfl) rfl (fun x hgS hro hret => ?_)
  subst hgS
  have r0 := hro _ (mem_at 0 rfl)
  show V x cX5_strikes RX5 2 (rmU 1 22 0 0) [(ta, cn 0 21 tr)] 0 [(0, ar h), (1, ai xx)] [] 0 0
  refine v_aload_n (pc := 0) 0 rfl dX5_strikes_0 ?_
  refine v_iconst (pc := 1) dX5_strikes_1 ?_
  refine v_callU (pc := 2) [0] [] [] (z := yX5_begins) (As := [ai 1]) (rest := []) (c_X5_begins_k8 h ta kd num pv sk hn gl sc pu 1 tr (by exact trB_le htr (by decide))) (c := 8) rfl (Or.inl r0) wl_X5_82 wsm_22 wi_X5_begins wk_X5_begins wv_X8_X5_begins_X5_begins wi_X5_begins wk_X5_begins wz_X5 mdo_X5_begins rfl (Nat.le_of_ble_eq_true rfl) ⟨Nat.le_of_ble_eq_true rfl, Nat.le_of_ble_eq_true rfl, Nat.le_of_ble_eq_true rfl, Nat.le_of_ble_eq_true rfl⟩ rfl rfl rfl rfl (by decide) (ro_cons (Or.inl r0) ro_nil) dX5_strikes_2 (fun u hu => ?_)
  show V x cX5_strikes RX5 2 (rmU 1 22 0 0) [(ta, cn 0 21 (bg tr 1))] 5 [(0, ar h), (1, ai xx)] [] 0 0
  refine v_iload_n (pc := 5) 1 rfl dX5_strikes_5 ?_
  refine v_aload_n (pc := 6) 0 rfl dX5_strikes_6 ?_
  refine v_get (pc := 7) (v := ai num) 2 (Or.inl r0) fl_5_48_8 rfl dX5_strikes_7 ?_
  refine v_iadd (pc := 10) dX5_strikes_10 ?_
  exact hret () _ _ _ _ _ _ trivial (congrArg (fun z => some (ai z)) (by rfl)) rfl (Nat.le_of_ble_eq_true rfl) (Nat.le_of_ble_eq_true rfl) dX5_strikes_11
set_option maxHeartbeats 4000000 in
set_option maxRecDepth 100000 in
theorem c_X8_strikes_k8 {gS : sG} (h : Nat) (ta : Nat) (kd : Int) (num : Int) (pv : Int) (sk : Int) (hn : Int) (gl : Int) (sc : Int) (pu : Int) (xx : Int) (tr : Int → Int) (htr : trB tr 980) : Ct gS (S := Unit) yX8_strikes cX8_strikes 2 (some .int) 2 43 0 0 [ar h, ai xx] [(ta, cn 0 21 tr)] (fun q => q ∈ ([(h, co 8 [ar ta, ai kd, ai num, ai pv, ai sk, ai hn, ai gl, ai sc, ai pu])] : aW)) (fun _ => True) (fun _ => some (ai ((xx * 3) + num))) (fun _ => [(ta, cn 0 21 (bg (bg tr 11) 1))]) := by
  refine ct_I RX8 [(0, ar h), (1, ai xx)] (by decide) rfl (Nat.le_of_ble_eq_true rfl) rfl (fun x hgS hro hret => ?_)
  subst hgS
  have r0 := hro _ (mem_at 0 rfl)
  show V x cX8_strikes RX8 2 (rmU 2 43 0 0) [(ta, cn 0 21 tr)] 0 [(0, ar h), (1, ai xx)] [] 0 0
  refine v_aload_n (pc := 0) 0 rfl dX8_strikes_0 ?_
  refine v_bipush (pc := 1) dX8_strikes_1 (by decide) ?_
  refine v_callU (pc := 3) [0] [] [] (z := ⟨RX8, "begins", "(I)V"⟩) (As := [ai 11]) (rest := []) (c_X5_begins_k8 h ta kd num pv sk hn gl sc pu 11 tr (by exact trB_le htr (by decide))) (c := 8) rfl (Or.inl r0) wl_X8_11 wsm_5 wi_X5_begins wk_X5_begins wv_X8_X8_begins_X5_begins wi_X5_begins wk_X5_begins wz_X5 mdo_X5_begins rfl (Nat.le_of_ble_eq_true rfl) ⟨Nat.le_of_ble_eq_true rfl, Nat.le_of_ble_eq_true rfl, Nat.le_of_ble_eq_true rfl, Nat.le_of_ble_eq_true rfl⟩ rfl rfl rfl rfl (by decide) (ro_cons (Or.inl r0) ro_nil) dX8_strikes_3 (fun u hu => ?_)
  show V x cX8_strikes RX8 2 (rmU 2 43 0 0) [(ta, cn 0 21 (bg tr 11))] 6 [(0, ar h), (1, ai xx)] [] 0 0
  refine v_aload_n (pc := 6) 0 rfl dX8_strikes_6 ?_
  refine v_iload_n (pc := 7) 1 rfl dX8_strikes_7 ?_
  refine v_iconst (pc := 8) dX8_strikes_8 ?_
  refine v_imul (pc := 9) dX8_strikes_9 ?_
  refine v_callSU (pc := 10) [0] [] [] (z := yX5_strikes) (As := [ai (xx * 3)]) (rest := []) (c_X5_strikes_k8 h ta kd num pv sk hn gl sc pu (xx * 3) (bg tr 11) (by exact trB_le (trB_bg htr (Int.le_refl _)) (by decide))) (c := 8) rfl wsc_8 (Or.inl r0) wl_X8_17 wsm_4 wsc_8 (Or.inl rfl) rfl wi_X5_strikes wk_X5_strikes wz_X5 mds_X5_strikes rfl (Nat.le_of_ble_eq_true rfl) ⟨Nat.le_of_ble_eq_true rfl, Nat.le_of_ble_eq_true rfl, Nat.le_of_ble_eq_true rfl, Nat.le_of_ble_eq_true rfl⟩ rfl rfl rfl rfl (by decide) (ro_cons (Or.inl r0) ro_nil) dX8_strikes_10 (fun u hu => ?_)
  show V x cX8_strikes RX8 2 (rmU 2 43 0 0) [(ta, cn 0 21 (bg (bg tr 11) 1))] 13 [(0, ar h), (1, ai xx)] [ai ((xx * 3) + num)] 0 0
  exact hret () _ _ _ _ _ _ trivial (congrArg (fun z => some (ai z)) (by rfl)) rfl (Nat.le_of_ble_eq_true rfl) (Nat.le_of_ble_eq_true rfl) dX8_strikes_13
set_option maxHeartbeats 4000000 in
set_option maxRecDepth 100000 in
theorem c_X5_catches_k8 {gS : sG} (h : Nat) (ta : Nat) (kd : Int) (num : Int) (pv : Int) (sk : Int) (hn : Int) (gl : Int) (sc : Int) (pu : Int) (xx : Int) (tr : Int → Int) (htr : trB tr 960) : Ct gS (S := Unit) yX5_catches cX5_catches 2 (some .int) 3 64 0 0 [ar h, ai xx] [(ta, cn 0 21 tr)] (fun q => q ∈ ([(h, co 8 [ar ta, ai kd, ai num, ai pv, ai sk, ai hn, ai gl, ai sc, ai pu])] : aW)) (fun _ => True) (fun _ => some (ai (((xx * 3) + num) - pv))) (fun _ => [(ta, cn 0 21 (bg (bg (bg tr 2) 11) 1))]) := by
  refine ct_I RX5 [(0, ar h), (1, ai xx)] (by decide) rfl (Nat.le_of_ble_eq_true rfl) rfl (fun x hgS hro hret => ?_)
  subst hgS
  have r0 := hro _ (mem_at 0 rfl)
  show V x cX5_catches RX5 2 (rmU 3 64 0 0) [(ta, cn 0 21 tr)] 0 [(0, ar h), (1, ai xx)] [] 0 0
  refine v_aload_n (pc := 0) 0 rfl dX5_catches_0 ?_
  refine v_iconst (pc := 1) dX5_catches_1 ?_
  refine v_callU (pc := 2) [0] [] [] (z := yX5_begins) (As := [ai 2]) (rest := []) (c_X5_begins_k8 h ta kd num pv sk hn gl sc pu 2 tr (by exact trB_le htr (by decide))) (c := 8) rfl (Or.inl r0) wl_X5_82 wsm_22 wi_X5_begins wk_X5_begins wv_X8_X5_begins_X5_begins wi_X5_begins wk_X5_begins wz_X5 mdo_X5_begins rfl (Nat.le_of_ble_eq_true rfl) ⟨Nat.le_of_ble_eq_true rfl, Nat.le_of_ble_eq_true rfl, Nat.le_of_ble_eq_true rfl, Nat.le_of_ble_eq_true rfl⟩ rfl rfl rfl rfl (by decide) (ro_cons (Or.inl r0) ro_nil) dX5_catches_2 (fun u hu => ?_)
  show V x cX5_catches RX5 2 (rmU 3 64 0 0) [(ta, cn 0 21 (bg tr 2))] 5 [(0, ar h), (1, ai xx)] [] 0 0
  refine v_aload_n (pc := 5) 0 rfl dX5_catches_5 ?_
  refine v_iload_n (pc := 6) 1 rfl dX5_catches_6 ?_
  refine v_callU (pc := 7) [0] [] [] (z := yX5_strikes) (As := [ai xx]) (rest := []) (c_X8_strikes_k8 h ta kd num pv sk hn gl sc pu xx (bg tr 2) (by exact trB_le (trB_bg htr (Int.le_refl _)) (by decide))) (c := 8) rfl (Or.inl r0) wl_X5_86 wsm_4 wi_X5_strikes wk_X5_strikes wv_X8_X5_strikes_X8_strikes wi_X8_strikes wk_X8_strikes wz_X8 mdo_X5_strikes rfl (Nat.le_of_ble_eq_true rfl) ⟨Nat.le_of_ble_eq_true rfl, Nat.le_of_ble_eq_true rfl, Nat.le_of_ble_eq_true rfl, Nat.le_of_ble_eq_true rfl⟩ rfl rfl rfl rfl (by decide) (ro_cons (Or.inl r0) ro_nil) dX5_catches_7 (fun u hu => ?_)
  show V x cX5_catches RX5 2 (rmU 3 64 0 0) [(ta, cn 0 21 (bg (bg (bg tr 2) 11) 1))] 10 [(0, ar h), (1, ai xx)] [ai ((xx * 3) + num)] 0 0
  refine v_aload_n (pc := 10) 0 rfl dX5_catches_10 ?_
  refine v_get (pc := 11) (v := ai pv) 3 (Or.inl r0) fl_5_51_8 rfl dX5_catches_11 ?_
  refine v_isub (pc := 14) dX5_catches_14 ?_
  exact hret () _ _ _ _ _ _ trivial (congrArg (fun z => some (ai z)) (by rfl)) rfl (Nat.le_of_ble_eq_true rfl) (Nat.le_of_ble_eq_true rfl) dX5_catches_15
set_option maxHeartbeats 4000000 in
set_option maxRecDepth 100000 in
theorem c_X5_tells_k8 {gS : sG} (h : Nat) (ta : Nat) (kd : Int) (num : Int) (pv : Int) (sk : Int) (hn : Int) (gl : Int) (sc : Int) (pu : Int) (xx : Int) (tr : Int → Int) (htr : trB tr 930) : Ct gS (S := Unit) yX5_tells cX5_tells 2 (some .int) 5 106 0 0 [ar h, ai xx] [(ta, cn 0 21 tr)] (fun q => q ∈ ([(h, co 8 [ar ta, ai kd, ai num, ai pv, ai sk, ai hn, ai gl, ai sc, ai pu])] : aW)) (fun _ => True) (fun _ => some (ai ((((xx * 3) + num) - pv) * 2))) (fun _ => [(ta, cn 0 21 (bg (bg (bg (bg tr 3) 2) 11) 1))]) := by
  refine ct_I RX5 [(0, ar h), (1, ai xx)] (by decide) rfl (Nat.le_of_ble_eq_true rfl) rfl (fun x hgS hro hret => ?_)
  subst hgS
  have r0 := hro _ (mem_at 0 rfl)
  show V x cX5_tells RX5 2 (rmU 5 106 0 0) [(ta, cn 0 21 tr)] 0 [(0, ar h), (1, ai xx)] [] 0 0
  refine v_aload_n (pc := 0) 0 rfl dX5_tells_0 ?_
  refine v_iconst (pc := 1) dX5_tells_1 ?_
  refine v_callU (pc := 2) [0] [] [] (z := yX5_begins) (As := [ai 3]) (rest := []) (c_X5_begins_k8 h ta kd num pv sk hn gl sc pu 3 tr (by exact trB_le htr (by decide))) (c := 8) rfl (Or.inl r0) wl_X5_82 wsm_22 wi_X5_begins wk_X5_begins wv_X8_X5_begins_X5_begins wi_X5_begins wk_X5_begins wz_X5 mdo_X5_begins rfl (Nat.le_of_ble_eq_true rfl) ⟨Nat.le_of_ble_eq_true rfl, Nat.le_of_ble_eq_true rfl, Nat.le_of_ble_eq_true rfl, Nat.le_of_ble_eq_true rfl⟩ rfl rfl rfl rfl (by decide) (ro_cons (Or.inl r0) ro_nil) dX5_tells_2 (fun u hu => ?_)
  show V x cX5_tells RX5 2 (rmU 5 106 0 0) [(ta, cn 0 21 (bg tr 3))] 5 [(0, ar h), (1, ai xx)] [] 0 0
  refine v_aload_n (pc := 5) 0 rfl dX5_tells_5 ?_
  refine v_iload_n (pc := 6) 1 rfl dX5_tells_6 ?_
  refine v_callU (pc := 7) [0] [] [] (z := yX5_catches) (As := [ai xx]) (rest := []) (c_X5_catches_k8 h ta kd num pv sk hn gl sc pu xx (bg tr 3) (by exact trB_le (trB_bg htr (Int.le_refl _)) (by decide))) (c := 8) rfl (Or.inl r0) wl_X5_89 wsm_8 wi_X5_catches wk_X5_catches wv_X8_X5_catches_X5_catches wi_X5_catches wk_X5_catches wz_X5 mdo_X5_catches rfl (Nat.le_of_ble_eq_true rfl) ⟨Nat.le_of_ble_eq_true rfl, Nat.le_of_ble_eq_true rfl, Nat.le_of_ble_eq_true rfl, Nat.le_of_ble_eq_true rfl⟩ rfl rfl rfl rfl (by decide) (ro_cons (Or.inl r0) ro_nil) dX5_tells_7 (fun u hu => ?_)
  show V x cX5_tells RX5 2 (rmU 5 106 0 0) [(ta, cn 0 21 (bg (bg (bg (bg tr 3) 2) 11) 1))] 10 [(0, ar h), (1, ai xx)] [ai (((xx * 3) + num) - pv)] 0 0
  refine v_iconst (pc := 10) dX5_tells_10 ?_
  refine v_imul (pc := 11) dX5_tells_11 ?_
  exact hret () _ _ _ _ _ _ trivial (congrArg (fun z => some (ai z)) (by rfl)) rfl (Nat.le_of_ble_eq_true rfl) (Nat.le_of_ble_eq_true rfl) dX5_tells_12
set_option maxHeartbeats 4000000 in
set_option maxRecDepth 100000 in
theorem c_X5_strikes_k0 {gS : sG} (h : Nat) (ta : Nat) (kd : Int) (num : Int) (pv : Int) (sk : Int) (hn : Int) (gl : Int) (sc : Int) (pu : Int) (xx : Int) (tr : Int → Int) (htr : trB tr 990) : Ct gS (S := Unit) yX5_strikes cX5_strikes 2 (some .int) 1 22 0 0 [ar h, ai xx] [(ta, cn 0 21 tr)] (fun q => q ∈ ([(h, co 0 [ar ta, ai kd, ai num, ai pv, ai sk, ai hn, ai gl, ai sc, ai pu])] : aW)) (fun _ => True) (fun _ => some (ai (xx + num))) (fun _ => [(ta, cn 0 21 (bg tr 1))]) := by
  refine ct_I RX5 [(0, ar h), (1, ai xx)] (by decide) rfl (Nat.le_of_ble_eq_true rfl) rfl (fun x hgS hro hret => ?_)
  subst hgS
  have r0 := hro _ (mem_at 0 rfl)
  show V x cX5_strikes RX5 2 (rmU 1 22 0 0) [(ta, cn 0 21 tr)] 0 [(0, ar h), (1, ai xx)] [] 0 0
  refine v_aload_n (pc := 0) 0 rfl dX5_strikes_0 ?_
  refine v_iconst (pc := 1) dX5_strikes_1 ?_
  refine v_callU (pc := 2) [0] [] [] (z := yX5_begins) (As := [ai 1]) (rest := []) (c_X5_begins_k0 h ta kd num pv sk hn gl sc pu 1 tr (by exact trB_le htr (by decide))) (c := 0) rfl (Or.inl r0) wl_X5_82 wsm_22 wi_X5_begins wk_X5_begins wv_X0_X5_begins_X5_begins wi_X5_begins wk_X5_begins wz_X5 mdo_X5_begins rfl (Nat.le_of_ble_eq_true rfl) ⟨Nat.le_of_ble_eq_true rfl, Nat.le_of_ble_eq_true rfl, Nat.le_of_ble_eq_true rfl, Nat.le_of_ble_eq_true rfl⟩ rfl rfl rfl rfl (by decide) (ro_cons (Or.inl r0) ro_nil) dX5_strikes_2 (fun u hu => ?_)
  show V x cX5_strikes RX5 2 (rmU 1 22 0 0) [(ta, cn 0 21 (bg tr 1))] 5 [(0, ar h), (1, ai xx)] [] 0 0
  refine v_iload_n (pc := 5) 1 rfl dX5_strikes_5 ?_
  refine v_aload_n (pc := 6) 0 rfl dX5_strikes_6 ?_
  refine v_get (pc := 7) (v := ai num) 2 (Or.inl r0) fl_5_48_0 rfl dX5_strikes_7 ?_
  refine v_iadd (pc := 10) dX5_strikes_10 ?_
  exact hret () _ _ _ _ _ _ trivial (congrArg (fun z => some (ai z)) (by rfl)) rfl (Nat.le_of_ble_eq_true rfl) (Nat.le_of_ble_eq_true rfl) dX5_strikes_11
set_option maxHeartbeats 4000000 in
set_option maxRecDepth 100000 in
theorem c_X5_catches_k0 {gS : sG} (h : Nat) (ta : Nat) (kd : Int) (num : Int) (pv : Int) (sk : Int) (hn : Int) (gl : Int) (sc : Int) (pu : Int) (xx : Int) (tr : Int → Int) (htr : trB tr 960) : Ct gS (S := Unit) yX5_catches cX5_catches 2 (some .int) 3 64 0 0 [ar h, ai xx] [(ta, cn 0 21 tr)] (fun q => q ∈ ([(h, co 0 [ar ta, ai kd, ai num, ai pv, ai sk, ai hn, ai gl, ai sc, ai pu])] : aW)) (fun _ => True) (fun _ => some (ai ((xx + num) - pv))) (fun _ => [(ta, cn 0 21 (bg (bg tr 2) 1))]) := by
  refine ct_I RX5 [(0, ar h), (1, ai xx)] (by decide) rfl (Nat.le_of_ble_eq_true rfl) rfl (fun x hgS hro hret => ?_)
  subst hgS
  have r0 := hro _ (mem_at 0 rfl)
  show V x cX5_catches RX5 2 (rmU 3 64 0 0) [(ta, cn 0 21 tr)] 0 [(0, ar h), (1, ai xx)] [] 0 0
  refine v_aload_n (pc := 0) 0 rfl dX5_catches_0 ?_
  refine v_iconst (pc := 1) dX5_catches_1 ?_
  refine v_callU (pc := 2) [0] [] [] (z := yX5_begins) (As := [ai 2]) (rest := []) (c_X5_begins_k0 h ta kd num pv sk hn gl sc pu 2 tr (by exact trB_le htr (by decide))) (c := 0) rfl (Or.inl r0) wl_X5_82 wsm_22 wi_X5_begins wk_X5_begins wv_X0_X5_begins_X5_begins wi_X5_begins wk_X5_begins wz_X5 mdo_X5_begins rfl (Nat.le_of_ble_eq_true rfl) ⟨Nat.le_of_ble_eq_true rfl, Nat.le_of_ble_eq_true rfl, Nat.le_of_ble_eq_true rfl, Nat.le_of_ble_eq_true rfl⟩ rfl rfl rfl rfl (by decide) (ro_cons (Or.inl r0) ro_nil) dX5_catches_2 (fun u hu => ?_)
  show V x cX5_catches RX5 2 (rmU 3 64 0 0) [(ta, cn 0 21 (bg tr 2))] 5 [(0, ar h), (1, ai xx)] [] 0 0
  refine v_aload_n (pc := 5) 0 rfl dX5_catches_5 ?_
  refine v_iload_n (pc := 6) 1 rfl dX5_catches_6 ?_
  refine v_callU (pc := 7) [0] [] [] (z := yX5_strikes) (As := [ai xx]) (rest := []) (c_X5_strikes_k0 h ta kd num pv sk hn gl sc pu xx (bg tr 2) (by exact trB_le (trB_bg htr (Int.le_refl _)) (by decide))) (c := 0) rfl (Or.inl r0) wl_X5_86 wsm_4 wi_X5_strikes wk_X5_strikes wv_X0_X5_strikes_X5_strikes wi_X5_strikes wk_X5_strikes wz_X5 mdo_X5_strikes rfl (Nat.le_of_ble_eq_true rfl) ⟨Nat.le_of_ble_eq_true rfl, Nat.le_of_ble_eq_true rfl, Nat.le_of_ble_eq_true rfl, Nat.le_of_ble_eq_true rfl⟩ rfl rfl rfl rfl (by decide) (ro_cons (Or.inl r0) ro_nil) dX5_catches_7 (fun u hu => ?_)
  show V x cX5_catches RX5 2 (rmU 3 64 0 0) [(ta, cn 0 21 (bg (bg tr 2) 1))] 10 [(0, ar h), (1, ai xx)] [ai (xx + num)] 0 0
  refine v_aload_n (pc := 10) 0 rfl dX5_catches_10 ?_
  refine v_get (pc := 11) (v := ai pv) 3 (Or.inl r0) fl_5_51_0 rfl dX5_catches_11 ?_
  refine v_isub (pc := 14) dX5_catches_14 ?_
  exact hret () _ _ _ _ _ _ trivial (congrArg (fun z => some (ai z)) (by rfl)) rfl (Nat.le_of_ble_eq_true rfl) (Nat.le_of_ble_eq_true rfl) dX5_catches_15
set_option maxHeartbeats 4000000 in
set_option maxRecDepth 100000 in
theorem c_X0_catches_k0 {gS : sG} (h : Nat) (ta : Nat) (kd : Int) (num : Int) (pv : Int) (sk : Int) (hn : Int) (gl : Int) (sc : Int) (pu : Int) (xx : Int) (tr : Int → Int) (htr : trB tr 950) : Ct gS (S := Unit) yX0_catches cX0_catches 2 (some .int) 4 85 0 0 [ar h, ai xx] [(ta, cn 0 21 tr)] (fun q => q ∈ ([(h, co 0 [ar ta, ai kd, ai num, ai pv, ai sk, ai hn, ai gl, ai sc, ai pu])] : aW)) (fun _ => True) (fun _ => some (ai (-((xx + num) - pv)))) (fun _ => [(ta, cn 0 21 (bg (bg (bg tr 21) 2) 1))]) := by
  refine ct_I RX0 [(0, ar h), (1, ai xx)] (by decide) rfl (Nat.le_of_ble_eq_true rfl) rfl (fun x hgS hro hret => ?_)
  subst hgS
  have r0 := hro _ (mem_at 0 rfl)
  show V x cX0_catches RX0 2 (rmU 4 85 0 0) [(ta, cn 0 21 tr)] 0 [(0, ar h), (1, ai xx)] [] 0 0
  refine v_aload_n (pc := 0) 0 rfl dX0_catches_0 ?_
  refine v_bipush (pc := 1) dX0_catches_1 (by decide) ?_
  refine v_callU (pc := 3) [0] [] [] (z := ⟨RX0, "begins", "(I)V"⟩) (As := [ai 21]) (rest := []) (c_X5_begins_k0 h ta kd num pv sk hn gl sc pu 21 tr (by exact trB_le htr (by decide))) (c := 0) rfl (Or.inl r0) wl_X0_13 wsm_9 wi_X5_begins wk_X5_begins wv_X0_X0_begins_X5_begins wi_X5_begins wk_X5_begins wz_X5 mdo_X5_begins rfl (Nat.le_of_ble_eq_true rfl) ⟨Nat.le_of_ble_eq_true rfl, Nat.le_of_ble_eq_true rfl, Nat.le_of_ble_eq_true rfl, Nat.le_of_ble_eq_true rfl⟩ rfl rfl rfl rfl (by decide) (ro_cons (Or.inl r0) ro_nil) dX0_catches_3 (fun u hu => ?_)
  show V x cX0_catches RX0 2 (rmU 4 85 0 0) [(ta, cn 0 21 (bg tr 21))] 6 [(0, ar h), (1, ai xx)] [] 0 0
  refine v_aload_n (pc := 6) 0 rfl dX0_catches_6 ?_
  refine v_iload_n (pc := 7) 1 rfl dX0_catches_7 ?_
  refine v_callSU (pc := 8) [0] [] [] (z := yX5_catches) (As := [ai xx]) (rest := []) (c_X5_catches_k0 h ta kd num pv sk hn gl sc pu xx (bg tr 21) (by exact trB_le (trB_bg htr (Int.le_refl _)) (by decide))) (c := 0) rfl wsc_0 (Or.inl r0) wl_X0_17 wsm_8 wsc_0 (Or.inl rfl) rfl wi_X5_catches wk_X5_catches wz_X5 mds_X5_catches rfl (Nat.le_of_ble_eq_true rfl) ⟨Nat.le_of_ble_eq_true rfl, Nat.le_of_ble_eq_true rfl, Nat.le_of_ble_eq_true rfl, Nat.le_of_ble_eq_true rfl⟩ rfl rfl rfl rfl (by decide) (ro_cons (Or.inl r0) ro_nil) dX0_catches_8 (fun u hu => ?_)
  show V x cX0_catches RX0 2 (rmU 4 85 0 0) [(ta, cn 0 21 (bg (bg (bg tr 21) 2) 1))] 11 [(0, ar h), (1, ai xx)] [ai ((xx + num) - pv)] 0 0
  refine v_ineg (pc := 11) dX0_catches_11 ?_
  exact hret () _ _ _ _ _ _ trivial (congrArg (fun z => some (ai z)) (by rfl)) rfl (Nat.le_of_ble_eq_true rfl) (Nat.le_of_ble_eq_true rfl) dX0_catches_12
set_option maxHeartbeats 4000000 in
set_option maxRecDepth 100000 in
theorem c_X5_tells_k0 {gS : sG} (h : Nat) (ta : Nat) (kd : Int) (num : Int) (pv : Int) (sk : Int) (hn : Int) (gl : Int) (sc : Int) (pu : Int) (xx : Int) (tr : Int → Int) (htr : trB tr 930) : Ct gS (S := Unit) yX5_tells cX5_tells 2 (some .int) 5 106 0 0 [ar h, ai xx] [(ta, cn 0 21 tr)] (fun q => q ∈ ([(h, co 0 [ar ta, ai kd, ai num, ai pv, ai sk, ai hn, ai gl, ai sc, ai pu])] : aW)) (fun _ => True) (fun _ => some (ai ((-((xx + num) - pv)) * 2))) (fun _ => [(ta, cn 0 21 (bg (bg (bg (bg tr 3) 21) 2) 1))]) := by
  refine ct_I RX5 [(0, ar h), (1, ai xx)] (by decide) rfl (Nat.le_of_ble_eq_true rfl) rfl (fun x hgS hro hret => ?_)
  subst hgS
  have r0 := hro _ (mem_at 0 rfl)
  show V x cX5_tells RX5 2 (rmU 5 106 0 0) [(ta, cn 0 21 tr)] 0 [(0, ar h), (1, ai xx)] [] 0 0
  refine v_aload_n (pc := 0) 0 rfl dX5_tells_0 ?_
  refine v_iconst (pc := 1) dX5_tells_1 ?_
  refine v_callU (pc := 2) [0] [] [] (z := yX5_begins) (As := [ai 3]) (rest := []) (c_X5_begins_k0 h ta kd num pv sk hn gl sc pu 3 tr (by exact trB_le htr (by decide))) (c := 0) rfl (Or.inl r0) wl_X5_82 wsm_22 wi_X5_begins wk_X5_begins wv_X0_X5_begins_X5_begins wi_X5_begins wk_X5_begins wz_X5 mdo_X5_begins rfl (Nat.le_of_ble_eq_true rfl) ⟨Nat.le_of_ble_eq_true rfl, Nat.le_of_ble_eq_true rfl, Nat.le_of_ble_eq_true rfl, Nat.le_of_ble_eq_true rfl⟩ rfl rfl rfl rfl (by decide) (ro_cons (Or.inl r0) ro_nil) dX5_tells_2 (fun u hu => ?_)
  show V x cX5_tells RX5 2 (rmU 5 106 0 0) [(ta, cn 0 21 (bg tr 3))] 5 [(0, ar h), (1, ai xx)] [] 0 0
  refine v_aload_n (pc := 5) 0 rfl dX5_tells_5 ?_
  refine v_iload_n (pc := 6) 1 rfl dX5_tells_6 ?_
  refine v_callU (pc := 7) [0] [] [] (z := yX5_catches) (As := [ai xx]) (rest := []) (c_X0_catches_k0 h ta kd num pv sk hn gl sc pu xx (bg tr 3) (by exact trB_le (trB_bg htr (Int.le_refl _)) (by decide))) (c := 0) rfl (Or.inl r0) wl_X5_89 wsm_8 wi_X5_catches wk_X5_catches wv_X0_X5_catches_X0_catches wi_X0_catches wk_X0_catches wz_X0 mdo_X5_catches rfl (Nat.le_of_ble_eq_true rfl) ⟨Nat.le_of_ble_eq_true rfl, Nat.le_of_ble_eq_true rfl, Nat.le_of_ble_eq_true rfl, Nat.le_of_ble_eq_true rfl⟩ rfl rfl rfl rfl (by decide) (ro_cons (Or.inl r0) ro_nil) dX5_tells_7 (fun u hu => ?_)
  show V x cX5_tells RX5 2 (rmU 5 106 0 0) [(ta, cn 0 21 (bg (bg (bg (bg tr 3) 21) 2) 1))] 10 [(0, ar h), (1, ai xx)] [ai (-((xx + num) - pv))] 0 0
  refine v_iconst (pc := 10) dX5_tells_10 ?_
  refine v_imul (pc := 11) dX5_tells_11 ?_
  exact hret () _ _ _ _ _ _ trivial (congrArg (fun z => some (ai z)) (by rfl)) rfl (Nat.le_of_ble_eq_true rfl) (Nat.le_of_ble_eq_true rfl) dX5_tells_12
set_option maxHeartbeats 4000000 in
set_option maxRecDepth 100000 in
theorem c_X5_strikes_k7 {gS : sG} (h : Nat) (ta : Nat) (kd : Int) (num : Int) (pv : Int) (sk : Int) (hn : Int) (gl : Int) (sc : Int) (pu : Int) (xx : Int) (tr : Int → Int) (htr : trB tr 990) : Ct gS (S := Unit) yX5_strikes cX5_strikes 2 (some .int) 1 22 0 0 [ar h, ai xx] [(ta, cn 0 21 tr)] (fun q => q ∈ ([(h, co 7 [ar ta, ai kd, ai num, ai pv, ai sk, ai hn, ai gl, ai sc, ai pu])] : aW)) (fun _ => True) (fun _ => some (ai (xx + num))) (fun _ => [(ta, cn 0 21 (bg tr 1))]) := by
  refine ct_I RX5 [(0, ar h), (1, ai xx)] (by decide) rfl (Nat.le_of_ble_eq_true rfl) rfl (fun x hgS hro hret => ?_)
  subst hgS
  have r0 := hro _ (mem_at 0 rfl)
  show V x cX5_strikes RX5 2 (rmU 1 22 0 0) [(ta, cn 0 21 tr)] 0 [(0, ar h), (1, ai xx)] [] 0 0
  refine v_aload_n (pc := 0) 0 rfl dX5_strikes_0 ?_
  refine v_iconst (pc := 1) dX5_strikes_1 ?_
  refine v_callU (pc := 2) [0] [] [] (z := yX5_begins) (As := [ai 1]) (rest := []) (c_X5_begins_k7 h ta kd num pv sk hn gl sc pu 1 tr (by exact trB_le htr (by decide))) (c := 7) rfl (Or.inl r0) wl_X5_82 wsm_22 wi_X5_begins wk_X5_begins wv_X7_X5_begins_X5_begins wi_X5_begins wk_X5_begins wz_X5 mdo_X5_begins rfl (Nat.le_of_ble_eq_true rfl) ⟨Nat.le_of_ble_eq_true rfl, Nat.le_of_ble_eq_true rfl, Nat.le_of_ble_eq_true rfl, Nat.le_of_ble_eq_true rfl⟩ rfl rfl rfl rfl (by decide) (ro_cons (Or.inl r0) ro_nil) dX5_strikes_2 (fun u hu => ?_)
  show V x cX5_strikes RX5 2 (rmU 1 22 0 0) [(ta, cn 0 21 (bg tr 1))] 5 [(0, ar h), (1, ai xx)] [] 0 0
  refine v_iload_n (pc := 5) 1 rfl dX5_strikes_5 ?_
  refine v_aload_n (pc := 6) 0 rfl dX5_strikes_6 ?_
  refine v_get (pc := 7) (v := ai num) 2 (Or.inl r0) fl_5_48_7 rfl dX5_strikes_7 ?_
  refine v_iadd (pc := 10) dX5_strikes_10 ?_
  exact hret () _ _ _ _ _ _ trivial (congrArg (fun z => some (ai z)) (by rfl)) rfl (Nat.le_of_ble_eq_true rfl) (Nat.le_of_ble_eq_true rfl) dX5_strikes_11
set_option maxHeartbeats 4000000 in
set_option maxRecDepth 100000 in
theorem c_X5_catches_k7 {gS : sG} (h : Nat) (ta : Nat) (kd : Int) (num : Int) (pv : Int) (sk : Int) (hn : Int) (gl : Int) (sc : Int) (pu : Int) (xx : Int) (tr : Int → Int) (htr : trB tr 960) : Ct gS (S := Unit) yX5_catches cX5_catches 2 (some .int) 3 64 0 0 [ar h, ai xx] [(ta, cn 0 21 tr)] (fun q => q ∈ ([(h, co 7 [ar ta, ai kd, ai num, ai pv, ai sk, ai hn, ai gl, ai sc, ai pu])] : aW)) (fun _ => True) (fun _ => some (ai ((xx + num) - pv))) (fun _ => [(ta, cn 0 21 (bg (bg tr 2) 1))]) := by
  refine ct_I RX5 [(0, ar h), (1, ai xx)] (by decide) rfl (Nat.le_of_ble_eq_true rfl) rfl (fun x hgS hro hret => ?_)
  subst hgS
  have r0 := hro _ (mem_at 0 rfl)
  show V x cX5_catches RX5 2 (rmU 3 64 0 0) [(ta, cn 0 21 tr)] 0 [(0, ar h), (1, ai xx)] [] 0 0
  refine v_aload_n (pc := 0) 0 rfl dX5_catches_0 ?_
  refine v_iconst (pc := 1) dX5_catches_1 ?_
  refine v_callU (pc := 2) [0] [] [] (z := yX5_begins) (As := [ai 2]) (rest := []) (c_X5_begins_k7 h ta kd num pv sk hn gl sc pu 2 tr (by exact trB_le htr (by decide))) (c := 7) rfl (Or.inl r0) wl_X5_82 wsm_22 wi_X5_begins wk_X5_begins wv_X7_X5_begins_X5_begins wi_X5_begins wk_X5_begins wz_X5 mdo_X5_begins rfl (Nat.le_of_ble_eq_true rfl) ⟨Nat.le_of_ble_eq_true rfl, Nat.le_of_ble_eq_true rfl, Nat.le_of_ble_eq_true rfl, Nat.le_of_ble_eq_true rfl⟩ rfl rfl rfl rfl (by decide) (ro_cons (Or.inl r0) ro_nil) dX5_catches_2 (fun u hu => ?_)
  show V x cX5_catches RX5 2 (rmU 3 64 0 0) [(ta, cn 0 21 (bg tr 2))] 5 [(0, ar h), (1, ai xx)] [] 0 0
  refine v_aload_n (pc := 5) 0 rfl dX5_catches_5 ?_
  refine v_iload_n (pc := 6) 1 rfl dX5_catches_6 ?_
  refine v_callU (pc := 7) [0] [] [] (z := yX5_strikes) (As := [ai xx]) (rest := []) (c_X5_strikes_k7 h ta kd num pv sk hn gl sc pu xx (bg tr 2) (by exact trB_le (trB_bg htr (Int.le_refl _)) (by decide))) (c := 7) rfl (Or.inl r0) wl_X5_86 wsm_4 wi_X5_strikes wk_X5_strikes wv_X7_X5_strikes_X5_strikes wi_X5_strikes wk_X5_strikes wz_X5 mdo_X5_strikes rfl (Nat.le_of_ble_eq_true rfl) ⟨Nat.le_of_ble_eq_true rfl, Nat.le_of_ble_eq_true rfl, Nat.le_of_ble_eq_true rfl, Nat.le_of_ble_eq_true rfl⟩ rfl rfl rfl rfl (by decide) (ro_cons (Or.inl r0) ro_nil) dX5_catches_7 (fun u hu => ?_)
  show V x cX5_catches RX5 2 (rmU 3 64 0 0) [(ta, cn 0 21 (bg (bg tr 2) 1))] 10 [(0, ar h), (1, ai xx)] [ai (xx + num)] 0 0
  refine v_aload_n (pc := 10) 0 rfl dX5_catches_10 ?_
  refine v_get (pc := 11) (v := ai pv) 3 (Or.inl r0) fl_5_51_7 rfl dX5_catches_11 ?_
  refine v_isub (pc := 14) dX5_catches_14 ?_
  exact hret () _ _ _ _ _ _ trivial (congrArg (fun z => some (ai z)) (by rfl)) rfl (Nat.le_of_ble_eq_true rfl) (Nat.le_of_ble_eq_true rfl) dX5_catches_15
set_option maxHeartbeats 4000000 in
set_option maxRecDepth 100000 in
theorem c_X5_tells_k7 {gS : sG} (h : Nat) (ta : Nat) (kd : Int) (num : Int) (pv : Int) (sk : Int) (hn : Int) (gl : Int) (sc : Int) (pu : Int) (xx : Int) (tr : Int → Int) (htr : trB tr 930) : Ct gS (S := Unit) yX5_tells cX5_tells 2 (some .int) 5 106 0 0 [ar h, ai xx] [(ta, cn 0 21 tr)] (fun q => q ∈ ([(h, co 7 [ar ta, ai kd, ai num, ai pv, ai sk, ai hn, ai gl, ai sc, ai pu])] : aW)) (fun _ => True) (fun _ => some (ai (((xx + num) - pv) * 2))) (fun _ => [(ta, cn 0 21 (bg (bg (bg tr 3) 2) 1))]) := by
  refine ct_I RX5 [(0, ar h), (1, ai xx)] (by decide) rfl (Nat.le_of_ble_eq_true rfl) rfl (fun x hgS hro hret => ?_)
  subst hgS
  have r0 := hro _ (mem_at 0 rfl)
  show V x cX5_tells RX5 2 (rmU 5 106 0 0) [(ta, cn 0 21 tr)] 0 [(0, ar h), (1, ai xx)] [] 0 0
  refine v_aload_n (pc := 0) 0 rfl dX5_tells_0 ?_
  refine v_iconst (pc := 1) dX5_tells_1 ?_
  refine v_callU (pc := 2) [0] [] [] (z := yX5_begins) (As := [ai 3]) (rest := []) (c_X5_begins_k7 h ta kd num pv sk hn gl sc pu 3 tr (by exact trB_le htr (by decide))) (c := 7) rfl (Or.inl r0) wl_X5_82 wsm_22 wi_X5_begins wk_X5_begins wv_X7_X5_begins_X5_begins wi_X5_begins wk_X5_begins wz_X5 mdo_X5_begins rfl (Nat.le_of_ble_eq_true rfl) ⟨Nat.le_of_ble_eq_true rfl, Nat.le_of_ble_eq_true rfl, Nat.le_of_ble_eq_true rfl, Nat.le_of_ble_eq_true rfl⟩ rfl rfl rfl rfl (by decide) (ro_cons (Or.inl r0) ro_nil) dX5_tells_2 (fun u hu => ?_)
  show V x cX5_tells RX5 2 (rmU 5 106 0 0) [(ta, cn 0 21 (bg tr 3))] 5 [(0, ar h), (1, ai xx)] [] 0 0
  refine v_aload_n (pc := 5) 0 rfl dX5_tells_5 ?_
  refine v_iload_n (pc := 6) 1 rfl dX5_tells_6 ?_
  refine v_callU (pc := 7) [0] [] [] (z := yX5_catches) (As := [ai xx]) (rest := []) (c_X5_catches_k7 h ta kd num pv sk hn gl sc pu xx (bg tr 3) (by exact trB_le (trB_bg htr (Int.le_refl _)) (by decide))) (c := 7) rfl (Or.inl r0) wl_X5_89 wsm_8 wi_X5_catches wk_X5_catches wv_X7_X5_catches_X5_catches wi_X5_catches wk_X5_catches wz_X5 mdo_X5_catches rfl (Nat.le_of_ble_eq_true rfl) ⟨Nat.le_of_ble_eq_true rfl, Nat.le_of_ble_eq_true rfl, Nat.le_of_ble_eq_true rfl, Nat.le_of_ble_eq_true rfl⟩ rfl rfl rfl rfl (by decide) (ro_cons (Or.inl r0) ro_nil) dX5_tells_7 (fun u hu => ?_)
  show V x cX5_tells RX5 2 (rmU 5 106 0 0) [(ta, cn 0 21 (bg (bg (bg tr 3) 2) 1))] 10 [(0, ar h), (1, ai xx)] [ai ((xx + num) - pv)] 0 0
  refine v_iconst (pc := 10) dX5_tells_10 ?_
  refine v_imul (pc := 11) dX5_tells_11 ?_
  exact hret () _ _ _ _ _ _ trivial (congrArg (fun z => some (ai z)) (by rfl)) rfl (Nat.le_of_ble_eq_true rfl) (Nat.le_of_ble_eq_true rfl) dX5_tells_12
set_option maxHeartbeats 4000000 in
set_option maxRecDepth 100000 in
theorem c_X7_tells_k7 {gS : sG} (h : Nat) (ta : Nat) (kd : Int) (num : Int) (pv : Int) (sk : Int) (hn : Int) (gl : Int) (sc : Int) (pu : Int) (xx : Int) (tr : Int → Int) (htr : trB tr 920) : Ct gS (S := Unit) yX7_tells cX7_tells 2 (some .int) 6 127 0 0 [ar h, ai xx] [(ta, cn 0 21 tr)] (fun q => q ∈ ([(h, co 7 [ar ta, ai kd, ai num, ai pv, ai sk, ai hn, ai gl, ai sc, ai pu])] : aW)) (fun _ => True) (fun _ => some (ai (kXor (((xx + num) - pv) * 2) 7))) (fun _ => [(ta, cn 0 21 (bg (bg (bg (bg tr 31) 3) 2) 1))]) := by
  refine ct_I RX7 [(0, ar h), (1, ai xx)] (by decide) rfl (Nat.le_of_ble_eq_true rfl) rfl (fun x hgS hro hret => ?_)
  subst hgS
  have r0 := hro _ (mem_at 0 rfl)
  show V x cX7_tells RX7 2 (rmU 6 127 0 0) [(ta, cn 0 21 tr)] 0 [(0, ar h), (1, ai xx)] [] 0 0
  refine v_aload_n (pc := 0) 0 rfl dX7_tells_0 ?_
  refine v_bipush (pc := 1) dX7_tells_1 (by decide) ?_
  refine v_callU (pc := 3) [0] [] [] (z := ⟨RX7, "begins", "(I)V"⟩) (As := [ai 31]) (rest := []) (c_X5_begins_k7 h ta kd num pv sk hn gl sc pu 31 tr (by exact trB_le htr (by decide))) (c := 7) rfl (Or.inl r0) wl_X7_13 wsm_16 wi_X5_begins wk_X5_begins wv_X7_X7_begins_X5_begins wi_X5_begins wk_X5_begins wz_X5 mdo_X5_begins rfl (Nat.le_of_ble_eq_true rfl) ⟨Nat.le_of_ble_eq_true rfl, Nat.le_of_ble_eq_true rfl, Nat.le_of_ble_eq_true rfl, Nat.le_of_ble_eq_true rfl⟩ rfl rfl rfl rfl (by decide) (ro_cons (Or.inl r0) ro_nil) dX7_tells_3 (fun u hu => ?_)
  show V x cX7_tells RX7 2 (rmU 6 127 0 0) [(ta, cn 0 21 (bg tr 31))] 6 [(0, ar h), (1, ai xx)] [] 0 0
  refine v_aload_n (pc := 6) 0 rfl dX7_tells_6 ?_
  refine v_iload_n (pc := 7) 1 rfl dX7_tells_7 ?_
  refine v_callSU (pc := 8) [0] [] [] (z := yX5_tells) (As := [ai xx]) (rest := []) (c_X5_tells_k7 h ta kd num pv sk hn gl sc pu xx (bg tr 31) (by exact trB_le (trB_bg htr (Int.le_refl _)) (by decide))) (c := 7) rfl wsc_7 (Or.inl r0) wl_X7_17 wsm_12 wsc_7 (Or.inl rfl) rfl wi_X5_tells wk_X5_tells wz_X5 mds_X5_tells rfl (Nat.le_of_ble_eq_true rfl) ⟨Nat.le_of_ble_eq_true rfl, Nat.le_of_ble_eq_true rfl, Nat.le_of_ble_eq_true rfl, Nat.le_of_ble_eq_true rfl⟩ rfl rfl rfl rfl (by decide) (ro_cons (Or.inl r0) ro_nil) dX7_tells_8 (fun u hu => ?_)
  show V x cX7_tells RX7 2 (rmU 6 127 0 0) [(ta, cn 0 21 (bg (bg (bg (bg tr 31) 3) 2) 1))] 11 [(0, ar h), (1, ai xx)] [ai (((xx + num) - pv) * 2)] 0 0
  refine v_bipush (pc := 11) dX7_tells_11 (by decide) ?_
  refine v_ixor (pc := 13) (c := (kXor (((xx + num) - pv) * 2) 7)) (kXor_I _ _) dX7_tells_13 ?_
  exact hret () _ _ _ _ _ _ trivial (congrArg (fun z => some (ai z)) (by rfl)) rfl (Nat.le_of_ble_eq_true rfl) (Nat.le_of_ble_eq_true rfl) dX7_tells_14
set_option maxHeartbeats 4000000 in
set_option maxRecDepth 100000 in
theorem c_X5_strikes_k1 {gS : sG} (h : Nat) (ta : Nat) (kd : Int) (num : Int) (pv : Int) (sk : Int) (hn : Int) (gl : Int) (sc : Int) (pu : Int) (xx : Int) (tr : Int → Int) (htr : trB tr 990) : Ct gS (S := Unit) yX5_strikes cX5_strikes 2 (some .int) 1 22 0 0 [ar h, ai xx] [(ta, cn 0 21 tr)] (fun q => q ∈ ([(h, co 1 [ar ta, ai kd, ai num, ai pv, ai sk, ai hn, ai gl, ai sc, ai pu])] : aW)) (fun _ => True) (fun _ => some (ai (xx + num))) (fun _ => [(ta, cn 0 21 (bg tr 1))]) := by
  refine ct_I RX5 [(0, ar h), (1, ai xx)] (by decide) rfl (Nat.le_of_ble_eq_true rfl) rfl (fun x hgS hro hret => ?_)
  subst hgS
  have r0 := hro _ (mem_at 0 rfl)
  show V x cX5_strikes RX5 2 (rmU 1 22 0 0) [(ta, cn 0 21 tr)] 0 [(0, ar h), (1, ai xx)] [] 0 0
  refine v_aload_n (pc := 0) 0 rfl dX5_strikes_0 ?_
  refine v_iconst (pc := 1) dX5_strikes_1 ?_
  refine v_callU (pc := 2) [0] [] [] (z := yX5_begins) (As := [ai 1]) (rest := []) (c_X5_begins_k1 h ta kd num pv sk hn gl sc pu 1 tr (by exact trB_le htr (by decide))) (c := 1) rfl (Or.inl r0) wl_X5_82 wsm_22 wi_X5_begins wk_X5_begins wv_X1_X5_begins_X5_begins wi_X5_begins wk_X5_begins wz_X5 mdo_X5_begins rfl (Nat.le_of_ble_eq_true rfl) ⟨Nat.le_of_ble_eq_true rfl, Nat.le_of_ble_eq_true rfl, Nat.le_of_ble_eq_true rfl, Nat.le_of_ble_eq_true rfl⟩ rfl rfl rfl rfl (by decide) (ro_cons (Or.inl r0) ro_nil) dX5_strikes_2 (fun u hu => ?_)
  show V x cX5_strikes RX5 2 (rmU 1 22 0 0) [(ta, cn 0 21 (bg tr 1))] 5 [(0, ar h), (1, ai xx)] [] 0 0
  refine v_iload_n (pc := 5) 1 rfl dX5_strikes_5 ?_
  refine v_aload_n (pc := 6) 0 rfl dX5_strikes_6 ?_
  refine v_get (pc := 7) (v := ai num) 2 (Or.inl r0) fl_5_48_1 rfl dX5_strikes_7 ?_
  refine v_iadd (pc := 10) dX5_strikes_10 ?_
  exact hret () _ _ _ _ _ _ trivial (congrArg (fun z => some (ai z)) (by rfl)) rfl (Nat.le_of_ble_eq_true rfl) (Nat.le_of_ble_eq_true rfl) dX5_strikes_11
set_option maxHeartbeats 4000000 in
set_option maxRecDepth 100000 in
theorem c_X8_strikes_k1 {gS : sG} (h : Nat) (ta : Nat) (kd : Int) (num : Int) (pv : Int) (sk : Int) (hn : Int) (gl : Int) (sc : Int) (pu : Int) (xx : Int) (tr : Int → Int) (htr : trB tr 980) : Ct gS (S := Unit) yX8_strikes cX8_strikes 2 (some .int) 2 43 0 0 [ar h, ai xx] [(ta, cn 0 21 tr)] (fun q => q ∈ ([(h, co 1 [ar ta, ai kd, ai num, ai pv, ai sk, ai hn, ai gl, ai sc, ai pu])] : aW)) (fun _ => True) (fun _ => some (ai ((xx * 3) + num))) (fun _ => [(ta, cn 0 21 (bg (bg tr 11) 1))]) := by
  refine ct_I RX8 [(0, ar h), (1, ai xx)] (by decide) rfl (Nat.le_of_ble_eq_true rfl) rfl (fun x hgS hro hret => ?_)
  subst hgS
  have r0 := hro _ (mem_at 0 rfl)
  show V x cX8_strikes RX8 2 (rmU 2 43 0 0) [(ta, cn 0 21 tr)] 0 [(0, ar h), (1, ai xx)] [] 0 0
  refine v_aload_n (pc := 0) 0 rfl dX8_strikes_0 ?_
  refine v_bipush (pc := 1) dX8_strikes_1 (by decide) ?_
  refine v_callU (pc := 3) [0] [] [] (z := ⟨RX8, "begins", "(I)V"⟩) (As := [ai 11]) (rest := []) (c_X5_begins_k1 h ta kd num pv sk hn gl sc pu 11 tr (by exact trB_le htr (by decide))) (c := 1) rfl (Or.inl r0) wl_X8_11 wsm_5 wi_X5_begins wk_X5_begins wv_X1_X8_begins_X5_begins wi_X5_begins wk_X5_begins wz_X5 mdo_X5_begins rfl (Nat.le_of_ble_eq_true rfl) ⟨Nat.le_of_ble_eq_true rfl, Nat.le_of_ble_eq_true rfl, Nat.le_of_ble_eq_true rfl, Nat.le_of_ble_eq_true rfl⟩ rfl rfl rfl rfl (by decide) (ro_cons (Or.inl r0) ro_nil) dX8_strikes_3 (fun u hu => ?_)
  show V x cX8_strikes RX8 2 (rmU 2 43 0 0) [(ta, cn 0 21 (bg tr 11))] 6 [(0, ar h), (1, ai xx)] [] 0 0
  refine v_aload_n (pc := 6) 0 rfl dX8_strikes_6 ?_
  refine v_iload_n (pc := 7) 1 rfl dX8_strikes_7 ?_
  refine v_iconst (pc := 8) dX8_strikes_8 ?_
  refine v_imul (pc := 9) dX8_strikes_9 ?_
  refine v_callSU (pc := 10) [0] [] [] (z := yX5_strikes) (As := [ai (xx * 3)]) (rest := []) (c_X5_strikes_k1 h ta kd num pv sk hn gl sc pu (xx * 3) (bg tr 11) (by exact trB_le (trB_bg htr (Int.le_refl _)) (by decide))) (c := 1) rfl wsc_1 (Or.inl r0) wl_X8_17 wsm_4 wsc_8 (Or.inl rfl) rfl wi_X5_strikes wk_X5_strikes wz_X5 mds_X5_strikes rfl (Nat.le_of_ble_eq_true rfl) ⟨Nat.le_of_ble_eq_true rfl, Nat.le_of_ble_eq_true rfl, Nat.le_of_ble_eq_true rfl, Nat.le_of_ble_eq_true rfl⟩ rfl rfl rfl rfl (by decide) (ro_cons (Or.inl r0) ro_nil) dX8_strikes_10 (fun u hu => ?_)
  show V x cX8_strikes RX8 2 (rmU 2 43 0 0) [(ta, cn 0 21 (bg (bg tr 11) 1))] 13 [(0, ar h), (1, ai xx)] [ai ((xx * 3) + num)] 0 0
  exact hret () _ _ _ _ _ _ trivial (congrArg (fun z => some (ai z)) (by rfl)) rfl (Nat.le_of_ble_eq_true rfl) (Nat.le_of_ble_eq_true rfl) dX8_strikes_13
set_option maxHeartbeats 4000000 in
set_option maxRecDepth 100000 in
theorem c_X5_catches_k1 {gS : sG} (h : Nat) (ta : Nat) (kd : Int) (num : Int) (pv : Int) (sk : Int) (hn : Int) (gl : Int) (sc : Int) (pu : Int) (xx : Int) (tr : Int → Int) (htr : trB tr 960) : Ct gS (S := Unit) yX5_catches cX5_catches 2 (some .int) 3 64 0 0 [ar h, ai xx] [(ta, cn 0 21 tr)] (fun q => q ∈ ([(h, co 1 [ar ta, ai kd, ai num, ai pv, ai sk, ai hn, ai gl, ai sc, ai pu])] : aW)) (fun _ => True) (fun _ => some (ai (((xx * 3) + num) - pv))) (fun _ => [(ta, cn 0 21 (bg (bg (bg tr 2) 11) 1))]) := by
  refine ct_I RX5 [(0, ar h), (1, ai xx)] (by decide) rfl (Nat.le_of_ble_eq_true rfl) rfl (fun x hgS hro hret => ?_)
  subst hgS
  have r0 := hro _ (mem_at 0 rfl)
  show V x cX5_catches RX5 2 (rmU 3 64 0 0) [(ta, cn 0 21 tr)] 0 [(0, ar h), (1, ai xx)] [] 0 0
  refine v_aload_n (pc := 0) 0 rfl dX5_catches_0 ?_
  refine v_iconst (pc := 1) dX5_catches_1 ?_
  refine v_callU (pc := 2) [0] [] [] (z := yX5_begins) (As := [ai 2]) (rest := []) (c_X5_begins_k1 h ta kd num pv sk hn gl sc pu 2 tr (by exact trB_le htr (by decide))) (c := 1) rfl (Or.inl r0) wl_X5_82 wsm_22 wi_X5_begins wk_X5_begins wv_X1_X5_begins_X5_begins wi_X5_begins wk_X5_begins wz_X5 mdo_X5_begins rfl (Nat.le_of_ble_eq_true rfl) ⟨Nat.le_of_ble_eq_true rfl, Nat.le_of_ble_eq_true rfl, Nat.le_of_ble_eq_true rfl, Nat.le_of_ble_eq_true rfl⟩ rfl rfl rfl rfl (by decide) (ro_cons (Or.inl r0) ro_nil) dX5_catches_2 (fun u hu => ?_)
  show V x cX5_catches RX5 2 (rmU 3 64 0 0) [(ta, cn 0 21 (bg tr 2))] 5 [(0, ar h), (1, ai xx)] [] 0 0
  refine v_aload_n (pc := 5) 0 rfl dX5_catches_5 ?_
  refine v_iload_n (pc := 6) 1 rfl dX5_catches_6 ?_
  refine v_callU (pc := 7) [0] [] [] (z := yX5_strikes) (As := [ai xx]) (rest := []) (c_X8_strikes_k1 h ta kd num pv sk hn gl sc pu xx (bg tr 2) (by exact trB_le (trB_bg htr (Int.le_refl _)) (by decide))) (c := 1) rfl (Or.inl r0) wl_X5_86 wsm_4 wi_X5_strikes wk_X5_strikes wv_X1_X5_strikes_X8_strikes wi_X8_strikes wk_X8_strikes wz_X8 mdo_X5_strikes rfl (Nat.le_of_ble_eq_true rfl) ⟨Nat.le_of_ble_eq_true rfl, Nat.le_of_ble_eq_true rfl, Nat.le_of_ble_eq_true rfl, Nat.le_of_ble_eq_true rfl⟩ rfl rfl rfl rfl (by decide) (ro_cons (Or.inl r0) ro_nil) dX5_catches_7 (fun u hu => ?_)
  show V x cX5_catches RX5 2 (rmU 3 64 0 0) [(ta, cn 0 21 (bg (bg (bg tr 2) 11) 1))] 10 [(0, ar h), (1, ai xx)] [ai ((xx * 3) + num)] 0 0
  refine v_aload_n (pc := 10) 0 rfl dX5_catches_10 ?_
  refine v_get (pc := 11) (v := ai pv) 3 (Or.inl r0) fl_5_51_1 rfl dX5_catches_11 ?_
  refine v_isub (pc := 14) dX5_catches_14 ?_
  exact hret () _ _ _ _ _ _ trivial (congrArg (fun z => some (ai z)) (by rfl)) rfl (Nat.le_of_ble_eq_true rfl) (Nat.le_of_ble_eq_true rfl) dX5_catches_15
set_option maxHeartbeats 4000000 in
set_option maxRecDepth 100000 in
theorem c_X5_tells_k1 {gS : sG} (h : Nat) (ta : Nat) (kd : Int) (num : Int) (pv : Int) (sk : Int) (hn : Int) (gl : Int) (sc : Int) (pu : Int) (xx : Int) (tr : Int → Int) (htr : trB tr 930) : Ct gS (S := Unit) yX5_tells cX5_tells 2 (some .int) 5 106 0 0 [ar h, ai xx] [(ta, cn 0 21 tr)] (fun q => q ∈ ([(h, co 1 [ar ta, ai kd, ai num, ai pv, ai sk, ai hn, ai gl, ai sc, ai pu])] : aW)) (fun _ => True) (fun _ => some (ai ((((xx * 3) + num) - pv) * 2))) (fun _ => [(ta, cn 0 21 (bg (bg (bg (bg tr 3) 2) 11) 1))]) := by
  refine ct_I RX5 [(0, ar h), (1, ai xx)] (by decide) rfl (Nat.le_of_ble_eq_true rfl) rfl (fun x hgS hro hret => ?_)
  subst hgS
  have r0 := hro _ (mem_at 0 rfl)
  show V x cX5_tells RX5 2 (rmU 5 106 0 0) [(ta, cn 0 21 tr)] 0 [(0, ar h), (1, ai xx)] [] 0 0
  refine v_aload_n (pc := 0) 0 rfl dX5_tells_0 ?_
  refine v_iconst (pc := 1) dX5_tells_1 ?_
  refine v_callU (pc := 2) [0] [] [] (z := yX5_begins) (As := [ai 3]) (rest := []) (c_X5_begins_k1 h ta kd num pv sk hn gl sc pu 3 tr (by exact trB_le htr (by decide))) (c := 1) rfl (Or.inl r0) wl_X5_82 wsm_22 wi_X5_begins wk_X5_begins wv_X1_X5_begins_X5_begins wi_X5_begins wk_X5_begins wz_X5 mdo_X5_begins rfl (Nat.le_of_ble_eq_true rfl) ⟨Nat.le_of_ble_eq_true rfl, Nat.le_of_ble_eq_true rfl, Nat.le_of_ble_eq_true rfl, Nat.le_of_ble_eq_true rfl⟩ rfl rfl rfl rfl (by decide) (ro_cons (Or.inl r0) ro_nil) dX5_tells_2 (fun u hu => ?_)
  show V x cX5_tells RX5 2 (rmU 5 106 0 0) [(ta, cn 0 21 (bg tr 3))] 5 [(0, ar h), (1, ai xx)] [] 0 0
  refine v_aload_n (pc := 5) 0 rfl dX5_tells_5 ?_
  refine v_iload_n (pc := 6) 1 rfl dX5_tells_6 ?_
  refine v_callU (pc := 7) [0] [] [] (z := yX5_catches) (As := [ai xx]) (rest := []) (c_X5_catches_k1 h ta kd num pv sk hn gl sc pu xx (bg tr 3) (by exact trB_le (trB_bg htr (Int.le_refl _)) (by decide))) (c := 1) rfl (Or.inl r0) wl_X5_89 wsm_8 wi_X5_catches wk_X5_catches wv_X1_X5_catches_X5_catches wi_X5_catches wk_X5_catches wz_X5 mdo_X5_catches rfl (Nat.le_of_ble_eq_true rfl) ⟨Nat.le_of_ble_eq_true rfl, Nat.le_of_ble_eq_true rfl, Nat.le_of_ble_eq_true rfl, Nat.le_of_ble_eq_true rfl⟩ rfl rfl rfl rfl (by decide) (ro_cons (Or.inl r0) ro_nil) dX5_tells_7 (fun u hu => ?_)
  show V x cX5_tells RX5 2 (rmU 5 106 0 0) [(ta, cn 0 21 (bg (bg (bg (bg tr 3) 2) 11) 1))] 10 [(0, ar h), (1, ai xx)] [ai (((xx * 3) + num) - pv)] 0 0
  refine v_iconst (pc := 10) dX5_tells_10 ?_
  refine v_imul (pc := 11) dX5_tells_11 ?_
  exact hret () _ _ _ _ _ _ trivial (congrArg (fun z => some (ai z)) (by rfl)) rfl (Nat.le_of_ble_eq_true rfl) (Nat.le_of_ble_eq_true rfl) dX5_tells_12
set_option maxHeartbeats 4000000 in
set_option maxRecDepth 100000 in
theorem c_X1_tells_k1 {gS : sG} (h : Nat) (ta : Nat) (kd : Int) (num : Int) (pv : Int) (sk : Int) (hn : Int) (gl : Int) (sc : Int) (pu : Int) (xx : Int) (tr : Int → Int) (htr : trB tr 900) : Ct gS (S := Unit) yX1_tells cX1_tells 2 (some .int) 6 127 0 0 [ar h, ai xx] [(ta, cn 0 21 tr)] (fun q => q ∈ ([(h, co 1 [ar ta, ai kd, ai num, ai pv, ai sk, ai hn, ai gl, ai sc, ai pu])] : aW)) (fun _ => True) (fun _ => some (ai (((((xx - 1) * 3) + num) - pv) * 2 + ((2 * 3) + num)))) (fun _ => [(ta, cn 0 21 (bg (bg (bg (bg (bg (bg (bg tr 41) 3) 2) 11) 1) 11) 1))]) := by
  refine ct_I RX1 [(0, ar h), (1, ai xx)] (by decide) rfl (Nat.le_of_ble_eq_true rfl) rfl (fun x hgS hro hret => ?_)
  subst hgS
  have r0 := hro _ (mem_at 0 rfl)
  show V x cX1_tells RX1 2 (rmU 6 127 0 0) [(ta, cn 0 21 tr)] 0 [(0, ar h), (1, ai xx)] [] 0 0
  refine v_aload_n (pc := 0) 0 rfl dX1_tells_0 ?_
  refine v_bipush (pc := 1) dX1_tells_1 (by decide) ?_
  refine v_callU (pc := 3) [0] [] [] (z := ⟨RX1, "begins", "(I)V"⟩) (As := [ai 41]) (rest := []) (c_X5_begins_k1 h ta kd num pv sk hn gl sc pu 41 tr (by exact trB_le htr (by decide))) (c := 1) rfl (Or.inl r0) wl_X1_11 wsm_13 wi_X5_begins wk_X5_begins wv_X1_X1_begins_X5_begins wi_X5_begins wk_X5_begins wz_X5 mdo_X5_begins rfl (Nat.le_of_ble_eq_true rfl) ⟨Nat.le_of_ble_eq_true rfl, Nat.le_of_ble_eq_true rfl, Nat.le_of_ble_eq_true rfl, Nat.le_of_ble_eq_true rfl⟩ rfl rfl rfl rfl (by decide) (ro_cons (Or.inl r0) ro_nil) dX1_tells_3 (fun u hu => ?_)
  show V x cX1_tells RX1 2 (rmU 6 127 0 0) [(ta, cn 0 21 (bg tr 41))] 6 [(0, ar h), (1, ai xx)] [] 0 0
  refine v_aload_n (pc := 6) 0 rfl dX1_tells_6 ?_
  refine v_iload_n (pc := 7) 1 rfl dX1_tells_7 ?_
  refine v_iconst (pc := 8) dX1_tells_8 ?_
  refine v_isub (pc := 9) dX1_tells_9 ?_
  refine v_callSU (pc := 10) [0] [] [] (z := ⟨RX8, "tells", "(I)I"⟩) (As := [ai (xx - 1)]) (rest := []) (c_X5_tells_k1 h ta kd num pv sk hn gl sc pu (xx - 1) (bg tr 41) (by exact trB_le (trB_bg htr (Int.le_refl _)) (by decide))) (c := 1) rfl wsc_1 (Or.inl r0) wl_X1_17 wsm_14 wsc_1 (Or.inr wsc_8) rfl wi_X5_tells wk_X5_tells wz_X5 mds_X5_tells rfl (Nat.le_of_ble_eq_true rfl) ⟨Nat.le_of_ble_eq_true rfl, Nat.le_of_ble_eq_true rfl, Nat.le_of_ble_eq_true rfl, Nat.le_of_ble_eq_true rfl⟩ rfl rfl rfl rfl (by decide) (ro_cons (Or.inl r0) ro_nil) dX1_tells_10 (fun u hu => ?_)
  show V x cX1_tells RX1 2 (rmU 6 127 0 0) [(ta, cn 0 21 (bg (bg (bg (bg (bg tr 41) 3) 2) 11) 1))] 13 [(0, ar h), (1, ai xx)] [ai (((((xx - 1) * 3) + num) - pv) * 2)] 0 0
  refine v_aload_n (pc := 13) 0 rfl dX1_tells_13 ?_
  refine v_iconst (pc := 14) dX1_tells_14 ?_
  refine v_callU (pc := 15) [0] [] [] (z := ⟨RX1, "strikes", "(I)I"⟩) (As := [ai 2]) (rest := [ai (((((xx - 1) * 3) + num) - pv) * 2)]) (c_X8_strikes_k1 h ta kd num pv sk hn gl sc pu 2 (bg (bg (bg (bg (bg tr 41) 3) 2) 11) 1) (by exact trB_le (trB_bg (trB_bg (trB_bg (trB_bg (trB_bg htr (Int.le_refl _)) (Int.le_refl _)) (Int.le_refl _)) (Int.le_refl _)) (Int.le_refl _)) (by decide))) (c := 1) rfl (Or.inl r0) wl_X1_21 wsm_15 wi_X8_strikes wk_X8_strikes wv_X1_X1_strikes_X8_strikes wi_X8_strikes wk_X8_strikes wz_X8 mdo_X8_strikes rfl (Nat.le_of_ble_eq_true rfl) ⟨Nat.le_of_ble_eq_true rfl, Nat.le_of_ble_eq_true rfl, Nat.le_of_ble_eq_true rfl, Nat.le_of_ble_eq_true rfl⟩ rfl rfl rfl rfl (by decide) (ro_cons (Or.inl r0) ro_nil) dX1_tells_15 (fun u hu => ?_)
  show V x cX1_tells RX1 2 (rmU 6 127 0 0) [(ta, cn 0 21 (bg (bg (bg (bg (bg (bg (bg tr 41) 3) 2) 11) 1) 11) 1))] 18 [(0, ar h), (1, ai xx)] [ai ((2 * 3) + num), ai (((((xx - 1) * 3) + num) - pv) * 2)] 0 0
  refine v_iadd (pc := 18) dX1_tells_18 ?_
  exact hret () _ _ _ _ _ _ trivial (congrArg (fun z => some (ai z)) (by rfl)) rfl (Nat.le_of_ble_eq_true rfl) (Nat.le_of_ble_eq_true rfl) dX1_tells_19
set_option maxHeartbeats 4000000 in
set_option maxRecDepth 100000 in
theorem c_X5_strikes_k2 {gS : sG} (h : Nat) (ta : Nat) (kd : Int) (num : Int) (pv : Int) (sk : Int) (hn : Int) (gl : Int) (sc : Int) (pu : Int) (xx : Int) (tr : Int → Int) (htr : trB tr 990) : Ct gS (S := Unit) yX5_strikes cX5_strikes 2 (some .int) 1 22 0 0 [ar h, ai xx] [(ta, cn 0 21 tr)] (fun q => q ∈ ([(h, co 2 [ar ta, ai kd, ai num, ai pv, ai sk, ai hn, ai gl, ai sc, ai pu])] : aW)) (fun _ => True) (fun _ => some (ai (xx + num))) (fun _ => [(ta, cn 0 21 (bg tr 1))]) := by
  refine ct_I RX5 [(0, ar h), (1, ai xx)] (by decide) rfl (Nat.le_of_ble_eq_true rfl) rfl (fun x hgS hro hret => ?_)
  subst hgS
  have r0 := hro _ (mem_at 0 rfl)
  show V x cX5_strikes RX5 2 (rmU 1 22 0 0) [(ta, cn 0 21 tr)] 0 [(0, ar h), (1, ai xx)] [] 0 0
  refine v_aload_n (pc := 0) 0 rfl dX5_strikes_0 ?_
  refine v_iconst (pc := 1) dX5_strikes_1 ?_
  refine v_callU (pc := 2) [0] [] [] (z := yX5_begins) (As := [ai 1]) (rest := []) (c_X5_begins_k2 h ta kd num pv sk hn gl sc pu 1 tr (by exact trB_le htr (by decide))) (c := 2) rfl (Or.inl r0) wl_X5_82 wsm_22 wi_X5_begins wk_X5_begins wv_X2_X5_begins_X5_begins wi_X5_begins wk_X5_begins wz_X5 mdo_X5_begins rfl (Nat.le_of_ble_eq_true rfl) ⟨Nat.le_of_ble_eq_true rfl, Nat.le_of_ble_eq_true rfl, Nat.le_of_ble_eq_true rfl, Nat.le_of_ble_eq_true rfl⟩ rfl rfl rfl rfl (by decide) (ro_cons (Or.inl r0) ro_nil) dX5_strikes_2 (fun u hu => ?_)
  show V x cX5_strikes RX5 2 (rmU 1 22 0 0) [(ta, cn 0 21 (bg tr 1))] 5 [(0, ar h), (1, ai xx)] [] 0 0
  refine v_iload_n (pc := 5) 1 rfl dX5_strikes_5 ?_
  refine v_aload_n (pc := 6) 0 rfl dX5_strikes_6 ?_
  refine v_get (pc := 7) (v := ai num) 2 (Or.inl r0) fl_5_48_2 rfl dX5_strikes_7 ?_
  refine v_iadd (pc := 10) dX5_strikes_10 ?_
  exact hret () _ _ _ _ _ _ trivial (congrArg (fun z => some (ai z)) (by rfl)) rfl (Nat.le_of_ble_eq_true rfl) (Nat.le_of_ble_eq_true rfl) dX5_strikes_11
set_option maxHeartbeats 4000000 in
set_option maxRecDepth 100000 in
theorem c_X2_strikes_k2 {gS : sG} (h : Nat) (ta : Nat) (kd : Int) (num : Int) (pv : Int) (sk : Int) (hn : Int) (gl : Int) (sc : Int) (pu : Int) (xx : Int) (tr : Int → Int) (htr : trB tr 980) : Ct gS (S := Unit) yX2_strikes cX2_strikes 2 (some .int) 2 43 0 0 [ar h, ai xx] [(ta, cn 0 21 tr)] (fun q => q ∈ ([(h, co 2 [ar ta, ai kd, ai num, ai pv, ai sk, ai hn, ai gl, ai sc, ai pu])] : aW)) (fun _ => True) (fun _ => some (ai (kXor (xx + num) num))) (fun _ => [(ta, cn 0 21 (bg (bg tr 51) 1))]) := by
  refine ct_I RX2 [(0, ar h), (1, ai xx)] (by decide) rfl (Nat.le_of_ble_eq_true rfl) rfl (fun x hgS hro hret => ?_)
  subst hgS
  have r0 := hro _ (mem_at 0 rfl)
  show V x cX2_strikes RX2 2 (rmU 2 43 0 0) [(ta, cn 0 21 tr)] 0 [(0, ar h), (1, ai xx)] [] 0 0
  refine v_aload_n (pc := 0) 0 rfl dX2_strikes_0 ?_
  refine v_bipush (pc := 1) dX2_strikes_1 (by decide) ?_
  refine v_callU (pc := 3) [0] [] [] (z := ⟨RX2, "begins", "(I)V"⟩) (As := [ai 51]) (rest := []) (c_X5_begins_k2 h ta kd num pv sk hn gl sc pu 51 tr (by exact trB_le htr (by decide))) (c := 2) rfl (Or.inl r0) wl_X2_11 wsm_6 wi_X5_begins wk_X5_begins wv_X2_X2_begins_X5_begins wi_X5_begins wk_X5_begins wz_X5 mdo_X5_begins rfl (Nat.le_of_ble_eq_true rfl) ⟨Nat.le_of_ble_eq_true rfl, Nat.le_of_ble_eq_true rfl, Nat.le_of_ble_eq_true rfl, Nat.le_of_ble_eq_true rfl⟩ rfl rfl rfl rfl (by decide) (ro_cons (Or.inl r0) ro_nil) dX2_strikes_3 (fun u hu => ?_)
  show V x cX2_strikes RX2 2 (rmU 2 43 0 0) [(ta, cn 0 21 (bg tr 51))] 6 [(0, ar h), (1, ai xx)] [] 0 0
  refine v_aload_n (pc := 6) 0 rfl dX2_strikes_6 ?_
  refine v_iload_n (pc := 7) 1 rfl dX2_strikes_7 ?_
  refine v_callSU (pc := 8) [0] [] [] (z := ⟨RX0, "strikes", "(I)I"⟩) (As := [ai xx]) (rest := []) (c_X5_strikes_k2 h ta kd num pv sk hn gl sc pu xx (bg tr 51) (by exact trB_le (trB_bg htr (Int.le_refl _)) (by decide))) (c := 2) rfl wsc_2 (Or.inl r0) wl_X2_17 wsm_7 wsc_2 (Or.inr wsc_0) rfl wi_X5_strikes wk_X5_strikes wz_X5 mds_X5_strikes rfl (Nat.le_of_ble_eq_true rfl) ⟨Nat.le_of_ble_eq_true rfl, Nat.le_of_ble_eq_true rfl, Nat.le_of_ble_eq_true rfl, Nat.le_of_ble_eq_true rfl⟩ rfl rfl rfl rfl (by decide) (ro_cons (Or.inl r0) ro_nil) dX2_strikes_8 (fun u hu => ?_)
  show V x cX2_strikes RX2 2 (rmU 2 43 0 0) [(ta, cn 0 21 (bg (bg tr 51) 1))] 11 [(0, ar h), (1, ai xx)] [ai (xx + num)] 0 0
  refine v_aload_n (pc := 11) 0 rfl dX2_strikes_11 ?_
  refine v_get (pc := 12) (v := ai num) 2 (Or.inl r0) fl_2_21_2 rfl dX2_strikes_12 ?_
  refine v_ixor (pc := 15) (c := (kXor (xx + num) num)) (kXor_I _ _) dX2_strikes_15 ?_
  exact hret () _ _ _ _ _ _ trivial (congrArg (fun z => some (ai z)) (by rfl)) rfl (Nat.le_of_ble_eq_true rfl) (Nat.le_of_ble_eq_true rfl) dX2_strikes_16
set_option maxHeartbeats 4000000 in
set_option maxRecDepth 100000 in
theorem c_X5_catches_k2 {gS : sG} (h : Nat) (ta : Nat) (kd : Int) (num : Int) (pv : Int) (sk : Int) (hn : Int) (gl : Int) (sc : Int) (pu : Int) (xx : Int) (tr : Int → Int) (htr : trB tr 960) : Ct gS (S := Unit) yX5_catches cX5_catches 2 (some .int) 3 64 0 0 [ar h, ai xx] [(ta, cn 0 21 tr)] (fun q => q ∈ ([(h, co 2 [ar ta, ai kd, ai num, ai pv, ai sk, ai hn, ai gl, ai sc, ai pu])] : aW)) (fun _ => True) (fun _ => some (ai ((kXor (xx + num) num) - pv))) (fun _ => [(ta, cn 0 21 (bg (bg (bg tr 2) 51) 1))]) := by
  refine ct_I RX5 [(0, ar h), (1, ai xx)] (by decide) rfl (Nat.le_of_ble_eq_true rfl) rfl (fun x hgS hro hret => ?_)
  subst hgS
  have r0 := hro _ (mem_at 0 rfl)
  show V x cX5_catches RX5 2 (rmU 3 64 0 0) [(ta, cn 0 21 tr)] 0 [(0, ar h), (1, ai xx)] [] 0 0
  refine v_aload_n (pc := 0) 0 rfl dX5_catches_0 ?_
  refine v_iconst (pc := 1) dX5_catches_1 ?_
  refine v_callU (pc := 2) [0] [] [] (z := yX5_begins) (As := [ai 2]) (rest := []) (c_X5_begins_k2 h ta kd num pv sk hn gl sc pu 2 tr (by exact trB_le htr (by decide))) (c := 2) rfl (Or.inl r0) wl_X5_82 wsm_22 wi_X5_begins wk_X5_begins wv_X2_X5_begins_X5_begins wi_X5_begins wk_X5_begins wz_X5 mdo_X5_begins rfl (Nat.le_of_ble_eq_true rfl) ⟨Nat.le_of_ble_eq_true rfl, Nat.le_of_ble_eq_true rfl, Nat.le_of_ble_eq_true rfl, Nat.le_of_ble_eq_true rfl⟩ rfl rfl rfl rfl (by decide) (ro_cons (Or.inl r0) ro_nil) dX5_catches_2 (fun u hu => ?_)
  show V x cX5_catches RX5 2 (rmU 3 64 0 0) [(ta, cn 0 21 (bg tr 2))] 5 [(0, ar h), (1, ai xx)] [] 0 0
  refine v_aload_n (pc := 5) 0 rfl dX5_catches_5 ?_
  refine v_iload_n (pc := 6) 1 rfl dX5_catches_6 ?_
  refine v_callU (pc := 7) [0] [] [] (z := yX5_strikes) (As := [ai xx]) (rest := []) (c_X2_strikes_k2 h ta kd num pv sk hn gl sc pu xx (bg tr 2) (by exact trB_le (trB_bg htr (Int.le_refl _)) (by decide))) (c := 2) rfl (Or.inl r0) wl_X5_86 wsm_4 wi_X5_strikes wk_X5_strikes wv_X2_X5_strikes_X2_strikes wi_X2_strikes wk_X2_strikes wz_X2 mdo_X5_strikes rfl (Nat.le_of_ble_eq_true rfl) ⟨Nat.le_of_ble_eq_true rfl, Nat.le_of_ble_eq_true rfl, Nat.le_of_ble_eq_true rfl, Nat.le_of_ble_eq_true rfl⟩ rfl rfl rfl rfl (by decide) (ro_cons (Or.inl r0) ro_nil) dX5_catches_7 (fun u hu => ?_)
  show V x cX5_catches RX5 2 (rmU 3 64 0 0) [(ta, cn 0 21 (bg (bg (bg tr 2) 51) 1))] 10 [(0, ar h), (1, ai xx)] [ai (kXor (xx + num) num)] 0 0
  refine v_aload_n (pc := 10) 0 rfl dX5_catches_10 ?_
  refine v_get (pc := 11) (v := ai pv) 3 (Or.inl r0) fl_5_51_2 rfl dX5_catches_11 ?_
  refine v_isub (pc := 14) dX5_catches_14 ?_
  exact hret () _ _ _ _ _ _ trivial (congrArg (fun z => some (ai z)) (by rfl)) rfl (Nat.le_of_ble_eq_true rfl) (Nat.le_of_ble_eq_true rfl) dX5_catches_15
set_option maxHeartbeats 4000000 in
set_option maxRecDepth 100000 in
theorem c_X0_catches_k2 {gS : sG} (h : Nat) (ta : Nat) (kd : Int) (num : Int) (pv : Int) (sk : Int) (hn : Int) (gl : Int) (sc : Int) (pu : Int) (xx : Int) (tr : Int → Int) (htr : trB tr 950) : Ct gS (S := Unit) yX0_catches cX0_catches 2 (some .int) 4 85 0 0 [ar h, ai xx] [(ta, cn 0 21 tr)] (fun q => q ∈ ([(h, co 2 [ar ta, ai kd, ai num, ai pv, ai sk, ai hn, ai gl, ai sc, ai pu])] : aW)) (fun _ => True) (fun _ => some (ai (-((kXor (xx + num) num) - pv)))) (fun _ => [(ta, cn 0 21 (bg (bg (bg (bg tr 21) 2) 51) 1))]) := by
  refine ct_I RX0 [(0, ar h), (1, ai xx)] (by decide) rfl (Nat.le_of_ble_eq_true rfl) rfl (fun x hgS hro hret => ?_)
  subst hgS
  have r0 := hro _ (mem_at 0 rfl)
  show V x cX0_catches RX0 2 (rmU 4 85 0 0) [(ta, cn 0 21 tr)] 0 [(0, ar h), (1, ai xx)] [] 0 0
  refine v_aload_n (pc := 0) 0 rfl dX0_catches_0 ?_
  refine v_bipush (pc := 1) dX0_catches_1 (by decide) ?_
  refine v_callU (pc := 3) [0] [] [] (z := ⟨RX0, "begins", "(I)V"⟩) (As := [ai 21]) (rest := []) (c_X5_begins_k2 h ta kd num pv sk hn gl sc pu 21 tr (by exact trB_le htr (by decide))) (c := 2) rfl (Or.inl r0) wl_X0_13 wsm_9 wi_X5_begins wk_X5_begins wv_X2_X0_begins_X5_begins wi_X5_begins wk_X5_begins wz_X5 mdo_X5_begins rfl (Nat.le_of_ble_eq_true rfl) ⟨Nat.le_of_ble_eq_true rfl, Nat.le_of_ble_eq_true rfl, Nat.le_of_ble_eq_true rfl, Nat.le_of_ble_eq_true rfl⟩ rfl rfl rfl rfl (by decide) (ro_cons (Or.inl r0) ro_nil) dX0_catches_3 (fun u hu => ?_)
  show V x cX0_catches RX0 2 (rmU 4 85 0 0) [(ta, cn 0 21 (bg tr 21))] 6 [(0, ar h), (1, ai xx)] [] 0 0
  refine v_aload_n (pc := 6) 0 rfl dX0_catches_6 ?_
  refine v_iload_n (pc := 7) 1 rfl dX0_catches_7 ?_
  refine v_callSU (pc := 8) [0] [] [] (z := yX5_catches) (As := [ai xx]) (rest := []) (c_X5_catches_k2 h ta kd num pv sk hn gl sc pu xx (bg tr 21) (by exact trB_le (trB_bg htr (Int.le_refl _)) (by decide))) (c := 2) rfl wsc_2 (Or.inl r0) wl_X0_17 wsm_8 wsc_0 (Or.inl rfl) rfl wi_X5_catches wk_X5_catches wz_X5 mds_X5_catches rfl (Nat.le_of_ble_eq_true rfl) ⟨Nat.le_of_ble_eq_true rfl, Nat.le_of_ble_eq_true rfl, Nat.le_of_ble_eq_true rfl, Nat.le_of_ble_eq_true rfl⟩ rfl rfl rfl rfl (by decide) (ro_cons (Or.inl r0) ro_nil) dX0_catches_8 (fun u hu => ?_)
  show V x cX0_catches RX0 2 (rmU 4 85 0 0) [(ta, cn 0 21 (bg (bg (bg (bg tr 21) 2) 51) 1))] 11 [(0, ar h), (1, ai xx)] [ai ((kXor (xx + num) num) - pv)] 0 0
  refine v_ineg (pc := 11) dX0_catches_11 ?_
  exact hret () _ _ _ _ _ _ trivial (congrArg (fun z => some (ai z)) (by rfl)) rfl (Nat.le_of_ble_eq_true rfl) (Nat.le_of_ble_eq_true rfl) dX0_catches_12
set_option maxHeartbeats 4000000 in
set_option maxRecDepth 100000 in
theorem c_X5_tells_k2 {gS : sG} (h : Nat) (ta : Nat) (kd : Int) (num : Int) (pv : Int) (sk : Int) (hn : Int) (gl : Int) (sc : Int) (pu : Int) (xx : Int) (tr : Int → Int) (htr : trB tr 930) : Ct gS (S := Unit) yX5_tells cX5_tells 2 (some .int) 5 106 0 0 [ar h, ai xx] [(ta, cn 0 21 tr)] (fun q => q ∈ ([(h, co 2 [ar ta, ai kd, ai num, ai pv, ai sk, ai hn, ai gl, ai sc, ai pu])] : aW)) (fun _ => True) (fun _ => some (ai ((-((kXor (xx + num) num) - pv)) * 2))) (fun _ => [(ta, cn 0 21 (bg (bg (bg (bg (bg tr 3) 21) 2) 51) 1))]) := by
  refine ct_I RX5 [(0, ar h), (1, ai xx)] (by decide) rfl (Nat.le_of_ble_eq_true rfl) rfl (fun x hgS hro hret => ?_)
  subst hgS
  have r0 := hro _ (mem_at 0 rfl)
  show V x cX5_tells RX5 2 (rmU 5 106 0 0) [(ta, cn 0 21 tr)] 0 [(0, ar h), (1, ai xx)] [] 0 0
  refine v_aload_n (pc := 0) 0 rfl dX5_tells_0 ?_
  refine v_iconst (pc := 1) dX5_tells_1 ?_
  refine v_callU (pc := 2) [0] [] [] (z := yX5_begins) (As := [ai 3]) (rest := []) (c_X5_begins_k2 h ta kd num pv sk hn gl sc pu 3 tr (by exact trB_le htr (by decide))) (c := 2) rfl (Or.inl r0) wl_X5_82 wsm_22 wi_X5_begins wk_X5_begins wv_X2_X5_begins_X5_begins wi_X5_begins wk_X5_begins wz_X5 mdo_X5_begins rfl (Nat.le_of_ble_eq_true rfl) ⟨Nat.le_of_ble_eq_true rfl, Nat.le_of_ble_eq_true rfl, Nat.le_of_ble_eq_true rfl, Nat.le_of_ble_eq_true rfl⟩ rfl rfl rfl rfl (by decide) (ro_cons (Or.inl r0) ro_nil) dX5_tells_2 (fun u hu => ?_)
  show V x cX5_tells RX5 2 (rmU 5 106 0 0) [(ta, cn 0 21 (bg tr 3))] 5 [(0, ar h), (1, ai xx)] [] 0 0
  refine v_aload_n (pc := 5) 0 rfl dX5_tells_5 ?_
  refine v_iload_n (pc := 6) 1 rfl dX5_tells_6 ?_
  refine v_callU (pc := 7) [0] [] [] (z := yX5_catches) (As := [ai xx]) (rest := []) (c_X0_catches_k2 h ta kd num pv sk hn gl sc pu xx (bg tr 3) (by exact trB_le (trB_bg htr (Int.le_refl _)) (by decide))) (c := 2) rfl (Or.inl r0) wl_X5_89 wsm_8 wi_X5_catches wk_X5_catches wv_X2_X5_catches_X0_catches wi_X0_catches wk_X0_catches wz_X0 mdo_X5_catches rfl (Nat.le_of_ble_eq_true rfl) ⟨Nat.le_of_ble_eq_true rfl, Nat.le_of_ble_eq_true rfl, Nat.le_of_ble_eq_true rfl, Nat.le_of_ble_eq_true rfl⟩ rfl rfl rfl rfl (by decide) (ro_cons (Or.inl r0) ro_nil) dX5_tells_7 (fun u hu => ?_)
  show V x cX5_tells RX5 2 (rmU 5 106 0 0) [(ta, cn 0 21 (bg (bg (bg (bg (bg tr 3) 21) 2) 51) 1))] 10 [(0, ar h), (1, ai xx)] [ai (-((kXor (xx + num) num) - pv))] 0 0
  refine v_iconst (pc := 10) dX5_tells_10 ?_
  refine v_imul (pc := 11) dX5_tells_11 ?_
  exact hret () _ _ _ _ _ _ trivial (congrArg (fun z => some (ai z)) (by rfl)) rfl (Nat.le_of_ble_eq_true rfl) (Nat.le_of_ble_eq_true rfl) dX5_tells_12
set_option maxHeartbeats 4000000 in
set_option maxRecDepth 100000 in
theorem c_X5_strikes_k9 {gS : sG} (h : Nat) (ta : Nat) (kd : Int) (num : Int) (pv : Int) (sk : Int) (hn : Int) (gl : Int) (sc : Int) (pu : Int) (tu : Nat) (xx : Int) (tr : Int → Int) (htr : trB tr 990) : Ct gS (S := Unit) yX5_strikes cX5_strikes 2 (some .int) 1 22 0 0 [ar h, ai xx] [(ta, cn 0 21 tr)] (fun q => q ∈ ([(h, co 9 [ar ta, ai kd, ai num, ai pv, ai sk, ai hn, ai gl, ai sc, ai pu, ar tu])] : aW)) (fun _ => True) (fun _ => some (ai (xx + num))) (fun _ => [(ta, cn 0 21 (bg tr 1))]) := by
  refine ct_I RX5 [(0, ar h), (1, ai xx)] (by decide) rfl (Nat.le_of_ble_eq_true rfl) rfl (fun x hgS hro hret => ?_)
  subst hgS
  have r0 := hro _ (mem_at 0 rfl)
  show V x cX5_strikes RX5 2 (rmU 1 22 0 0) [(ta, cn 0 21 tr)] 0 [(0, ar h), (1, ai xx)] [] 0 0
  refine v_aload_n (pc := 0) 0 rfl dX5_strikes_0 ?_
  refine v_iconst (pc := 1) dX5_strikes_1 ?_
  refine v_callU (pc := 2) [0] [] [] (z := yX5_begins) (As := [ai 1]) (rest := []) (c_X5_begins_k9 h ta kd num pv sk hn gl sc pu tu 1 tr (by exact trB_le htr (by decide))) (c := 9) rfl (Or.inl r0) wl_X5_82 wsm_22 wi_X5_begins wk_X5_begins wv_X9_X5_begins_X5_begins wi_X5_begins wk_X5_begins wz_X5 mdo_X5_begins rfl (Nat.le_of_ble_eq_true rfl) ⟨Nat.le_of_ble_eq_true rfl, Nat.le_of_ble_eq_true rfl, Nat.le_of_ble_eq_true rfl, Nat.le_of_ble_eq_true rfl⟩ rfl rfl rfl rfl (by decide) (ro_cons (Or.inl r0) ro_nil) dX5_strikes_2 (fun u hu => ?_)
  show V x cX5_strikes RX5 2 (rmU 1 22 0 0) [(ta, cn 0 21 (bg tr 1))] 5 [(0, ar h), (1, ai xx)] [] 0 0
  refine v_iload_n (pc := 5) 1 rfl dX5_strikes_5 ?_
  refine v_aload_n (pc := 6) 0 rfl dX5_strikes_6 ?_
  refine v_get (pc := 7) (v := ai num) 2 (Or.inl r0) fl_5_48_9 rfl dX5_strikes_7 ?_
  refine v_iadd (pc := 10) dX5_strikes_10 ?_
  exact hret () _ _ _ _ _ _ trivial (congrArg (fun z => some (ai z)) (by rfl)) rfl (Nat.le_of_ble_eq_true rfl) (Nat.le_of_ble_eq_true rfl) dX5_strikes_11
set_option maxHeartbeats 4000000 in
set_option maxRecDepth 100000 in
theorem c_X5_catches_k9 {gS : sG} (h : Nat) (ta : Nat) (kd : Int) (num : Int) (pv : Int) (sk : Int) (hn : Int) (gl : Int) (sc : Int) (pu : Int) (tu : Nat) (xx : Int) (tr : Int → Int) (htr : trB tr 960) : Ct gS (S := Unit) yX5_catches cX5_catches 2 (some .int) 3 64 0 0 [ar h, ai xx] [(ta, cn 0 21 tr)] (fun q => q ∈ ([(h, co 9 [ar ta, ai kd, ai num, ai pv, ai sk, ai hn, ai gl, ai sc, ai pu, ar tu])] : aW)) (fun _ => True) (fun _ => some (ai ((xx + num) - pv))) (fun _ => [(ta, cn 0 21 (bg (bg tr 2) 1))]) := by
  refine ct_I RX5 [(0, ar h), (1, ai xx)] (by decide) rfl (Nat.le_of_ble_eq_true rfl) rfl (fun x hgS hro hret => ?_)
  subst hgS
  have r0 := hro _ (mem_at 0 rfl)
  show V x cX5_catches RX5 2 (rmU 3 64 0 0) [(ta, cn 0 21 tr)] 0 [(0, ar h), (1, ai xx)] [] 0 0
  refine v_aload_n (pc := 0) 0 rfl dX5_catches_0 ?_
  refine v_iconst (pc := 1) dX5_catches_1 ?_
  refine v_callU (pc := 2) [0] [] [] (z := yX5_begins) (As := [ai 2]) (rest := []) (c_X5_begins_k9 h ta kd num pv sk hn gl sc pu tu 2 tr (by exact trB_le htr (by decide))) (c := 9) rfl (Or.inl r0) wl_X5_82 wsm_22 wi_X5_begins wk_X5_begins wv_X9_X5_begins_X5_begins wi_X5_begins wk_X5_begins wz_X5 mdo_X5_begins rfl (Nat.le_of_ble_eq_true rfl) ⟨Nat.le_of_ble_eq_true rfl, Nat.le_of_ble_eq_true rfl, Nat.le_of_ble_eq_true rfl, Nat.le_of_ble_eq_true rfl⟩ rfl rfl rfl rfl (by decide) (ro_cons (Or.inl r0) ro_nil) dX5_catches_2 (fun u hu => ?_)
  show V x cX5_catches RX5 2 (rmU 3 64 0 0) [(ta, cn 0 21 (bg tr 2))] 5 [(0, ar h), (1, ai xx)] [] 0 0
  refine v_aload_n (pc := 5) 0 rfl dX5_catches_5 ?_
  refine v_iload_n (pc := 6) 1 rfl dX5_catches_6 ?_
  refine v_callU (pc := 7) [0] [] [] (z := yX5_strikes) (As := [ai xx]) (rest := []) (c_X5_strikes_k9 h ta kd num pv sk hn gl sc pu tu xx (bg tr 2) (by exact trB_le (trB_bg htr (Int.le_refl _)) (by decide))) (c := 9) rfl (Or.inl r0) wl_X5_86 wsm_4 wi_X5_strikes wk_X5_strikes wv_X9_X5_strikes_X5_strikes wi_X5_strikes wk_X5_strikes wz_X5 mdo_X5_strikes rfl (Nat.le_of_ble_eq_true rfl) ⟨Nat.le_of_ble_eq_true rfl, Nat.le_of_ble_eq_true rfl, Nat.le_of_ble_eq_true rfl, Nat.le_of_ble_eq_true rfl⟩ rfl rfl rfl rfl (by decide) (ro_cons (Or.inl r0) ro_nil) dX5_catches_7 (fun u hu => ?_)
  show V x cX5_catches RX5 2 (rmU 3 64 0 0) [(ta, cn 0 21 (bg (bg tr 2) 1))] 10 [(0, ar h), (1, ai xx)] [ai (xx + num)] 0 0
  refine v_aload_n (pc := 10) 0 rfl dX5_catches_10 ?_
  refine v_get (pc := 11) (v := ai pv) 3 (Or.inl r0) fl_5_51_9 rfl dX5_catches_11 ?_
  refine v_isub (pc := 14) dX5_catches_14 ?_
  exact hret () _ _ _ _ _ _ trivial (congrArg (fun z => some (ai z)) (by rfl)) rfl (Nat.le_of_ble_eq_true rfl) (Nat.le_of_ble_eq_true rfl) dX5_catches_15
set_option maxHeartbeats 4000000 in
set_option maxRecDepth 100000 in
theorem c_X9_catches_k9 {gS : sG} (h : Nat) (ta : Nat) (kd : Int) (num : Int) (pv : Int) (sk : Int) (hn : Int) (gl : Int) (sc : Int) (pu : Int) (tu : Nat) (xx : Int) (tr : Int → Int) (htr : trB tr 950) : Ct gS (S := Unit) yX9_catches cX9_catches 2 (some .int) 4 85 0 0 [ar h, ai xx] [(ta, cn 0 21 tr)] (fun q => q ∈ ([(h, co 9 [ar ta, ai kd, ai num, ai pv, ai sk, ai hn, ai gl, ai sc, ai pu, ar tu])] : aW)) (fun _ => True) (fun _ => some (ai (((xx + num) - pv) + pv))) (fun _ => [(ta, cn 0 21 (bg (bg (bg tr 61) 2) 1))]) := by
  refine ct_I RX9 [(0, ar h), (1, ai xx)] (by decide) rfl (Nat.le_of_ble_eq_true rfl) rfl (fun x hgS hro hret => ?_)
  subst hgS
  have r0 := hro _ (mem_at 0 rfl)
  show V x cX9_catches RX9 2 (rmU 4 85 0 0) [(ta, cn 0 21 tr)] 0 [(0, ar h), (1, ai xx)] [] 0 0
  refine v_aload_n (pc := 0) 0 rfl dX9_catches_0 ?_
  refine v_bipush (pc := 1) dX9_catches_1 (by decide) ?_
  refine v_callU (pc := 3) [0] [] [] (z := ⟨RX9, "begins", "(I)V"⟩) (As := [ai 61]) (rest := []) (c_X5_begins_k9 h ta kd num pv sk hn gl sc pu tu 61 tr (by exact trB_le htr (by decide))) (c := 9) rfl (Or.inl r0) wl_X9_27 wsm_10 wi_X5_begins wk_X5_begins wv_X9_X9_begins_X5_begins wi_X5_begins wk_X5_begins wz_X5 mdo_X5_begins rfl (Nat.le_of_ble_eq_true rfl) ⟨Nat.le_of_ble_eq_true rfl, Nat.le_of_ble_eq_true rfl, Nat.le_of_ble_eq_true rfl, Nat.le_of_ble_eq_true rfl⟩ rfl rfl rfl rfl (by decide) (ro_cons (Or.inl r0) ro_nil) dX9_catches_3 (fun u hu => ?_)
  show V x cX9_catches RX9 2 (rmU 4 85 0 0) [(ta, cn 0 21 (bg tr 61))] 6 [(0, ar h), (1, ai xx)] [] 0 0
  refine v_aload_n (pc := 6) 0 rfl dX9_catches_6 ?_
  refine v_iload_n (pc := 7) 1 rfl dX9_catches_7 ?_
  refine v_callSU (pc := 8) [0] [] [] (z := ⟨RX7, "catches", "(I)I"⟩) (As := [ai xx]) (rest := []) (c_X5_catches_k9 h ta kd num pv sk hn gl sc pu tu xx (bg tr 61) (by exact trB_le (trB_bg htr (Int.le_refl _)) (by decide))) (c := 9) rfl wsc_9 (Or.inl r0) wl_X9_31 wsm_11 wsc_9 (Or.inr wsc_7) rfl wi_X5_catches wk_X5_catches wz_X5 mds_X5_catches rfl (Nat.le_of_ble_eq_true rfl) ⟨Nat.le_of_ble_eq_true rfl, Nat.le_of_ble_eq_true rfl, Nat.le_of_ble_eq_true rfl, Nat.le_of_ble_eq_true rfl⟩ rfl rfl rfl rfl (by decide) (ro_cons (Or.inl r0) ro_nil) dX9_catches_8 (fun u hu => ?_)
  show V x cX9_catches RX9 2 (rmU 4 85 0 0) [(ta, cn 0 21 (bg (bg (bg tr 61) 2) 1))] 11 [(0, ar h), (1, ai xx)] [ai ((xx + num) - pv)] 0 0
  refine v_aload_n (pc := 11) 0 rfl dX9_catches_11 ?_
  refine v_get (pc := 12) (v := ai pv) 3 (Or.inl r0) fl_9_34_9 rfl dX9_catches_12 ?_
  refine v_iadd (pc := 15) dX9_catches_15 ?_
  exact hret () _ _ _ _ _ _ trivial (congrArg (fun z => some (ai z)) (by rfl)) rfl (Nat.le_of_ble_eq_true rfl) (Nat.le_of_ble_eq_true rfl) dX9_catches_16
set_option maxHeartbeats 4000000 in
set_option maxRecDepth 100000 in
theorem c_X5_tells_k9 {gS : sG} (h : Nat) (ta : Nat) (kd : Int) (num : Int) (pv : Int) (sk : Int) (hn : Int) (gl : Int) (sc : Int) (pu : Int) (tu : Nat) (xx : Int) (tr : Int → Int) (htr : trB tr 930) : Ct gS (S := Unit) yX5_tells cX5_tells 2 (some .int) 5 106 0 0 [ar h, ai xx] [(ta, cn 0 21 tr)] (fun q => q ∈ ([(h, co 9 [ar ta, ai kd, ai num, ai pv, ai sk, ai hn, ai gl, ai sc, ai pu, ar tu])] : aW)) (fun _ => True) (fun _ => some (ai ((((xx + num) - pv) + pv) * 2))) (fun _ => [(ta, cn 0 21 (bg (bg (bg (bg tr 3) 61) 2) 1))]) := by
  refine ct_I RX5 [(0, ar h), (1, ai xx)] (by decide) rfl (Nat.le_of_ble_eq_true rfl) rfl (fun x hgS hro hret => ?_)
  subst hgS
  have r0 := hro _ (mem_at 0 rfl)
  show V x cX5_tells RX5 2 (rmU 5 106 0 0) [(ta, cn 0 21 tr)] 0 [(0, ar h), (1, ai xx)] [] 0 0
  refine v_aload_n (pc := 0) 0 rfl dX5_tells_0 ?_
  refine v_iconst (pc := 1) dX5_tells_1 ?_
  refine v_callU (pc := 2) [0] [] [] (z := yX5_begins) (As := [ai 3]) (rest := []) (c_X5_begins_k9 h ta kd num pv sk hn gl sc pu tu 3 tr (by exact trB_le htr (by decide))) (c := 9) rfl (Or.inl r0) wl_X5_82 wsm_22 wi_X5_begins wk_X5_begins wv_X9_X5_begins_X5_begins wi_X5_begins wk_X5_begins wz_X5 mdo_X5_begins rfl (Nat.le_of_ble_eq_true rfl) ⟨Nat.le_of_ble_eq_true rfl, Nat.le_of_ble_eq_true rfl, Nat.le_of_ble_eq_true rfl, Nat.le_of_ble_eq_true rfl⟩ rfl rfl rfl rfl (by decide) (ro_cons (Or.inl r0) ro_nil) dX5_tells_2 (fun u hu => ?_)
  show V x cX5_tells RX5 2 (rmU 5 106 0 0) [(ta, cn 0 21 (bg tr 3))] 5 [(0, ar h), (1, ai xx)] [] 0 0
  refine v_aload_n (pc := 5) 0 rfl dX5_tells_5 ?_
  refine v_iload_n (pc := 6) 1 rfl dX5_tells_6 ?_
  refine v_callU (pc := 7) [0] [] [] (z := yX5_catches) (As := [ai xx]) (rest := []) (c_X9_catches_k9 h ta kd num pv sk hn gl sc pu tu xx (bg tr 3) (by exact trB_le (trB_bg htr (Int.le_refl _)) (by decide))) (c := 9) rfl (Or.inl r0) wl_X5_89 wsm_8 wi_X5_catches wk_X5_catches wv_X9_X5_catches_X9_catches wi_X9_catches wk_X9_catches wz_X9 mdo_X5_catches rfl (Nat.le_of_ble_eq_true rfl) ⟨Nat.le_of_ble_eq_true rfl, Nat.le_of_ble_eq_true rfl, Nat.le_of_ble_eq_true rfl, Nat.le_of_ble_eq_true rfl⟩ rfl rfl rfl rfl (by decide) (ro_cons (Or.inl r0) ro_nil) dX5_tells_7 (fun u hu => ?_)
  show V x cX5_tells RX5 2 (rmU 5 106 0 0) [(ta, cn 0 21 (bg (bg (bg (bg tr 3) 61) 2) 1))] 10 [(0, ar h), (1, ai xx)] [ai (((xx + num) - pv) + pv)] 0 0
  refine v_iconst (pc := 10) dX5_tells_10 ?_
  refine v_imul (pc := 11) dX5_tells_11 ?_
  exact hret () _ _ _ _ _ _ trivial (congrArg (fun z => some (ai z)) (by rfl)) rfl (Nat.le_of_ble_eq_true rfl) (Nat.le_of_ble_eq_true rfl) dX5_tells_12
set_option maxHeartbeats 4000000 in
set_option maxRecDepth 100000 in
theorem c_X7_tells_k9 {gS : sG} (h : Nat) (ta : Nat) (kd : Int) (num : Int) (pv : Int) (sk : Int) (hn : Int) (gl : Int) (sc : Int) (pu : Int) (tu : Nat) (xx : Int) (tr : Int → Int) (htr : trB tr 920) : Ct gS (S := Unit) yX7_tells cX7_tells 2 (some .int) 6 127 0 0 [ar h, ai xx] [(ta, cn 0 21 tr)] (fun q => q ∈ ([(h, co 9 [ar ta, ai kd, ai num, ai pv, ai sk, ai hn, ai gl, ai sc, ai pu, ar tu])] : aW)) (fun _ => True) (fun _ => some (ai (kXor ((((xx + num) - pv) + pv) * 2) 7))) (fun _ => [(ta, cn 0 21 (bg (bg (bg (bg (bg tr 31) 3) 61) 2) 1))]) := by
  refine ct_I RX7 [(0, ar h), (1, ai xx)] (by decide) rfl (Nat.le_of_ble_eq_true rfl) rfl (fun x hgS hro hret => ?_)
  subst hgS
  have r0 := hro _ (mem_at 0 rfl)
  show V x cX7_tells RX7 2 (rmU 6 127 0 0) [(ta, cn 0 21 tr)] 0 [(0, ar h), (1, ai xx)] [] 0 0
  refine v_aload_n (pc := 0) 0 rfl dX7_tells_0 ?_
  refine v_bipush (pc := 1) dX7_tells_1 (by decide) ?_
  refine v_callU (pc := 3) [0] [] [] (z := ⟨RX7, "begins", "(I)V"⟩) (As := [ai 31]) (rest := []) (c_X5_begins_k9 h ta kd num pv sk hn gl sc pu tu 31 tr (by exact trB_le htr (by decide))) (c := 9) rfl (Or.inl r0) wl_X7_13 wsm_16 wi_X5_begins wk_X5_begins wv_X9_X7_begins_X5_begins wi_X5_begins wk_X5_begins wz_X5 mdo_X5_begins rfl (Nat.le_of_ble_eq_true rfl) ⟨Nat.le_of_ble_eq_true rfl, Nat.le_of_ble_eq_true rfl, Nat.le_of_ble_eq_true rfl, Nat.le_of_ble_eq_true rfl⟩ rfl rfl rfl rfl (by decide) (ro_cons (Or.inl r0) ro_nil) dX7_tells_3 (fun u hu => ?_)
  show V x cX7_tells RX7 2 (rmU 6 127 0 0) [(ta, cn 0 21 (bg tr 31))] 6 [(0, ar h), (1, ai xx)] [] 0 0
  refine v_aload_n (pc := 6) 0 rfl dX7_tells_6 ?_
  refine v_iload_n (pc := 7) 1 rfl dX7_tells_7 ?_
  refine v_callSU (pc := 8) [0] [] [] (z := yX5_tells) (As := [ai xx]) (rest := []) (c_X5_tells_k9 h ta kd num pv sk hn gl sc pu tu xx (bg tr 31) (by exact trB_le (trB_bg htr (Int.le_refl _)) (by decide))) (c := 9) rfl wsc_9 (Or.inl r0) wl_X7_17 wsm_12 wsc_7 (Or.inl rfl) rfl wi_X5_tells wk_X5_tells wz_X5 mds_X5_tells rfl (Nat.le_of_ble_eq_true rfl) ⟨Nat.le_of_ble_eq_true rfl, Nat.le_of_ble_eq_true rfl, Nat.le_of_ble_eq_true rfl, Nat.le_of_ble_eq_true rfl⟩ rfl rfl rfl rfl (by decide) (ro_cons (Or.inl r0) ro_nil) dX7_tells_8 (fun u hu => ?_)
  show V x cX7_tells RX7 2 (rmU 6 127 0 0) [(ta, cn 0 21 (bg (bg (bg (bg (bg tr 31) 3) 61) 2) 1))] 11 [(0, ar h), (1, ai xx)] [ai ((((xx + num) - pv) + pv) * 2)] 0 0
  refine v_bipush (pc := 11) dX7_tells_11 (by decide) ?_
  refine v_ixor (pc := 13) (c := (kXor ((((xx + num) - pv) + pv) * 2) 7)) (kXor_I _ _) dX7_tells_13 ?_
  exact hret () _ _ _ _ _ _ trivial (congrArg (fun z => some (ai z)) (by rfl)) rfl (Nat.le_of_ble_eq_true rfl) (Nat.le_of_ble_eq_true rfl) dX7_tells_14
