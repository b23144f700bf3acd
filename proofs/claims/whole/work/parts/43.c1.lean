set_option maxHeartbeats 4000000 in
set_option maxRecDepth 100000 in
theorem c_X11_isOut {gS : sG} (n : Int) (lo : Int) (hi : Int) (hb_n : -2147483648 ≤ n ∧ n < 2147483648) (hb_lo : -2147483648 ≤ lo ∧ lo < 2147483648) (hb_hi : -2147483648 ≤ hi ∧ hi < 2147483648) : Ct gS (S := Unit) yX11_isOut cX11_isOut 3 (some .boolean) 0 0 0 0 [ai n, ai lo, ai hi] [] (fun q => q ∈ ([] : aW)) (fun _ => True) (fun _ => some (ai (if n < lo ∨ hi < n then 1 else 0))) (fun _ => []) := by
  refine ct_Z RX11 [(0, ai n), (1, ai lo), (2, ai hi)] (by decide) rfl (Nat.le_of_ble_eq_true rfl) rfl (fun x hgS hro hret => ?_)
  subst hgS
  show V x cX11_isOut RX11 3 (rmU 0 0 0 0) [] 0 [(0, ai n), (1, ai lo), (2, ai hi)] [] 0 0
  refine v_iload_n (pc := 0) 0 rfl dX11_isOut_0 ?_
  refine v_iload_n (pc := 1) 1 rfl dX11_isOut_1 ?_
  refine v_icmp_lt (pc := 2) 10 dX11_isOut_2 (by decide) (by unfold iB; omega) (by unfold iB; omega) (fun c_1 => ?_) (fun c_1 => ?_)
  · skip
    refine v_iconst (pc := 10) dX11_isOut_10 ?_
    refine v_goto (pc := 11) 15 dX11_isOut_11 (by decide) ?_
    exact hret () _ _ _ _ _ _ trivial (congrArg (fun z => some (ai z)) (by split <;> omega)) (Or.inr rfl) rfl (Nat.le_of_ble_eq_true rfl) (Nat.le_of_ble_eq_true rfl) dX11_isOut_15
  · skip
    refine v_iload_n (pc := 5) 0 rfl dX11_isOut_5 ?_
    refine v_iload_n (pc := 6) 2 rfl dX11_isOut_6 ?_
    refine v_icmp_le (pc := 7) 14 dX11_isOut_7 (by decide) (by unfold iB; omega) (by unfold iB; omega) (fun c_2 => ?_) (fun c_2 => ?_)
    · skip
      refine v_iconst (pc := 14) dX11_isOut_14 ?_
      exact hret () _ _ _ _ _ _ trivial (congrArg (fun z => some (ai z)) (by split <;> omega)) (Or.inl rfl) rfl (Nat.le_of_ble_eq_true rfl) (Nat.le_of_ble_eq_true rfl) dX11_isOut_15
    · skip
      refine v_iconst (pc := 10) dX11_isOut_10 ?_
      refine v_goto (pc := 11) 15 dX11_isOut_11 (by decide) ?_
      exact hret () _ _ _ _ _ _ trivial (congrArg (fun z => some (ai z)) (by split <;> omega)) (Or.inr rfl) rfl (Nat.le_of_ble_eq_true rfl) (Nat.le_of_ble_eq_true rfl) dX11_isOut_15
set_option maxHeartbeats 4000000 in
set_option maxRecDepth 100000 in
theorem c_X11_isNoPile {gS : sG} (n : Int) (hb_n : -2147483648 ≤ n ∧ n < 2147483648) : Ct gS (S := Unit) yX11_isNoPile cX11_isNoPile 1 (some .boolean) 1 22 0 0 [ai n] [] (fun q => q ∈ ([] : aW)) (fun _ => True) (fun _ => some (ai (if n < 1 ∨ 99 < n then 1 else 0))) (fun _ => []) := by
  refine ct_Z RX11 [(0, ai n)] (by decide) rfl (Nat.le_of_ble_eq_true rfl) rfl (fun x hgS hro hret => ?_)
  subst hgS
  show V x cX11_isNoPile RX11 1 (rmU 1 22 0 0) [] 0 [(0, ai n)] [] 0 0
  refine v_iload_n (pc := 0) 0 rfl dX11_isNoPile_0 ?_
  refine v_iconst (pc := 1) dX11_isNoPile_1 ?_
  refine v_bipush (pc := 2) dX11_isNoPile_2 (by decide) ?_
  refine v_callS (pc := 4) [] [] [] (As := [ai n, ai 1, ai 99]) (rest := []) (c_X11_isOut n 1 99 (by first | omega | assumption) (by first | omega | assumption) (by first | omega | assumption)) wl_X11_41 ws_X11_isOut wk_X11_isOut wz_X11 md_X11_isOut rfl (Nat.le_of_ble_eq_true rfl) ⟨Nat.le_of_ble_eq_true rfl, Nat.le_of_ble_eq_true rfl, Nat.le_of_ble_eq_true rfl, Nat.le_of_ble_eq_true rfl⟩ rfl rfl rfl rfl (by decide) ro_nil dX11_isNoPile_4 (fun u hu => ?_)
  show V x cX11_isNoPile RX11 1 (rmU 1 22 0 0) [] 7 [(0, ai n)] [ai (if n < 1 ∨ 99 < n then 1 else 0)] 0 0
  exact hret () _ _ _ _ _ _ trivial (congrArg (fun z => some (ai z)) (by rfl)) ite01 rfl (Nat.le_of_ble_eq_true rfl) (Nat.le_of_ble_eq_true rfl) dX11_isNoPile_7
set_option maxHeartbeats 4000000 in
set_option maxRecDepth 100000 in
theorem c_X11_isNoForce {gS : sG} (n : Int) (hb_n : -2147483648 ≤ n ∧ n < 2147483648) : Ct gS (S := Unit) yX11_isNoForce cX11_isNoForce 1 (some .boolean) 1 22 0 0 [ai n] [] (fun q => q ∈ ([] : aW)) (fun _ => True) (fun _ => some (ai (if n < 0 ∨ 20 < n then 1 else 0))) (fun _ => []) := by
  refine ct_Z RX11 [(0, ai n)] (by decide) rfl (Nat.le_of_ble_eq_true rfl) rfl (fun x hgS hro hret => ?_)
  subst hgS
  show V x cX11_isNoForce RX11 1 (rmU 1 22 0 0) [] 0 [(0, ai n)] [] 0 0
  refine v_iload_n (pc := 0) 0 rfl dX11_isNoForce_0 ?_
  refine v_iconst (pc := 1) dX11_isNoForce_1 ?_
  refine v_bipush (pc := 2) dX11_isNoForce_2 (by decide) ?_
  refine v_callS (pc := 4) [] [] [] (As := [ai n, ai 0, ai 20]) (rest := []) (c_X11_isOut n 0 20 (by first | omega | assumption) (by first | omega | assumption) (by first | omega | assumption)) wl_X11_41 ws_X11_isOut wk_X11_isOut wz_X11 md_X11_isOut rfl (Nat.le_of_ble_eq_true rfl) ⟨Nat.le_of_ble_eq_true rfl, Nat.le_of_ble_eq_true rfl, Nat.le_of_ble_eq_true rfl, Nat.le_of_ble_eq_true rfl⟩ rfl rfl rfl rfl (by decide) ro_nil dX11_isNoForce_4 (fun u hu => ?_)
  show V x cX11_isNoForce RX11 1 (rmU 1 22 0 0) [] 7 [(0, ai n)] [ai (if n < 0 ∨ 20 < n then 1 else 0)] 0 0
  exact hret () _ _ _ _ _ _ trivial (congrArg (fun z => some (ai z)) (by rfl)) ite01 rfl (Nat.le_of_ble_eq_true rfl) (Nat.le_of_ble_eq_true rfl) dX11_isNoForce_7
set_option maxHeartbeats 4000000 in
set_option maxRecDepth 100000 in
theorem c_X11_isNoDraw {gS : sG} (n : Int) (hb_n : -2147483648 ≤ n ∧ n < 2147483648) : Ct gS (S := Unit) yX11_isNoDraw cX11_isNoDraw 1 (some .boolean) 1 22 0 0 [ai n] [] (fun q => q ∈ ([] : aW)) (fun _ => True) (fun _ => some (ai (if n < 0 ∨ 9 < n then 1 else 0))) (fun _ => []) := by
  refine ct_Z RX11 [(0, ai n)] (by decide) rfl (Nat.le_of_ble_eq_true rfl) rfl (fun x hgS hro hret => ?_)
  subst hgS
  show V x cX11_isNoDraw RX11 1 (rmU 1 22 0 0) [] 0 [(0, ai n)] [] 0 0
  refine v_iload_n (pc := 0) 0 rfl dX11_isNoDraw_0 ?_
  refine v_iconst (pc := 1) dX11_isNoDraw_1 ?_
  refine v_bipush (pc := 2) dX11_isNoDraw_2 (by decide) ?_
  refine v_callS (pc := 4) [] [] [] (As := [ai n, ai 0, ai 9]) (rest := []) (c_X11_isOut n 0 9 (by first | omega | assumption) (by first | omega | assumption) (by first | omega | assumption)) wl_X11_41 ws_X11_isOut wk_X11_isOut wz_X11 md_X11_isOut rfl (Nat.le_of_ble_eq_true rfl) ⟨Nat.le_of_ble_eq_true rfl, Nat.le_of_ble_eq_true rfl, Nat.le_of_ble_eq_true rfl, Nat.le_of_ble_eq_true rfl⟩ rfl rfl rfl rfl (by decide) ro_nil dX11_isNoDraw_4 (fun u hu => ?_)
  show V x cX11_isNoDraw RX11 1 (rmU 1 22 0 0) [] 7 [(0, ai n)] [ai (if n < 0 ∨ 9 < n then 1 else 0)] 0 0
  exact hret () _ _ _ _ _ _ trivial (congrArg (fun z => some (ai z)) (by rfl)) ite01 rfl (Nat.le_of_ble_eq_true rfl) (Nat.le_of_ble_eq_true rfl) dX11_isNoDraw_7
set_option maxHeartbeats 4000000 in
set_option maxRecDepth 100000 in
theorem c_X11_isNoPart {gS : sG} (n : Int) (hb_n : -2147483648 ≤ n ∧ n < 2147483648) : Ct gS (S := Unit) yX11_isNoPart cX11_isNoPart 1 (some .boolean) 1 22 0 0 [ai n] [] (fun q => q ∈ ([] : aW)) (fun _ => True) (fun _ => some (ai (if n < 0 ∨ 1 < n then 1 else 0))) (fun _ => []) := by
  refine ct_Z RX11 [(0, ai n)] (by decide) rfl (Nat.le_of_ble_eq_true rfl) rfl (fun x hgS hro hret => ?_)
  subst hgS
  show V x cX11_isNoPart RX11 1 (rmU 1 22 0 0) [] 0 [(0, ai n)] [] 0 0
  refine v_iload_n (pc := 0) 0 rfl dX11_isNoPart_0 ?_
  refine v_iconst (pc := 1) dX11_isNoPart_1 ?_
  refine v_iconst (pc := 2) dX11_isNoPart_2 ?_
  refine v_callS (pc := 3) [] [] [] (As := [ai n, ai 0, ai 1]) (rest := []) (c_X11_isOut n 0 1 (by first | omega | assumption) (by first | omega | assumption) (by first | omega | assumption)) wl_X11_41 ws_X11_isOut wk_X11_isOut wz_X11 md_X11_isOut rfl (Nat.le_of_ble_eq_true rfl) ⟨Nat.le_of_ble_eq_true rfl, Nat.le_of_ble_eq_true rfl, Nat.le_of_ble_eq_true rfl, Nat.le_of_ble_eq_true rfl⟩ rfl rfl rfl rfl (by decide) ro_nil dX11_isNoPart_3 (fun u hu => ?_)
  show V x cX11_isNoPart RX11 1 (rmU 1 22 0 0) [] 6 [(0, ai n)] [ai (if n < 0 ∨ 1 < n then 1 else 0)] 0 0
  exact hret () _ _ _ _ _ _ trivial (congrArg (fun z => some (ai z)) (by rfl)) ite01 rfl (Nat.le_of_ble_eq_true rfl) (Nat.le_of_ble_eq_true rfl) dX11_isNoPart_6
set_option maxHeartbeats 4000000 in
set_option maxRecDepth 100000 in
theorem c_X11_matsOf {gS : sG} (n : Int) : Ct gS (S := Unit) yX11_matsOf cX11_matsOf 1 (some .int) 0 0 0 0 [ai n] [] (fun q => q ∈ ([] : aW)) (fun _ => True) (fun _ => some (ai (5 * (n + 1)))) (fun _ => []) := by
  refine ct_I RX11 [(0, ai n)] (by decide) rfl (Nat.le_of_ble_eq_true rfl) rfl (fun x hgS hro hret => ?_)
  subst hgS
  show V x cX11_matsOf RX11 1 (rmU 0 0 0 0) [] 0 [(0, ai n)] [] 0 0
  refine v_iconst (pc := 0) dX11_matsOf_0 ?_
  refine v_iload_n (pc := 1) 0 rfl dX11_matsOf_1 ?_
  refine v_iconst (pc := 2) dX11_matsOf_2 ?_
  refine v_iadd (pc := 3) dX11_matsOf_3 ?_
  refine v_imul (pc := 4) dX11_matsOf_4 ?_
  exact hret () _ _ _ _ _ _ trivial (congrArg (fun z => some (ai z)) (by rfl)) rfl (Nat.le_of_ble_eq_true rfl) (Nat.le_of_ble_eq_true rfl) dX11_matsOf_5
set_option maxHeartbeats 4000000 in
set_option maxRecDepth 100000 in
theorem c_X11_tenths {gS : sG} (t : Int) (ht : 0 ≤ t ∧ t ≤ 9) : Ct gS (S := Unit) yX11_tenths cX11_tenths 4 (some .long) 0 0 0 0 [ai t] [] (fun q => q ∈ ([] : aW)) (fun _ => True) (fun _ => some (al (10 ^ t.toNat))) (fun _ => []) := by
  refine ct_L RX11 [(0, ai t)] (by decide) rfl (Nat.le_of_ble_eq_true rfl) rfl (fun x hgS hro hret => ?_)
  subst hgS
  show V x cX11_tenths RX11 4 (rmU 0 0 0 0) [] 0 [(0, ai t)] [] 0 0
  refine v_lconst1 (pc := 0) dX11_tenths_0 ?_
  refine v_lstore_n (pc := 1) (L2 := [(1, al 1), (0, ai t)]) rfl (by decide) dX11_tenths_1 ?_
  refine v_iconst (pc := 2) dX11_tenths_2 ?_
  refine v_istore_n (pc := 3) (L2 := [(3, ai 0), (1, al 1), (0, ai t)]) rfl (by decide) dX11_tenths_3 ?_
  have lp4 : ∀ (mm : Nat) (k : Int) (aa : Int), (t - k).toNat = mm → (0 ≤ k ∧ k ≤ t) → (aa = 10 ^ k.toNat) → V x cX11_tenths RX11 4 (rmU 0 0 0 0) [] 4 [(0, ai t), (1, al aa), (3, ai k)] [] 0 0 := by
    intro mm
    induction mm using Nat.strongRecOn with
    | _ mm ih =>
      intro k aa hmm hk hal
      refine v_iload_n (pc := 4) 2 rfl dX11_tenths_4 ?_
      refine v_iload_n (pc := 5) 0 rfl dX11_tenths_5 ?_
      refine v_icmp_ge (pc := 6) 21 dX11_tenths_6 (by decide) (by unfold iB; omega) (by unfold iB; omega) (fun c_1 => ?_) (fun c_1 => ?_)
      · skip
        refine v_lload_n (pc := 21) 1 rfl dX11_tenths_21 ?_
        exact hret () _ _ _ _ _ _ trivial (congrArg (fun z => some (al z)) (by rw [hal, show k = t by omega])) rfl (Nat.le_of_ble_eq_true rfl) (Nat.le_of_ble_eq_true rfl) dX11_tenths_22
      · skip
        refine v_lload_n (pc := 9) 1 rfl dX11_tenths_9 ?_
        refine v_ldc2 (pc := 10) (z := 10) (bw_mem 733 (by decide +kernel) rfl) dX11_tenths_10 ?_
        refine v_lmul (pc := 13) dX11_tenths_13 ?_
        refine v_lstore_n (pc := 14) (L2 := [(1, al (aa * 10)), (0, ai t), (3, ai k)]) rfl (by decide) dX11_tenths_14 ?_
        refine v_iinc (pc := 15) 2 (L2 := [(3, ai (k + 1)), (1, al (aa * 10)), (0, ai t)]) rfl rfl (by decide) dX11_tenths_15 ?_
        refine v_goto (pc := 18) 4 dX11_tenths_18 (by decide) ?_
        refine v_sub (L2 := [(0, ai t), (1, al (aa * 10)), (3, ai (k + 1))]) [2, 1, 0] rfl ?_
        exact ih _ (by omega) (k + 1) (aa * 10) rfl (by omega) (by rw [hal, show (k + 1).toNat = k.toNat + 1 by omega, Int.pow_succ])
  refine v_sub (L2 := [(0, ai t), (1, al 1), (3, ai 0)]) [2, 1, 0] rfl ?_
  exact lp4 _ 0 1 rfl (by omega) (by rfl)
set_option maxHeartbeats 4000000 in
set_option maxRecDepth 100000 in
theorem c_X11_lowest {gS : sG} (up : Int) (low : Int) (part : Int) (hup : 0 ≤ up ∧ up ≤ 1000000000000) (hlow : 0 < low ∧ low ≤ 1000000000000) (hpart : 0 ≤ part ∧ part ≤ 1) : Ct gS (S := Unit) yX11_lowest cX11_lowest 12 (some .long) 0 0 0 0 [al up, al low, ai part] [] (fun q => q ∈ ([] : aW)) (fun _ => True) (fun _ => some (al (kFr up low part))) (fun _ => []) := by
  refine ct_L RX11 [(0, al up), (2, al low), (4, ai part)] (by decide) rfl (Nat.le_of_ble_eq_true rfl) rfl (fun x hgS hro hret => ?_)
  subst hgS
  show V x cX11_lowest RX11 12 (rmU 0 0 0 0) [] 0 [(0, al up), (2, al low), (4, ai part)] [] 0 0
  refine v_lload_n (pc := 0) 0 rfl dX11_lowest_0 ?_
  refine v_lstore (pc := 1) (L2 := [(5, al up), (0, al up), (2, al low), (4, ai part)]) rfl (by decide) dX11_lowest_1 ?_
  refine v_lload_n (pc := 3) 2 rfl dX11_lowest_3 ?_
  refine v_lstore (pc := 4) (L2 := [(7, al low), (5, al up), (0, al up), (2, al low), (4, ai part)]) rfl (by decide) dX11_lowest_4 ?_
  refine v_iconst (pc := 6) dX11_lowest_6 ?_
  refine v_istore (pc := 7) (L2 := [(9, ai 0), (7, al low), (5, al up), (0, al up), (2, al low), (4, ai part)]) rfl (by decide) dX11_lowest_7 ?_
  have lp9 : ∀ (mm : Nat) (xx : Int) (yy : Int) (st : Int), (200 - st).toNat = mm → (0 ≤ xx ∧ xx ≤ 1000000000000) → (0 ≤ yy ∧ yy ≤ 1000000000000) → (kGcd xx yy = kGcd up low) → (0 < xx ∨ 0 < yy) → (0 ≤ st ∧ st ≤ 200) → (lwI xx yy st) → V x cX11_lowest RX11 12 (rmU 0 0 0 0) [] 9 [(0, al up), (2, al low), (4, ai part), (5, al xx), (7, al yy), (9, ai st)] [] 0 0 := by
    intro mm
    induction mm using Nat.strongRecOn with
    | _ mm ih =>
      intro xx yy st hmm hx hy hgc hpos hst hlw
      refine v_iload (pc := 9) 5 rfl dX11_lowest_9 ?_
      refine v_sipush (pc := 11) dX11_lowest_11 (by decide) ?_
      refine v_icmp_ge (pc := 14) 45 dX11_lowest_14 (by decide) (by unfold iB; omega) (by unfold iB; omega) (fun c_1 => ?_) (fun c_1 => ?_)
      · skip
        have e0 : yy = 0 := lw_end (by omega) hlw hx.1 hy.1
        refine v_lload (pc := 45) 3 rfl dX11_lowest_45 ?_
        refine v_lconst0 (pc := 47) dX11_lowest_47 ?_
        refine v_lcmp (pc := 48) (by unfold lB; omega) (by unfold lB; omega) dX11_lowest_48 ?_
        refine v_if_ne (pc := 49) 56 dX11_lowest_49 (by decide) (acmp_iB _ _) (fun c_2 => ?_) (fun c_2 => ?_)
        · skip
          have c_2 : ¬ _ = _ := fun z => c_2 (acmp_eq.mpr z)
          refine v_iload (pc := 56) 2 rfl dX11_lowest_56 ?_
          refine v_if_ne (pc := 58) 65 dX11_lowest_58 (by decide) (by unfold iB; omega) (fun c_3 => ?_) (fun c_3 => ?_)
          · skip
            refine v_lload_n (pc := 65) 1 rfl dX11_lowest_65 ?_
            refine v_lload (pc := 66) 3 rfl dX11_lowest_66 ?_
            refine v_ldiv (pc := 68) (by omega) (by omega) (by unfold lB; omega) (by unfold lB; omega) dX11_lowest_68 ?_
            exact hret () _ _ _ _ _ _ trivial (congrArg (fun z => some (al z)) (by subst e0; rw [kGcd_0 hx.1] at hgc; unfold kFr; rw [← hgc]; first | rw [if_pos (by omega)] | rw [if_neg (by omega)])) rfl (Nat.le_of_ble_eq_true rfl) (Nat.le_of_ble_eq_true rfl) dX11_lowest_69
          · skip
            refine v_lload_n (pc := 61) 0 rfl dX11_lowest_61 ?_
            refine v_goto (pc := 62) 66 dX11_lowest_62 (by decide) ?_
            refine v_lload (pc := 66) 3 rfl dX11_lowest_66 ?_
            refine v_ldiv (pc := 68) (by omega) (by omega) (by unfold lB; omega) (by unfold lB; omega) dX11_lowest_68 ?_
            exact hret () _ _ _ _ _ _ trivial (congrArg (fun z => some (al z)) (by subst e0; rw [kGcd_0 hx.1] at hgc; unfold kFr; rw [← hgc]; first | rw [if_pos (by omega)] | rw [if_neg (by omega)])) rfl (Nat.le_of_ble_eq_true rfl) (Nat.le_of_ble_eq_true rfl) dX11_lowest_69
        · skip
          have c_2 := acmp_eq.mp c_2
          exfalso; omega
      · skip
        refine v_lload (pc := 17) 4 rfl dX11_lowest_17 ?_
        refine v_lconst0 (pc := 19) dX11_lowest_19 ?_
        refine v_lcmp (pc := 20) (by unfold lB; omega) (by unfold lB; omega) dX11_lowest_20 ?_
        refine v_if_eq (pc := 21) 45 dX11_lowest_21 (by decide) (acmp_iB _ _) (fun c_4 => ?_) (fun c_4 => ?_)
        · skip
          have c_4 := acmp_eq.mp c_4
          have e0 : yy = 0 := by omega
          refine v_lload (pc := 45) 3 rfl dX11_lowest_45 ?_
          refine v_lconst0 (pc := 47) dX11_lowest_47 ?_
          refine v_lcmp (pc := 48) (by unfold lB; omega) (by unfold lB; omega) dX11_lowest_48 ?_
          refine v_if_ne (pc := 49) 56 dX11_lowest_49 (by decide) (acmp_iB _ _) (fun c_5 => ?_) (fun c_5 => ?_)
          · skip
            have c_5 : ¬ _ = _ := fun z => c_5 (acmp_eq.mpr z)
            refine v_iload (pc := 56) 2 rfl dX11_lowest_56 ?_
            refine v_if_ne (pc := 58) 65 dX11_lowest_58 (by decide) (by unfold iB; omega) (fun c_6 => ?_) (fun c_6 => ?_)
            · skip
              refine v_lload_n (pc := 65) 1 rfl dX11_lowest_65 ?_
              refine v_lload (pc := 66) 3 rfl dX11_lowest_66 ?_
              refine v_ldiv (pc := 68) (by omega) (by omega) (by unfold lB; omega) (by unfold lB; omega) dX11_lowest_68 ?_
              exact hret () _ _ _ _ _ _ trivial (congrArg (fun z => some (al z)) (by subst e0; rw [kGcd_0 hx.1] at hgc; unfold kFr; rw [← hgc]; first | rw [if_pos (by omega)] | rw [if_neg (by omega)])) rfl (Nat.le_of_ble_eq_true rfl) (Nat.le_of_ble_eq_true rfl) dX11_lowest_69
            · skip
              refine v_lload_n (pc := 61) 0 rfl dX11_lowest_61 ?_
              refine v_goto (pc := 62) 66 dX11_lowest_62 (by decide) ?_
              refine v_lload (pc := 66) 3 rfl dX11_lowest_66 ?_
              refine v_ldiv (pc := 68) (by omega) (by omega) (by unfold lB; omega) (by unfold lB; omega) dX11_lowest_68 ?_
              exact hret () _ _ _ _ _ _ trivial (congrArg (fun z => some (al z)) (by subst e0; rw [kGcd_0 hx.1] at hgc; unfold kFr; rw [← hgc]; first | rw [if_pos (by omega)] | rw [if_neg (by omega)])) rfl (Nat.le_of_ble_eq_true rfl) (Nat.le_of_ble_eq_true rfl) dX11_lowest_69
          · skip
            have c_5 := acmp_eq.mp c_5
            exfalso; omega
        · skip
          have c_4 : ¬ _ = _ := fun z => c_4 (acmp_eq.mpr z)
          refine v_lload (pc := 24) 3 rfl dX11_lowest_24 ?_
          refine v_lload (pc := 26) 4 rfl dX11_lowest_26 ?_
          refine v_lrem (pc := 28) (by omega) (by omega) (by unfold lB; omega) (by unfold lB; omega) dX11_lowest_28 ?_
          refine v_lstore (pc := 29) (L2 := [(10, al (xx % yy)), (0, al up), (2, al low), (4, ai part), (5, al xx), (7, al yy), (9, ai st)]) rfl (by decide) dX11_lowest_29 ?_
          refine v_lload (pc := 31) 5 rfl dX11_lowest_31 ?_
          refine v_lstore (pc := 33) (L2 := [(5, al yy), (10, al (xx % yy)), (0, al up), (2, al low), (4, ai part), (7, al yy), (9, ai st)]) rfl (by decide) dX11_lowest_33 ?_
          refine v_lload (pc := 35) 1 rfl dX11_lowest_35 ?_
          refine v_lstore (pc := 37) (L2 := [(7, al (xx % yy)), (5, al yy), (10, al (xx % yy)), (0, al up), (2, al low), (4, ai part), (9, ai st)]) rfl (by decide) dX11_lowest_37 ?_
          refine v_iinc (pc := 39) 6 (L2 := [(9, ai (st + 1)), (7, al (xx % yy)), (5, al yy), (10, al (xx % yy)), (0, al up), (2, al low), (4, ai part)]) rfl rfl (by decide) dX11_lowest_39 ?_
          refine v_goto (pc := 42) 9 dX11_lowest_42 (by decide) ?_
          refine v_sub (L2 := [(0, al up), (2, al low), (4, ai part), (5, al yy), (7, al (xx % yy)), (9, ai (st + 1))]) [4, 5, 6, 2, 1, 0] rfl ?_
          exact ih _ (by omega) yy (xx % yy) (st + 1) rfl (by omega) (by have hm1 := Int.emod_lt_of_pos xx (b := yy) (by omega); have hm0 := Int.emod_nonneg xx (b := yy) (by omega); omega) (by rw [kGcd_step (by omega) (by omega)]; exact hgc) (by omega) (by omega) (by exact lwI_s (by omega) (by omega) (by omega) hlw)
  refine v_sub (L2 := [(0, al up), (2, al low), (4, ai part), (5, al up), (7, al low), (9, ai 0)]) [3, 4, 5, 2, 1, 0] rfl ?_
  exact lp9 _ up low 0 rfl (by omega) (by omega) (by rfl) (by omega) (by omega) (by exact lwI_0 (by omega) (by omega))
set_option maxHeartbeats 4000000 in
set_option maxRecDepth 100000 in
theorem c_X4_turnBy {gS : sG} (h : Nat) (fa : Nat) (n : Int) (hd : Int) (r : Int) (un : Int) (wd : Int) (op : Int) (fo : Int) : Ct gS (S := Unit) yX4_turnBy cX4_turnBy 2 (some .int) 0 0 0 0 [ar h, ai fo] [] (fun q => q ∈ ([(h, co 4 [ar fa, ai n, ai (10 * hd), ai r, ai un, ai wd, ai op])] : aW)) (fun _ => True) (fun _ => some (ai (5 * fo + r))) (fun _ => []) := by
  refine ct_I RX4 [(0, ar h), (1, ai fo)] (by decide) rfl (Nat.le_of_ble_eq_true rfl) rfl (fun x hgS hro hret => ?_)
  subst hgS
  have r0 := hro _ (mem_at 0 rfl)
  show V x cX4_turnBy RX4 2 (rmU 0 0 0 0) [] 0 [(0, ar h), (1, ai fo)] [] 0 0
  refine v_iconst (pc := 0) dX4_turnBy_0 ?_
  refine v_iload_n (pc := 1) 1 rfl dX4_turnBy_1 ?_
  refine v_imul (pc := 2) dX4_turnBy_2 ?_
  refine v_aload_n (pc := 3) 0 rfl dX4_turnBy_3 ?_
  refine v_get (pc := 4) (v := ai r) 3 (Or.inl r0) fl_4_46_4 rfl dX4_turnBy_4 ?_
  refine v_iadd (pc := 7) dX4_turnBy_7 ?_
  exact hret () _ _ _ _ _ _ trivial (congrArg (fun z => some (ai z)) (by rfl)) rfl (Nat.le_of_ble_eq_true rfl) (Nat.le_of_ble_eq_true rfl) dX4_turnBy_8
set_option maxHeartbeats 4000000 in
set_option maxRecDepth 100000 in
theorem c_X4_caughtBy {gS : sG} (h : Nat) (fa : Nat) (n : Int) (hd : Int) (r : Int) (un : Int) (wd : Int) (op : Int) (fo : Int) (d : Int) (hpi : (-200 ≤ r ∧ r ≤ 100) ∧ (0 ≤ un ∧ un ≤ 21) ∧ (0 ≤ wd ∧ wd ≤ 99) ∧ (0 ≤ hd ∧ hd ≤ 9) ∧ (0 ≤ n ∧ n ≤ 99) ∧ (0 ≤ op ∧ op ≤ 100000)) (hfo : 0 ≤ fo ∧ fo ≤ 20) (hdr : 0 ≤ d ∧ d ≤ 9) : Ct gS (S := Unit) yX4_caughtBy cX4_caughtBy 4 (some .int) 1 31 0 0 [ar h, ai fo, ai d] [] (fun q => q ∈ ([(h, co 4 [ar fa, ai n, ai (10 * hd), ai r, ai un, ai wd, ai op])] : aW)) (fun _ => True) (fun _ => some (ai (kCat (5 * fo + r) un wd hd n d op))) (fun _ => []) := by
  refine ct_I RX4 [(0, ar h), (1, ai fo), (2, ai d)] (by decide) rfl (Nat.le_of_ble_eq_true rfl) rfl (fun x hgS hro hret => ?_)
  subst hgS
  have r0 := hro _ (mem_at 0 rfl)
  have hmu : -1000 ≤ un * (d - 4) ∧ un * (d - 4) ≤ 1000 := by rcases (show d = 0 ∨ d = 1 ∨ d = 2 ∨ d = 3 ∨ d = 4 ∨ d = 5 ∨ d = 6 ∨ d = 7 ∨ d = 8 ∨ d = 9 by omega) with rfl | rfl | rfl | rfl | rfl | rfl | rfl | rfl | rfl | rfl <;> omega
  have hab : 0 ≤ kAbs (5 * fo + r + un * (d - 4) - 50) ∧ kAbs (5 * fo + r + un * (d - 4) - 50) ≤ 3000 := by unfold kAbs; split <;> omega
  show V x cX4_caughtBy RX4 4 (rmU 1 31 0 0) [] 0 [(0, ar h), (1, ai fo), (2, ai d)] [] 0 0
  refine v_aload_n (pc := 0) 0 rfl dX4_caughtBy_0 ?_
  refine v_iload_n (pc := 1) 1 rfl dX4_caughtBy_1 ?_
  refine v_callV (pc := 2) [] [] [] (As := [ai fo]) (rest := []) (c_X4_turnBy h fa n hd r un wd op fo ) (c := 4) rfl (Or.inl r0) wl_X4_69 wi_X4_turnBy wv_X4_X4_turnBy_X4_turnBy wk_X4_turnBy wz_X4 md_X4_turnBy rfl (Nat.le_of_ble_eq_true rfl) ⟨Nat.le_of_ble_eq_true rfl, Nat.le_of_ble_eq_true rfl, Nat.le_of_ble_eq_true rfl, Nat.le_of_ble_eq_true rfl⟩ rfl rfl rfl rfl (by decide) (ro_cons (Or.inl r0) ro_nil) dX4_caughtBy_2 (fun u hu => ?_)
  show V x cX4_caughtBy RX4 4 (rmU 1 31 0 0) [] 5 [(0, ar h), (1, ai fo), (2, ai d)] [ai (5 * fo + r)] 0 0
  refine v_aload_n (pc := 5) 0 rfl dX4_caughtBy_5 ?_
  refine v_get (pc := 6) (v := ai un) 4 (Or.inl r0) fl_4_53_4 rfl dX4_caughtBy_6 ?_
  refine v_iload_n (pc := 9) 2 rfl dX4_caughtBy_9 ?_
  refine v_iconst (pc := 10) dX4_caughtBy_10 ?_
  refine v_isub (pc := 11) dX4_caughtBy_11 ?_
  refine v_imul (pc := 12) dX4_caughtBy_12 ?_
  refine v_iadd (pc := 13) dX4_caughtBy_13 ?_
  refine v_bipush (pc := 14) dX4_caughtBy_14 (by decide) ?_
  refine v_isub (pc := 16) dX4_caughtBy_16 ?_
  refine v_callS (pc := 17) [] [] [] (As := [ai (((5 * fo + r) + (un * (d - 4))) - 50)]) (rest := []) (c_J9_abs_0f7a4 (((5 * fo + r) + (un * (d - 4))) - 50) (by first | omega | assumption)) wl_X4_72 ws_J9_abs_0f7a4 wk_J9_abs_0f7a4 wz_J9 md_J9_abs_0f7a4 rfl (Nat.le_of_ble_eq_true rfl) ⟨Nat.le_of_ble_eq_true rfl, Nat.le_of_ble_eq_true rfl, Nat.le_of_ble_eq_true rfl, Nat.le_of_ble_eq_true rfl⟩ rfl rfl rfl rfl (by decide) ro_nil dX4_caughtBy_17 (fun u hu => ?_)
  show V x cX4_caughtBy RX4 4 (rmU 1 31 0 0) [] 20 [(0, ar h), (1, ai fo), (2, ai d)] [ai (kAbs (((5 * fo + r) + (un * (d - 4))) - 50))] 0 0
  refine v_istore_n (pc := 20) (L2 := [(3, ai (kAbs (((5 * fo + r) + (un * (d - 4))) - 50))), (0, ar h), (1, ai fo), (2, ai d)]) rfl (by decide) dX4_caughtBy_20 ?_
  refine v_iload_n (pc := 21) 0 rfl dX4_caughtBy_21 ?_
  refine v_aload_n (pc := 22) 1 rfl dX4_caughtBy_22 ?_
  refine v_get (pc := 23) (v := ai wd) 5 (Or.inl r0) fl_4_61_4 rfl dX4_caughtBy_23 ?_
  refine v_icmp_gt (pc := 26) 45 dX4_caughtBy_26 (by decide) (by unfold iB; omega) (by unfold iB; omega) (fun c_1 => ?_) (fun c_1 => ?_)
  · skip
    refine v_iload_n (pc := 45) 0 rfl dX4_caughtBy_45 ?_
    refine v_iconst (pc := 46) dX4_caughtBy_46 ?_
    refine v_aload_n (pc := 47) 1 rfl dX4_caughtBy_47 ?_
    refine v_get (pc := 48) (v := ai wd) 5 (Or.inl r0) fl_4_61_4 rfl dX4_caughtBy_48 ?_
    refine v_imul (pc := 51) dX4_caughtBy_51 ?_
    refine v_icmp_gt (pc := 52) 75 dX4_caughtBy_52 (by decide) (by unfold iB; omega) (by unfold iB; omega) (fun c_2 => ?_) (fun c_2 => ?_)
    · skip
      refine v_iconst (pc := 75) dX4_caughtBy_75 ?_
      exact hret () _ _ _ _ _ _ trivial (congrArg (fun z => some (ai z)) (by unfold kCat; (repeat' split) <;> first | rfl | omega)) rfl (Nat.le_of_ble_eq_true rfl) (Nat.le_of_ble_eq_true rfl) dX4_caughtBy_76
    · skip
      refine v_aload_n (pc := 55) 1 rfl dX4_caughtBy_55 ?_
      refine v_get (pc := 56) (v := ai op) 6 (Or.inl r0) fl_4_66_4 rfl dX4_caughtBy_56 ?_
      refine v_iconst (pc := 59) dX4_caughtBy_59 ?_
      refine v_aload_n (pc := 60) 1 rfl dX4_caughtBy_60 ?_
      refine v_get (pc := 61) (v := ai (10 * hd)) 2 (Or.inl r0) fl_4_39_4 rfl dX4_caughtBy_61 ?_
      refine v_imul (pc := 64) dX4_caughtBy_64 ?_
      refine v_icmp_gt (pc := 65) 75 dX4_caughtBy_65 (by decide) (by unfold iB; omega) (by unfold iB; omega) (fun c_3 => ?_) (fun c_3 => ?_)
      · skip
        refine v_iconst (pc := 75) dX4_caughtBy_75 ?_
        exact hret () _ _ _ _ _ _ trivial (congrArg (fun z => some (ai z)) (by unfold kCat; (repeat' split) <;> first | rfl | omega)) rfl (Nat.le_of_ble_eq_true rfl) (Nat.le_of_ble_eq_true rfl) dX4_caughtBy_76
      · skip
        refine v_aload_n (pc := 68) 1 rfl dX4_caughtBy_68 ?_
        refine v_get (pc := 69) (v := ai n) 1 (Or.inl r0) fl_4_33_4 rfl dX4_caughtBy_69 ?_
        refine v_iconst (pc := 72) dX4_caughtBy_72 ?_
        refine v_idiv (pc := 73) (by omega) (by omega) (by unfold iB; omega) (by unfold iB; omega) dX4_caughtBy_73 ?_
        exact hret () _ _ _ _ _ _ trivial (congrArg (fun z => some (ai z)) (by unfold kCat; (repeat' split) <;> first | rfl | omega)) rfl (Nat.le_of_ble_eq_true rfl) (Nat.le_of_ble_eq_true rfl) dX4_caughtBy_74
  · skip
    refine v_aload_n (pc := 29) 1 rfl dX4_caughtBy_29 ?_
    refine v_get (pc := 30) (v := ai op) 6 (Or.inl r0) fl_4_66_4 rfl dX4_caughtBy_30 ?_
    refine v_aload_n (pc := 33) 1 rfl dX4_caughtBy_33 ?_
    refine v_get (pc := 34) (v := ai (10 * hd)) 2 (Or.inl r0) fl_4_39_4 rfl dX4_caughtBy_34 ?_
    refine v_icmp_gt (pc := 37) 45 dX4_caughtBy_37 (by decide) (by unfold iB; omega) (by unfold iB; omega) (fun c_4 => ?_) (fun c_4 => ?_)
    · skip
      refine v_iload_n (pc := 45) 0 rfl dX4_caughtBy_45 ?_
      refine v_iconst (pc := 46) dX4_caughtBy_46 ?_
      refine v_aload_n (pc := 47) 1 rfl dX4_caughtBy_47 ?_
      refine v_get (pc := 48) (v := ai wd) 5 (Or.inl r0) fl_4_61_4 rfl dX4_caughtBy_48 ?_
      refine v_imul (pc := 51) dX4_caughtBy_51 ?_
      refine v_icmp_gt (pc := 52) 75 dX4_caughtBy_52 (by decide) (by unfold iB; omega) (by unfold iB; omega) (fun c_5 => ?_) (fun c_5 => ?_)
      · skip
        refine v_iconst (pc := 75) dX4_caughtBy_75 ?_
        exact hret () _ _ _ _ _ _ trivial (congrArg (fun z => some (ai z)) (by unfold kCat; (repeat' split) <;> first | rfl | omega)) rfl (Nat.le_of_ble_eq_true rfl) (Nat.le_of_ble_eq_true rfl) dX4_caughtBy_76
      · skip
        refine v_aload_n (pc := 55) 1 rfl dX4_caughtBy_55 ?_
        refine v_get (pc := 56) (v := ai op) 6 (Or.inl r0) fl_4_66_4 rfl dX4_caughtBy_56 ?_
        refine v_iconst (pc := 59) dX4_caughtBy_59 ?_
        refine v_aload_n (pc := 60) 1 rfl dX4_caughtBy_60 ?_
        refine v_get (pc := 61) (v := ai (10 * hd)) 2 (Or.inl r0) fl_4_39_4 rfl dX4_caughtBy_61 ?_
        refine v_imul (pc := 64) dX4_caughtBy_64 ?_
        refine v_icmp_gt (pc := 65) 75 dX4_caughtBy_65 (by decide) (by unfold iB; omega) (by unfold iB; omega) (fun c_6 => ?_) (fun c_6 => ?_)
        · skip
          refine v_iconst (pc := 75) dX4_caughtBy_75 ?_
          exact hret () _ _ _ _ _ _ trivial (congrArg (fun z => some (ai z)) (by unfold kCat; (repeat' split) <;> first | rfl | omega)) rfl (Nat.le_of_ble_eq_true rfl) (Nat.le_of_ble_eq_true rfl) dX4_caughtBy_76
        · skip
          refine v_aload_n (pc := 68) 1 rfl dX4_caughtBy_68 ?_
          refine v_get (pc := 69) (v := ai n) 1 (Or.inl r0) fl_4_33_4 rfl dX4_caughtBy_69 ?_
          refine v_iconst (pc := 72) dX4_caughtBy_72 ?_
          refine v_idiv (pc := 73) (by omega) (by omega) (by unfold iB; omega) (by unfold iB; omega) dX4_caughtBy_73 ?_
          exact hret () _ _ _ _ _ _ trivial (congrArg (fun z => some (ai z)) (by unfold kCat; (repeat' split) <;> first | rfl | omega)) rfl (Nat.le_of_ble_eq_true rfl) (Nat.le_of_ble_eq_true rfl) dX4_caughtBy_74
    · skip
      refine v_aload_n (pc := 40) 1 rfl dX4_caughtBy_40 ?_
      refine v_get (pc := 41) (v := ai n) 1 (Or.inl r0) fl_4_33_4 rfl dX4_caughtBy_41 ?_
      exact hret () _ _ _ _ _ _ trivial (congrArg (fun z => some (ai z)) (by unfold kCat; (repeat' split) <;> first | rfl | omega)) rfl (Nat.le_of_ble_eq_true rfl) (Nat.le_of_ble_eq_true rfl) dX4_caughtBy_44
set_option maxHeartbeats 4000000 in
set_option maxRecDepth 100000 in
theorem c_X4_caughtByAllDraws {gS : sG} (h : Nat) (fa : Nat) (n : Int) (hd : Int) (r : Int) (un : Int) (wd : Int) (op : Int) (fo : Int) (hpi : (-200 ≤ r ∧ r ≤ 100) ∧ (0 ≤ un ∧ un ≤ 21) ∧ (0 ≤ wd ∧ wd ≤ 99) ∧ (0 ≤ hd ∧ hd ≤ 9) ∧ (0 ≤ n ∧ n ≤ 99) ∧ (0 ≤ op ∧ op ≤ 100000)) (hfo : 0 ≤ fo ∧ fo ≤ 20) : Ct gS (S := Unit) yX4_caughtByAllDraws cX4_caughtByAllDraws 4 (some .int) 2 54 0 0 [ar h, ai fo] [] (fun q => q ∈ ([(h, co 4 [ar fa, ai n, ai (10 * hd), ai r, ai un, ai wd, ai op])] : aW)) (fun _ => True) (fun _ => some (ai (smR (fun z => kCat (5 * fo + r) un wd hd n z op) 10))) (fun _ => []) := by
  refine ct_I RX4 [(0, ar h), (1, ai fo)] (by decide) rfl (Nat.le_of_ble_eq_true rfl) rfl (fun x hgS hro hret => ?_)
  subst hgS
  have r0 := hro _ (mem_at 0 rfl)
  have hkb := fun z => kCat_b (tu := 5 * fo + r) (un := un) (wide := wd) (hand := hd) (n := n) (draw := z) (opens := op) (by omega)
  show V x cX4_caughtByAllDraws RX4 4 (rmU 2 54 0 0) [] 0 [(0, ar h), (1, ai fo)] [] 0 0
  refine v_iconst (pc := 0) dX4_caughtByAllDraws_0 ?_
  refine v_istore_n (pc := 1) (L2 := [(2, ai 0), (0, ar h), (1, ai fo)]) rfl (by decide) dX4_caughtByAllDraws_1 ?_
  refine v_iconst (pc := 2) dX4_caughtByAllDraws_2 ?_
  refine v_istore_n (pc := 3) (L2 := [(3, ai 0), (2, ai 0), (0, ar h), (1, ai fo)]) rfl (by decide) dX4_caughtByAllDraws_3 ?_
  have lp4 : ∀ (mm : Nat) (s : Int) (d : Int), (10 - d).toNat = mm → (0 ≤ d ∧ d ≤ 10) → (s = smR (fun z => kCat (5 * fo + r) un wd hd n z op) d.toNat) → V x cX4_caughtByAllDraws RX4 4 (rmU 2 54 0 0) [] 4 [(0, ar h), (1, ai fo), (2, ai s), (3, ai d)] [] 0 0 := by
    intro mm
    induction mm using Nat.strongRecOn with
    | _ mm ih =>
      intro s d hmm hd0 hs
      refine v_iload_n (pc := 4) 3 rfl dX4_caughtByAllDraws_4 ?_
      refine v_bipush (pc := 5) dX4_caughtByAllDraws_5 (by decide) ?_
      refine v_icmp_ge (pc := 7) 25 dX4_caughtByAllDraws_7 (by decide) (by unfold iB; omega) (by unfold iB; omega) (fun c_1 => ?_) (fun c_1 => ?_)
      · skip
        refine v_iload_n (pc := 25) 2 rfl dX4_caughtByAllDraws_25 ?_
        exact hret () _ _ _ _ _ _ trivial (congrArg (fun z => some (ai z)) (by rw [hs, show d = 10 by omega]; rfl)) rfl (Nat.le_of_ble_eq_true rfl) (Nat.le_of_ble_eq_true rfl) dX4_caughtByAllDraws_26
      · skip
        refine v_iload_n (pc := 10) 2 rfl dX4_caughtByAllDraws_10 ?_
        refine v_aload_n (pc := 11) 0 rfl dX4_caughtByAllDraws_11 ?_
        refine v_iload_n (pc := 12) 1 rfl dX4_caughtByAllDraws_12 ?_
        refine v_iload_n (pc := 13) 3 rfl dX4_caughtByAllDraws_13 ?_
        refine v_callV (pc := 14) [] [] [] (As := [ai fo, ai d]) (rest := [ai s]) (c_X4_caughtBy h fa n hd r un wd op fo d (by first | omega | assumption) (by first | omega | assumption) (by first | omega | assumption)) (c := 4) rfl (Or.inl r0) wl_X4_77 wi_X4_caughtBy wv_X4_X4_caughtBy_X4_caughtBy wk_X4_caughtBy wz_X4 md_X4_caughtBy rfl (Nat.le_of_ble_eq_true rfl) ⟨Nat.le_of_ble_eq_true rfl, Nat.le_of_ble_eq_true rfl, Nat.le_of_ble_eq_true rfl, Nat.le_of_ble_eq_true rfl⟩ rfl rfl rfl rfl (by decide) (ro_cons (Or.inl r0) ro_nil) dX4_caughtByAllDraws_14 (fun u hu => ?_)
        show V x cX4_caughtByAllDraws RX4 4 (rmU 2 54 0 0) [] 17 [(0, ar h), (1, ai fo), (2, ai s), (3, ai d)] [ai (kCat (5 * fo + r) un wd hd n d op), ai s] 0 0
        refine v_iadd (pc := 17) dX4_caughtByAllDraws_17 ?_
        refine v_istore_n (pc := 18) (L2 := [(2, ai (s + (kCat (5 * fo + r) un wd hd n d op))), (0, ar h), (1, ai fo), (3, ai d)]) rfl (by decide) dX4_caughtByAllDraws_18 ?_
        refine v_iinc (pc := 19) 3 (L2 := [(3, ai (d + 1)), (2, ai (s + (kCat (5 * fo + r) un wd hd n d op))), (0, ar h), (1, ai fo)]) rfl rfl (by decide) dX4_caughtByAllDraws_19 ?_
        refine v_goto (pc := 22) 4 dX4_caughtByAllDraws_22 (by decide) ?_
        refine v_sub (L2 := [(0, ar h), (1, ai fo), (2, ai (s + (kCat (5 * fo + r) un wd hd n d op))), (3, ai (d + 1))]) [2, 3, 1, 0] rfl ?_
        exact ih _ (by omega) (s + (kCat (5 * fo + r) un wd hd n d op)) (d + 1) rfl (by omega) (by rw [hs, show (d + 1).toNat = d.toNat + 1 by omega, smR_succ, show ((d.toNat : Nat) : Int) = d by omega])
  refine v_sub (L2 := [(0, ar h), (1, ai fo), (2, ai 0), (3, ai 0)]) [2, 3, 1, 0] rfl ?_
  exact lp4 _ 0 0 rfl (by omega) (by rfl)
set_option maxHeartbeats 4000000 in
set_option maxRecDepth 100000 in
theorem c_X4_oddsBy {gS : sG} (h : Nat) (fa : Nat) (n : Int) (hd : Int) (r : Int) (un : Int) (wd : Int) (op : Int) (fo : Int) (hpi : (-200 ≤ r ∧ r ≤ 100) ∧ (0 ≤ un ∧ un ≤ 21) ∧ (0 ≤ wd ∧ wd ≤ 99) ∧ (0 ≤ hd ∧ hd ≤ 9) ∧ (0 ≤ n ∧ n ≤ 99) ∧ (0 ≤ op ∧ op ≤ 100000)) (hfo : 0 ≤ fo ∧ fo ≤ 20) : Ct gS (S := Unit) yX4_oddsBy cX4_oddsBy 5 (some .int) 1 33 0 0 [ar h, ai fo] [] (fun q => q ∈ ([(h, co 4 [ar fa, ai n, ai (10 * hd), ai r, ai un, ai wd, ai op])] : aW)) (fun _ => True) (fun _ => some (ai (kAll (5 * fo + r) un wd hd op))) (fun _ => []) := by
  refine ct_I RX4 [(0, ar h), (1, ai fo)] (by decide) rfl (Nat.le_of_ble_eq_true rfl) rfl (fun x hgS hro hret => ?_)
  subst hgS
  have r0 := hro _ (mem_at 0 rfl)
  have hab : 0 ≤ kAbs (5 * fo + r - 50) ∧ kAbs (5 * fo + r - 50) ≤ 3000 := by unfold kAbs; split <;> omega
  have hab2 : kAbs (5 * fo + r - 50) ≤ wd ↔ (5 * fo + r - 50 ≤ wd ∧ -wd ≤ 5 * fo + r - 50) := by unfold kAbs; split <;> omega
  have hq1 := ediv_b (a := wd + (5 * fo + r - 50)) (b := un) (by omega)
  have hq2 := ediv_b (a := wd - (5 * fo + r - 50)) (b := un) (by omega)
  show V x cX4_oddsBy RX4 5 (rmU 1 33 0 0) [] 0 [(0, ar h), (1, ai fo)] [] 0 0
  refine v_aload_n (pc := 0) 0 rfl dX4_oddsBy_0 ?_
  refine v_get (pc := 1) (v := ai op) 6 (Or.inl r0) fl_4_66_4 rfl dX4_oddsBy_1 ?_
  refine v_aload_n (pc := 4) 0 rfl dX4_oddsBy_4 ?_
  refine v_get (pc := 5) (v := ai (10 * hd)) 2 (Or.inl r0) fl_4_39_4 rfl dX4_oddsBy_5 ?_
  refine v_icmp_le (pc := 8) 13 dX4_oddsBy_8 (by decide) (by unfold iB; omega) (by unfold iB; omega) (fun c_1 => ?_) (fun c_1 => ?_)
  · skip
    refine v_aload_n (pc := 13) 0 rfl dX4_oddsBy_13 ?_
    refine v_iload_n (pc := 14) 1 rfl dX4_oddsBy_14 ?_
    refine v_callV (pc := 15) [] [] [] (As := [ai fo]) (rest := []) (c_X4_turnBy h fa n hd r un wd op fo ) (c := 4) rfl (Or.inl r0) wl_X4_69 wi_X4_turnBy wv_X4_X4_turnBy_X4_turnBy wk_X4_turnBy wz_X4 md_X4_turnBy rfl (Nat.le_of_ble_eq_true rfl) ⟨Nat.le_of_ble_eq_true rfl, Nat.le_of_ble_eq_true rfl, Nat.le_of_ble_eq_true rfl, Nat.le_of_ble_eq_true rfl⟩ rfl rfl rfl rfl (by decide) (ro_cons (Or.inl r0) ro_nil) dX4_oddsBy_15 (fun u hu => ?_)
    show V x cX4_oddsBy RX4 5 (rmU 1 33 0 0) [] 18 [(0, ar h), (1, ai fo)] [ai (5 * fo + r)] 0 0
    refine v_bipush (pc := 18) dX4_oddsBy_18 (by decide) ?_
    refine v_isub (pc := 20) dX4_oddsBy_20 ?_
    refine v_istore_n (pc := 21) (L2 := [(2, ai ((5 * fo + r) - 50)), (0, ar h), (1, ai fo)]) rfl (by decide) dX4_oddsBy_21 ?_
    refine v_aload_n (pc := 22) 1 rfl dX4_oddsBy_22 ?_
    refine v_get (pc := 23) (v := ai un) 4 (Or.inl r0) fl_4_53_4 rfl dX4_oddsBy_23 ?_
    refine v_if_gt (pc := 26) 47 dX4_oddsBy_26 (by decide) (by unfold iB; omega) (fun c_2 => ?_) (fun c_2 => ?_)
    · skip
      refine v_iconst (pc := 47) dX4_oddsBy_47 ?_
      refine v_iconst (pc := 48) dX4_oddsBy_48 ?_
      refine v_aload_n (pc := 49) 1 rfl dX4_oddsBy_49 ?_
      refine v_get (pc := 50) (v := ai wd) 5 (Or.inl r0) fl_4_61_4 rfl dX4_oddsBy_50 ?_
      refine v_iload_n (pc := 53) 0 rfl dX4_oddsBy_53 ?_
      refine v_iadd (pc := 54) dX4_oddsBy_54 ?_
      refine v_aload_n (pc := 55) 1 rfl dX4_oddsBy_55 ?_
      refine v_get (pc := 56) (v := ai un) 4 (Or.inl r0) fl_4_53_4 rfl dX4_oddsBy_56 ?_
      refine v_callS (pc := 59) [] [] [] (As := [ai (wd + ((5 * fo + r) - 50)), ai un]) (rest := [ai 4, ai 0]) (c_J9_floorDiv_7cf53 (wd + ((5 * fo + r) - 50)) un (by first | omega | assumption) (by first | omega | assumption) (by first | omega | assumption)) wl_X4_80 ws_J9_floorDiv_7cf53 wk_J9_floorDiv_7cf53 wz_J9 md_J9_floorDiv_7cf53 rfl (Nat.le_of_ble_eq_true rfl) ⟨Nat.le_of_ble_eq_true rfl, Nat.le_of_ble_eq_true rfl, Nat.le_of_ble_eq_true rfl, Nat.le_of_ble_eq_true rfl⟩ rfl rfl rfl rfl (by decide) ro_nil dX4_oddsBy_59 (fun u hu => ?_)
      show V x cX4_oddsBy RX4 5 (rmU 1 33 0 0) [] 62 [(2, ai ((5 * fo + r) - 50)), (0, ar h), (1, ai fo)] [ai ((wd + ((5 * fo + r) - 50)) / un), ai 4, ai 0] 0 0
      refine v_isub (pc := 62) dX4_oddsBy_62 ?_
      refine v_callS (pc := 63) [] [] [] (As := [ai 0, ai (4 - ((wd + ((5 * fo + r) - 50)) / un))]) (rest := []) (c_J9_max_7cf53 0 (4 - ((wd + ((5 * fo + r) - 50)) / un)) (by first | omega | assumption) (by first | omega | assumption)) wl_X4_83 ws_J9_max_7cf53 wk_J9_max_7cf53 wz_J9 md_J9_max_7cf53 rfl (Nat.le_of_ble_eq_true rfl) ⟨Nat.le_of_ble_eq_true rfl, Nat.le_of_ble_eq_true rfl, Nat.le_of_ble_eq_true rfl, Nat.le_of_ble_eq_true rfl⟩ rfl rfl rfl rfl (by decide) ro_nil dX4_oddsBy_63 (fun u hu => ?_)
      show V x cX4_oddsBy RX4 5 (rmU 1 33 0 0) [] 66 [(2, ai ((5 * fo + r) - 50)), (0, ar h), (1, ai fo)] [ai (if 0 < (4 - ((wd + ((5 * fo + r) - 50)) / un)) then (4 - ((wd + ((5 * fo + r) - 50)) / un)) else 0)] 0 0
      refine v_istore_n (pc := 66) (L2 := [(3, ai (if 0 < (4 - ((wd + ((5 * fo + r) - 50)) / un)) then (4 - ((wd + ((5 * fo + r) - 50)) / un)) else 0)), (2, ai ((5 * fo + r) - 50)), (0, ar h), (1, ai fo)]) rfl (by decide) dX4_oddsBy_66 ?_
      refine v_bipush (pc := 67) dX4_oddsBy_67 (by decide) ?_
      refine v_iconst (pc := 69) dX4_oddsBy_69 ?_
      refine v_aload_n (pc := 70) 2 rfl dX4_oddsBy_70 ?_
      refine v_get (pc := 71) (v := ai wd) 5 (Or.inl r0) fl_4_61_4 rfl dX4_oddsBy_71 ?_
      refine v_iload_n (pc := 74) 1 rfl dX4_oddsBy_74 ?_
      refine v_isub (pc := 75) dX4_oddsBy_75 ?_
      refine v_aload_n (pc := 76) 2 rfl dX4_oddsBy_76 ?_
      refine v_get (pc := 77) (v := ai un) 4 (Or.inl r0) fl_4_53_4 rfl dX4_oddsBy_77 ?_
      refine v_callS (pc := 80) [] [] [] (As := [ai (wd - ((5 * fo + r) - 50)), ai un]) (rest := [ai 4, ai 9]) (c_J9_floorDiv_7cf53 (wd - ((5 * fo + r) - 50)) un (by first | omega | assumption) (by first | omega | assumption) (by first | omega | assumption)) wl_X4_80 ws_J9_floorDiv_7cf53 wk_J9_floorDiv_7cf53 wz_J9 md_J9_floorDiv_7cf53 rfl (Nat.le_of_ble_eq_true rfl) ⟨Nat.le_of_ble_eq_true rfl, Nat.le_of_ble_eq_true rfl, Nat.le_of_ble_eq_true rfl, Nat.le_of_ble_eq_true rfl⟩ rfl rfl rfl rfl (by decide) ro_nil dX4_oddsBy_80 (fun u hu => ?_)
      show V x cX4_oddsBy RX4 5 (rmU 1 33 0 0) [] 83 [(3, ai (if 0 < (4 - ((wd + ((5 * fo + r) - 50)) / un)) then (4 - ((wd + ((5 * fo + r) - 50)) / un)) else 0)), (2, ai ((5 * fo + r) - 50)), (0, ar h), (1, ai fo)] [ai ((wd - ((5 * fo + r) - 50)) / un), ai 4, ai 9] 0 0
      refine v_iadd (pc := 83) dX4_oddsBy_83 ?_
      refine v_callS (pc := 84) [] [] [] (As := [ai 9, ai (4 + ((wd - ((5 * fo + r) - 50)) / un))]) (rest := []) (c_J9_min_7cf53 9 (4 + ((wd - ((5 * fo + r) - 50)) / un)) (by first | omega | assumption) (by first | omega | assumption)) wl_X4_86 ws_J9_min_7cf53 wk_J9_min_7cf53 wz_J9 md_J9_min_7cf53 rfl (Nat.le_of_ble_eq_true rfl) ⟨Nat.le_of_ble_eq_true rfl, Nat.le_of_ble_eq_true rfl, Nat.le_of_ble_eq_true rfl, Nat.le_of_ble_eq_true rfl⟩ rfl rfl rfl rfl (by decide) ro_nil dX4_oddsBy_84 (fun u hu => ?_)
      show V x cX4_oddsBy RX4 5 (rmU 1 33 0 0) [] 87 [(3, ai (if 0 < (4 - ((wd + ((5 * fo + r) - 50)) / un)) then (4 - ((wd + ((5 * fo + r) - 50)) / un)) else 0)), (2, ai ((5 * fo + r) - 50)), (0, ar h), (1, ai fo)] [ai (if (4 + ((wd - ((5 * fo + r) - 50)) / un)) < 9 then (4 + ((wd - ((5 * fo + r) - 50)) / un)) else 9)] 0 0
      refine v_istore (pc := 87) (L2 := [(4, ai (if (4 + ((wd - ((5 * fo + r) - 50)) / un)) < 9 then (4 + ((wd - ((5 * fo + r) - 50)) / un)) else 9)), (3, ai (if 0 < (4 - ((wd + ((5 * fo + r) - 50)) / un)) then (4 - ((wd + ((5 * fo + r) - 50)) / un)) else 0)), (2, ai ((5 * fo + r) - 50)), (0, ar h), (1, ai fo)]) rfl (by decide) dX4_oddsBy_87 ?_
      refine v_iconst (pc := 89) dX4_oddsBy_89 ?_
      refine v_iload (pc := 90) 0 rfl dX4_oddsBy_90 ?_
      refine v_iload_n (pc := 92) 1 rfl dX4_oddsBy_92 ?_
      refine v_isub (pc := 93) dX4_oddsBy_93 ?_
      refine v_iconst (pc := 94) dX4_oddsBy_94 ?_
      refine v_iadd (pc := 95) dX4_oddsBy_95 ?_
      refine v_callS (pc := 96) [] [] [] (As := [ai 0, ai (((if (4 + ((wd - ((5 * fo + r) - 50)) / un)) < 9 then (4 + ((wd - ((5 * fo + r) - 50)) / un)) else 9) - (if 0 < (4 - ((wd + ((5 * fo + r) - 50)) / un)) then (4 - ((wd + ((5 * fo + r) - 50)) / un)) else 0)) + 1)]) (rest := []) (c_J9_max_7cf53 0 (((if (4 + ((wd - ((5 * fo + r) - 50)) / un)) < 9 then (4 + ((wd - ((5 * fo + r) - 50)) / un)) else 9) - (if 0 < (4 - ((wd + ((5 * fo + r) - 50)) / un)) then (4 - ((wd + ((5 * fo + r) - 50)) / un)) else 0)) + 1) (by first | omega | assumption) (by first | omega | assumption)) wl_X4_83 ws_J9_max_7cf53 wk_J9_max_7cf53 wz_J9 md_J9_max_7cf53 rfl (Nat.le_of_ble_eq_true rfl) ⟨Nat.le_of_ble_eq_true rfl, Nat.le_of_ble_eq_true rfl, Nat.le_of_ble_eq_true rfl, Nat.le_of_ble_eq_true rfl⟩ rfl rfl rfl rfl (by decide) ro_nil dX4_oddsBy_96 (fun u hu => ?_)
      show V x cX4_oddsBy RX4 5 (rmU 1 33 0 0) [] 99 [(4, ai (if (4 + ((wd - ((5 * fo + r) - 50)) / un)) < 9 then (4 + ((wd - ((5 * fo + r) - 50)) / un)) else 9)), (3, ai (if 0 < (4 - ((wd + ((5 * fo + r) - 50)) / un)) then (4 - ((wd + ((5 * fo + r) - 50)) / un)) else 0)), (2, ai ((5 * fo + r) - 50)), (0, ar h), (1, ai fo)] [ai (if 0 < (((if (4 + ((wd - ((5 * fo + r) - 50)) / un)) < 9 then (4 + ((wd - ((5 * fo + r) - 50)) / un)) else 9) - (if 0 < (4 - ((wd + ((5 * fo + r) - 50)) / un)) then (4 - ((wd + ((5 * fo + r) - 50)) / un)) else 0)) + 1) then (((if (4 + ((wd - ((5 * fo + r) - 50)) / un)) < 9 then (4 + ((wd - ((5 * fo + r) - 50)) / un)) else 9) - (if 0 < (4 - ((wd + ((5 * fo + r) - 50)) / un)) then (4 - ((wd + ((5 * fo + r) - 50)) / un)) else 0)) + 1) else 0)] 0 0
      exact hret () _ _ _ _ _ _ trivial (congrArg (fun z => some (ai z)) (by rw [kAll_iv (by omega) (by omega), show wd - (5 * fo + r - 50) = wd - ((5 * fo + r) - 50) by omega]; (repeat' split) <;> omega)) rfl (Nat.le_of_ble_eq_true rfl) (Nat.le_of_ble_eq_true rfl) dX4_oddsBy_99
    · skip
      refine v_iload_n (pc := 29) 0 rfl dX4_oddsBy_29 ?_
      refine v_callS (pc := 30) [] [] [] (As := [ai ((5 * fo + r) - 50)]) (rest := []) (c_J9_abs_0f7a4 ((5 * fo + r) - 50) (by first | omega | assumption)) wl_X4_72 ws_J9_abs_0f7a4 wk_J9_abs_0f7a4 wz_J9 md_J9_abs_0f7a4 rfl (Nat.le_of_ble_eq_true rfl) ⟨Nat.le_of_ble_eq_true rfl, Nat.le_of_ble_eq_true rfl, Nat.le_of_ble_eq_true rfl, Nat.le_of_ble_eq_true rfl⟩ rfl rfl rfl rfl (by decide) ro_nil dX4_oddsBy_30 (fun u hu => ?_)
      show V x cX4_oddsBy RX4 5 (rmU 1 33 0 0) [] 33 [(2, ai ((5 * fo + r) - 50)), (0, ar h), (1, ai fo)] [ai (kAbs ((5 * fo + r) - 50))] 0 0
      refine v_aload_n (pc := 33) 1 rfl dX4_oddsBy_33 ?_
      refine v_get (pc := 34) (v := ai wd) 5 (Or.inl r0) fl_4_61_4 rfl dX4_oddsBy_34 ?_
      refine v_icmp_gt (pc := 37) 45 dX4_oddsBy_37 (by decide) (by unfold iB; omega) (by unfold iB; omega) (fun c_3 => ?_) (fun c_3 => ?_)
      · skip
        refine v_iconst (pc := 45) dX4_oddsBy_45 ?_
        exact hret () _ _ _ _ _ _ trivial (congrArg (fun z => some (ai z)) (by rw [show un = 0 by omega, kAll_0 (by omega)]; (repeat' split) <;> omega)) rfl (Nat.le_of_ble_eq_true rfl) (Nat.le_of_ble_eq_true rfl) dX4_oddsBy_46
      · skip
        refine v_bipush (pc := 40) dX4_oddsBy_40 (by decide) ?_
        refine v_goto (pc := 42) 46 dX4_oddsBy_42 (by decide) ?_
        exact hret () _ _ _ _ _ _ trivial (congrArg (fun z => some (ai z)) (by rw [show un = 0 by omega, kAll_0 (by omega)]; (repeat' split) <;> omega)) rfl (Nat.le_of_ble_eq_true rfl) (Nat.le_of_ble_eq_true rfl) dX4_oddsBy_46
  · skip
    refine v_iconst (pc := 11) dX4_oddsBy_11 ?_
    exact hret () _ _ _ _ _ _ trivial (congrArg (fun z => some (ai z)) (by unfold kAll; rw [if_pos (by omega)])) rfl (Nat.le_of_ble_eq_true rfl) (Nat.le_of_ble_eq_true rfl) dX4_oddsBy_12
set_option maxHeartbeats 4000000 in
set_option maxRecDepth 100000 in
theorem c_X4_bestForce {gS : sG} (h : Nat) (fa : Nat) (n : Int) (hd : Int) (r : Int) (un : Int) (wd : Int) (op : Int) (hpi : (-200 ≤ r ∧ r ≤ 100) ∧ (0 ≤ un ∧ un ≤ 21) ∧ (0 ≤ wd ∧ wd ≤ 99) ∧ (0 ≤ hd ∧ hd ≤ 9) ∧ (0 ≤ n ∧ n ≤ 99) ∧ (0 ≤ op ∧ op ≤ 100000)) : Ct gS (S := Unit) yX4_bestForce cX4_bestForce 5 (some .int) 2 57 0 0 [ar h] [] (fun q => q ∈ ([(h, co 4 [ar fa, ai n, ai (10 * hd), ai r, ai un, ai wd, ai op])] : aW)) (fun _ => True) (fun _ => some (ai ((bst (fun z => kAll (5 * z + r) un wd hd op) 21).2))) (fun _ => []) := by
  refine ct_I RX4 [(0, ar h)] (by decide) rfl (Nat.le_of_ble_eq_true rfl) rfl (fun x hgS hro hret => ?_)
  subst hgS
  have r0 := hro _ (mem_at 0 rfl)
  have hbb := fun m => bst_b (F := (fun z => kAll (5 * z + r) un wd hd op)) (fun k => kAll_b _ _ _ _ _) m
  have hka := fun z => kAll_b (5 * z + r) un wd hd op
  show V x cX4_bestForce RX4 5 (rmU 2 57 0 0) [] 0 [(0, ar h)] [] 0 0
  refine v_iconst (pc := 0) dX4_bestForce_0 ?_
  refine v_istore_n (pc := 1) (L2 := [(1, ai 0), (0, ar h)]) rfl (by decide) dX4_bestForce_1 ?_
  refine v_iconst (pc := 2) dX4_bestForce_2 ?_
  refine v_istore_n (pc := 3) (L2 := [(2, ai (-1)), (1, ai 0), (0, ar h)]) rfl (by decide) dX4_bestForce_3 ?_
  refine v_iconst (pc := 4) dX4_bestForce_4 ?_
  refine v_istore_n (pc := 5) (L2 := [(3, ai 0), (2, ai (-1)), (1, ai 0), (0, ar h)]) rfl (by decide) dX4_bestForce_5 ?_
  have lp6 : ∀ (mm : Nat) (b : Int) (m : Int) (fo : Int), (21 - fo).toNat = mm → (0 ≤ fo ∧ fo ≤ 21) → (b = (bst (fun z => kAll (5 * z + r) un wd hd op) fo.toNat).2) → (m = (bst (fun z => kAll (5 * z + r) un wd hd op) fo.toNat).1) → V x cX4_bestForce RX4 5 (rmU 2 57 0 0) [] 6 [(0, ar h), (1, ai b), (2, ai m), (3, ai fo)] [] 0 0 := by
    intro mm
    induction mm using Nat.strongRecOn with
    | _ mm ih =>
      intro b m fo hmm hfo hb hm
      have hb2 := hbb fo.toNat
      refine v_iload_n (pc := 6) 3 rfl dX4_bestForce_6 ?_
      refine v_bipush (pc := 7) dX4_bestForce_7 (by decide) ?_
      refine v_icmp_gt (pc := 9) 36 dX4_bestForce_9 (by decide) (by unfold iB; omega) (by unfold iB; omega) (fun c_1 => ?_) (fun c_1 => ?_)
      · skip
        refine v_iload_n (pc := 36) 1 rfl dX4_bestForce_36 ?_
        exact hret () _ _ _ _ _ _ trivial (congrArg (fun z => some (ai z)) (by rw [hb, show fo = 21 by omega]; rfl)) rfl (Nat.le_of_ble_eq_true rfl) (Nat.le_of_ble_eq_true rfl) dX4_bestForce_37
      · skip
        refine v_aload_n (pc := 12) 0 rfl dX4_bestForce_12 ?_
        refine v_iload_n (pc := 13) 3 rfl dX4_bestForce_13 ?_
        refine v_callV (pc := 14) [] [] [] (As := [ai fo]) (rest := []) (c_X4_oddsBy h fa n hd r un wd op fo (by first | omega | assumption) (by first | omega | assumption)) (c := 4) rfl (Or.inl r0) wl_X4_89 wi_X4_oddsBy wv_X4_X4_oddsBy_X4_oddsBy wk_X4_oddsBy wz_X4 md_X4_oddsBy rfl (Nat.le_of_ble_eq_true rfl) ⟨Nat.le_of_ble_eq_true rfl, Nat.le_of_ble_eq_true rfl, Nat.le_of_ble_eq_true rfl, Nat.le_of_ble_eq_true rfl⟩ rfl rfl rfl rfl (by decide) (ro_cons (Or.inl r0) ro_nil) dX4_bestForce_14 (fun u hu => ?_)
        show V x cX4_bestForce RX4 5 (rmU 2 57 0 0) [] 17 [(0, ar h), (1, ai b), (2, ai m), (3, ai fo)] [ai (kAll (5 * fo + r) un wd hd op)] 0 0
        have hka1 := hka fo
        refine v_istore (pc := 17) (L2 := [(4, ai (kAll (5 * fo + r) un wd hd op)), (0, ar h), (1, ai b), (2, ai m), (3, ai fo)]) rfl (by decide) dX4_bestForce_17 ?_
        refine v_iload (pc := 19) 0 rfl dX4_bestForce_19 ?_
        refine v_iload_n (pc := 21) 3 rfl dX4_bestForce_21 ?_
        refine v_icmp_le (pc := 22) 30 dX4_bestForce_22 (by decide) (by unfold iB; omega) (by unfold iB; omega) (fun c_2 => ?_) (fun c_2 => ?_)
        · skip
          refine v_iinc (pc := 30) 4 (L2 := [(3, ai (fo + 1)), (4, ai (kAll (5 * fo + r) un wd hd op)), (0, ar h), (1, ai b), (2, ai m)]) rfl rfl (by decide) dX4_bestForce_30 ?_
          refine v_goto (pc := 33) 6 dX4_bestForce_33 (by decide) ?_
          refine v_sub (L2 := [(0, ar h), (1, ai b), (2, ai m), (3, ai (fo + 1))]) [2, 3, 4, 0] rfl ?_
          exact ih _ (by omega) b m (fo + 1) rfl (by omega) (by rw [show (fo + 1).toNat = fo.toNat + 1 by omega, bst_succ, show ((fo.toNat : Nat) : Int) = fo by omega]; first | rw [if_pos (by omega)] | (rw [if_neg (by omega)]; exact hb)) (by rw [show (fo + 1).toNat = fo.toNat + 1 by omega, bst_succ, show ((fo.toNat : Nat) : Int) = fo by omega]; first | rw [if_pos (by omega)] | (rw [if_neg (by omega)]; exact hm))
        · skip
          refine v_iload (pc := 25) 0 rfl dX4_bestForce_25 ?_
          refine v_istore_n (pc := 27) (L2 := [(2, ai (kAll (5 * fo + r) un wd hd op)), (4, ai (kAll (5 * fo + r) un wd hd op)), (0, ar h), (1, ai b), (3, ai fo)]) rfl (by decide) dX4_bestForce_27 ?_
          refine v_iload_n (pc := 28) 4 rfl dX4_bestForce_28 ?_
          refine v_istore_n (pc := 29) (L2 := [(1, ai fo), (2, ai (kAll (5 * fo + r) un wd hd op)), (4, ai (kAll (5 * fo + r) un wd hd op)), (0, ar h), (3, ai fo)]) rfl (by decide) dX4_bestForce_29 ?_
          refine v_iinc (pc := 30) 4 (L2 := [(3, ai (fo + 1)), (1, ai fo), (2, ai (kAll (5 * fo + r) un wd hd op)), (4, ai (kAll (5 * fo + r) un wd hd op)), (0, ar h)]) rfl rfl (by decide) dX4_bestForce_30 ?_
          refine v_goto (pc := 33) 6 dX4_bestForce_33 (by decide) ?_
          refine v_sub (L2 := [(0, ar h), (1, ai fo), (2, ai (kAll (5 * fo + r) un wd hd op)), (3, ai (fo + 1))]) [4, 1, 2, 0] rfl ?_
          exact ih _ (by omega) fo (kAll (5 * fo + r) un wd hd op) (fo + 1) rfl (by omega) (by rw [show (fo + 1).toNat = fo.toNat + 1 by omega, bst_succ, show ((fo.toNat : Nat) : Int) = fo by omega]; first | rw [if_pos (by omega)] | (rw [if_neg (by omega)]; exact hb)) (by rw [show (fo + 1).toNat = fo.toNat + 1 by omega, bst_succ, show ((fo.toNat : Nat) : Int) = fo by omega]; first | rw [if_pos (by omega)] | (rw [if_neg (by omega)]; exact hm))
  refine v_sub (L2 := [(0, ar h), (1, ai 0), (2, ai (-1)), (3, ai 0)]) [3, 2, 1, 0] rfl ?_
  exact lp6 _ 0 (-1) 0 rfl (by omega) (by rfl) (by rfl)
set_option maxHeartbeats 4000000 in
set_option maxRecDepth 100000 in
theorem c_X4_bestOdds {gS : sG} (h : Nat) (fa : Nat) (n : Int) (hd : Int) (r : Int) (un : Int) (wd : Int) (op : Int) (hpi : (-200 ≤ r ∧ r ≤ 100) ∧ (0 ≤ un ∧ un ≤ 21) ∧ (0 ≤ wd ∧ wd ≤ 99) ∧ (0 ≤ hd ∧ hd ≤ 9) ∧ (0 ≤ n ∧ n ≤ 99) ∧ (0 ≤ op ∧ op ≤ 100000)) : Ct gS (S := Unit) yX4_bestOdds cX4_bestOdds 1 (some .int) 3 81 0 0 [ar h] [] (fun q => q ∈ ([(h, co 4 [ar fa, ai n, ai (10 * hd), ai r, ai un, ai wd, ai op])] : aW)) (fun _ => True) (fun _ => some (ai ((bst (fun z => kAll (5 * z + r) un wd hd op) 21).1))) (fun _ => []) := by
  refine ct_I RX4 [(0, ar h)] (by decide) rfl (Nat.le_of_ble_eq_true rfl) rfl (fun x hgS hro hret => ?_)
  subst hgS
  have r0 := hro _ (mem_at 0 rfl)
  have hbb := bst_b (F := (fun z => kAll (5 * z + r) un wd hd op)) (fun k => kAll_b _ _ _ _ _) 20
  have hb21 : 0 ≤ (bst (fun z => kAll (5 * z + r) un wd hd op) 21).2 ∧ (bst (fun z => kAll (5 * z + r) un wd hd op) 21).2 ≤ 20 := by rw [show (21 : Nat) = 20 + 1 from rfl, bst_succ]; split; exact ⟨(by show (0 : Int) ≤ ((20 : Nat) : Int); decide), (by show ((20 : Nat) : Int) ≤ 20; decide)⟩; omega
  show V x cX4_bestOdds RX4 1 (rmU 3 81 0 0) [] 0 [(0, ar h)] [] 0 0
  refine v_aload_n (pc := 0) 0 rfl dX4_bestOdds_0 ?_
  refine v_get (pc := 1) (v := ai op) 6 (Or.inl r0) fl_4_66_4 rfl dX4_bestOdds_1 ?_
  refine v_aload_n (pc := 4) 0 rfl dX4_bestOdds_4 ?_
  refine v_get (pc := 5) (v := ai (10 * hd)) 2 (Or.inl r0) fl_4_39_4 rfl dX4_bestOdds_5 ?_
  refine v_icmp_le (pc := 8) 15 dX4_bestOdds_8 (by decide) (by unfold iB; omega) (by unfold iB; omega) (fun c_1 => ?_) (fun c_1 => ?_)
  · skip
    refine v_aload_n (pc := 15) 0 rfl dX4_bestOdds_15 ?_
    refine v_aload_n (pc := 16) 0 rfl dX4_bestOdds_16 ?_
    refine v_callV (pc := 17) [] [] [] (As := []) (rest := [ar h]) (c_X4_bestForce h fa n hd r un wd op (by first | omega | assumption)) (c := 4) rfl (Or.inl r0) wl_X4_92 wi_X4_bestForce wv_X4_X4_bestForce_X4_bestForce wk_X4_bestForce wz_X4 md_X4_bestForce rfl (Nat.le_of_ble_eq_true rfl) ⟨Nat.le_of_ble_eq_true rfl, Nat.le_of_ble_eq_true rfl, Nat.le_of_ble_eq_true rfl, Nat.le_of_ble_eq_true rfl⟩ rfl rfl rfl rfl (by decide) (ro_cons (Or.inl r0) ro_nil) dX4_bestOdds_17 (fun u hu => ?_)
    show V x cX4_bestOdds RX4 1 (rmU 3 81 0 0) [] 20 [(0, ar h)] [ai ((bst (fun z => kAll (5 * z + r) un wd hd op) 21).2), ar h] 0 0
    refine v_callV (pc := 20) [] [] [] (As := [ai ((bst (fun z => kAll (5 * z + r) un wd hd op) 21).2)]) (rest := []) (c_X4_oddsBy h fa n hd r un wd op ((bst (fun z => kAll (5 * z + r) un wd hd op) 21).2) (by first | omega | assumption) (by first | omega | assumption)) (c := 4) rfl (Or.inl r0) wl_X4_89 wi_X4_oddsBy wv_X4_X4_oddsBy_X4_oddsBy wk_X4_oddsBy wz_X4 md_X4_oddsBy rfl (Nat.le_of_ble_eq_true rfl) ⟨Nat.le_of_ble_eq_true rfl, Nat.le_of_ble_eq_true rfl, Nat.le_of_ble_eq_true rfl, Nat.le_of_ble_eq_true rfl⟩ rfl rfl rfl rfl (by decide) (ro_cons (Or.inl r0) ro_nil) dX4_bestOdds_20 (fun u hu => ?_)
    show V x cX4_bestOdds RX4 1 (rmU 3 81 0 0) [] 23 [(0, ar h)] [ai (kAll (5 * ((bst (fun z => kAll (5 * z + r) un wd hd op) 21).2) + r) un wd hd op)] 0 0
    exact hret () _ _ _ _ _ _ trivial (congrArg (fun z => some (ai z)) (by first | exact (bst_z (fun k => by unfold kAll; rw [if_pos (by omega)]) 20) | exact (bst_at (fun k => (kAll_b _ _ _ _ _).1) 20).symm)) rfl (Nat.le_of_ble_eq_true rfl) (Nat.le_of_ble_eq_true rfl) dX4_bestOdds_23
  · skip
    refine v_iconst (pc := 11) dX4_bestOdds_11 ?_
    refine v_goto (pc := 12) 23 dX4_bestOdds_12 (by decide) ?_
    exact hret () _ _ _ _ _ _ trivial (congrArg (fun z => some (ai z)) (by first | exact (bst_z (fun k => by unfold kAll; rw [if_pos (by omega)]) 20) | exact (bst_at (fun k => (kAll_b _ _ _ _ _).1) 20).symm)) rfl (Nat.le_of_ble_eq_true rfl) (Nat.le_of_ble_eq_true rfl) dX4_bestOdds_23
