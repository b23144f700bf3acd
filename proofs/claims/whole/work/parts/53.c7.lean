set_option maxHeartbeats 4000000 in
set_option maxRecDepth 100000 in
theorem c_X10_holding {gS : sG} (wo : Nat) (pls : Nat) (ins : Nat) (tap : Nat) (e3 : Nat) (e4 : Nat) (e5 : Nat) (e6 : Nat) (e7 : Nat) (e8 : Nat) (pc : Int) (ic : Int) (ts : Int) (sn : Int) (bn : Int) (tt : Int) (bar : Nat) (iv : Int → Option Nat) (hq : Nat) (hhq : (ic = 0 ∧ hq = bar) ∨ ((1 ≤ ic ∧ ic ≤ 5) ∧ iv (ic - 1) = some hq)) : Ct gS (S := Unit) yX10_holding cX10_holding 2 (some (.object "MatFlip$Inn")) 0 0 0 0 [ar wo] [] (fun q => q ∈ ([(wo, co 10 [ar pls, ar ins, ar tap, ar e3, ar e4, ar e5, ar e6, ar e7, ar e8, ai pc, ai ic, ai ts, ai sn, ai bn, ai tt, ar bar]), (ins, cq 2 5 iv)] : aW)) (fun _ => True) (fun _ => some (ar hq)) (fun _ => []) := by
  refine ct_A "MatFlip$Inn" RX10 [(0, ar wo)] (by decide) rfl (Nat.le_of_ble_eq_true rfl) rfl (fun x hgS hro hret => ?_)
  subst hgS
  have r0 := hro _ (mem_at 0 rfl)
  have r1 := hro _ (mem_at 1 rfl)
  have hic : 0 ≤ ic ∧ ic ≤ 5 := by rcases hhq with z | z <;> omega
  show V x cX10_holding RX10 2 (rmU 0 0 0 0) [] 0 [(0, ar wo)] [] 0 0
  refine v_aload_n (pc := 0) 0 rfl dX10_holding_0 ?_
  refine v_get (pc := 1) (v := ai ic) 10 (Or.inl r0) fl_10_50_10 rfl dX10_holding_1 ?_
  refine v_if_le (pc := 4) 15 dX10_holding_4 (by decide) (by unfold iB; omega) (fun c_1 => ?_) (fun c_1 => ?_)
  · skip
    refine v_aload_n (pc := 15) 0 rfl dX10_holding_15 ?_
    refine v_get (pc := 16) (v := ar bar) 15 (Or.inl r0) fl_10_46_10 rfl dX10_holding_16 ?_
    exact hret () _ _ _ _ _ _ trivial (congrArg (fun z => some (aq z)) (by first | rfl | exact congrArg some (hhq.resolve_right (fun z => by omega)).2)) rfl (Nat.le_of_ble_eq_true rfl) (Nat.le_of_ble_eq_true rfl) dX10_holding_19
  · skip
    refine v_aload_n (pc := 7) 0 rfl dX10_holding_7 ?_
    refine v_get (pc := 8) (v := ai ic) 10 (Or.inl r0) fl_10_50_10 rfl dX10_holding_8 ?_
    refine v_iconst (pc := 11) dX10_holding_11 ?_
    refine v_icmp_le (pc := 12) 20 dX10_holding_12 (by decide) (by unfold iB; omega) (by unfold iB; omega) (fun c_2 => ?_) (fun c_2 => ?_)
    · skip
      refine v_aload_n (pc := 20) 0 rfl dX10_holding_20 ?_
      refine v_get (pc := 21) (v := ar ins) 1 (Or.inl r0) fl_10_19_10 rfl dX10_holding_21 ?_
      refine v_aload_n (pc := 24) 0 rfl dX10_holding_24 ?_
      refine v_get (pc := 25) (v := ai ic) 10 (Or.inl r0) fl_10_50_10 rfl dX10_holding_25 ?_
      refine v_iconst (pc := 28) dX10_holding_28 ?_
      refine v_isub (pc := 29) dX10_holding_29 ?_
      refine v_aald (pc := 30) (by decide) (Or.inl r1) (by omega) (by omega) (by decide) dX10_holding_30 ?_
      refine v_eqa (o2 := some hq) ((hhq.resolve_left (fun z => by omega)).2) ?_
      refine v_astore_n (pc := 31) (L2 := [(1, ar hq), (0, ar wo)]) rfl (by decide) dX10_holding_31 ?_
      refine v_aload_n (pc := 32) 0 rfl dX10_holding_32 ?_
      refine v_ifnonnull_r (pc := 33) 43 dX10_holding_33 (by decide) ?_
      refine v_aload_n (pc := 43) 0 rfl dX10_holding_43 ?_
      exact hret () _ _ _ _ _ _ trivial (congrArg (fun z => some (aq z)) (by first | rfl | exact congrArg some (hhq.resolve_right (fun z => by omega)).2)) rfl (Nat.le_of_ble_eq_true rfl) (Nat.le_of_ble_eq_true rfl) dX10_holding_44
    · skip
      refine v_aload_n (pc := 15) 0 rfl dX10_holding_15 ?_
      refine v_get (pc := 16) (v := ar bar) 15 (Or.inl r0) fl_10_46_10 rfl dX10_holding_16 ?_
      exact hret () _ _ _ _ _ _ trivial (congrArg (fun z => some (aq z)) (by first | rfl | exact congrArg some (hhq.resolve_right (fun z => by omega)).2)) rfl (Nat.le_of_ble_eq_true rfl) (Nat.le_of_ble_eq_true rfl) dX10_holding_19
