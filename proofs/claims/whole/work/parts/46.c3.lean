set_option maxHeartbeats 4000000 in
set_option maxRecDepth 100000 in
theorem c_X3_addTest {gS : sG} (h : Nat) (wi : Int) (pa : Int) (ns : Int) (us : Int) (sla : Nat) (ena : Nat) (cda : Nat) (a : Int) (r : Int) (n : Int) (cd : Int → Int) (hus : 0 ≤ us ∧ us ≤ 100) : Ct gS (S := Unit) yX3_addTest cX3_addTest 4 none 1 21 0 0 [ar h, ai a, ai r, ai n] [(h, co 3 [ai wi, ai pa, ai ns, ai us, ar sla, ar ena, ar cda]), (cda, cn 0 100 cd)] (fun q => q ∈ ([] : aW)) (fun _ => True) (fun _ => none) (fun _ => [(h, co 3 [ai wi, ai pa, ai ns, ai (if us < 100 then us + 1 else us), ar sla, ar ena, ar cda]), (cda, cn 0 100 (if us < 100 then aup cd us ((a * 3 + r) * 100 + n) else cd))]) := by
  refine ct_V RX3 [(0, ar h), (1, ai a), (2, ai r), (3, ai n)] (by decide) rfl (Nat.le_of_ble_eq_true rfl) rfl (fun x hgS hnm hro hret => ?_)
  subst hgS
  show V x cX3_addTest RX3 4 (rmU 1 21 0 0) [(h, co 3 [ai wi, ai pa, ai ns, ai us, ar sla, ar ena, ar cda]), (cda, cn 0 100 cd)] 0 [(0, ar h), (1, ai a), (2, ai r), (3, ai n)] [] 0 0
  refine v_aload_n (pc := 0) 0 rfl dX3_addTest_0 ?_
  refine v_iload_n (pc := 1) 1 rfl dX3_addTest_1 ?_
  refine v_iconst (pc := 2) dX3_addTest_2 ?_
  refine v_imul (pc := 3) dX3_addTest_3 ?_
  refine v_iload_n (pc := 4) 2 rfl dX3_addTest_4 ?_
  refine v_iadd (pc := 5) dX3_addTest_5 ?_
  refine v_bipush (pc := 6) dX3_addTest_6 (by decide) ?_
  refine v_imul (pc := 8) dX3_addTest_8 ?_
  refine v_iload_n (pc := 9) 3 rfl dX3_addTest_9 ?_
  refine v_iadd (pc := 10) dX3_addTest_10 ?_
  refine v_callV (pc := 11) [0, 1] [] [] (As := [ai ((((a * 3) + r) * 100) + n)]) (rest := []) (c_X3_addCode h wi pa ns us sla ena cda ((((a * 3) + r) * 100) + n) cd (by first | omega | assumption)) (c := 3) rfl (Or.inr ⟨0, rfl⟩) wl_X3_31 wi_X3_addCode wv_X3_X3_addCode_X3_addCode wk_X3_addCode wz_X3 md_X3_addCode rfl (Nat.le_of_ble_eq_true rfl) ⟨Nat.le_of_ble_eq_true rfl, Nat.le_of_ble_eq_true rfl, Nat.le_of_ble_eq_true rfl, Nat.le_of_ble_eq_true rfl⟩ rfl rfl rfl rfl (by decide) ro_nil dX3_addTest_11 (fun u hu => ?_)
  show V x cX3_addTest RX3 4 (rmU 1 21 0 0) [(h, co 3 [ai wi, ai pa, ai ns, ai (if us < 100 then us + 1 else us), ar sla, ar ena, ar cda]), (cda, cn 0 100 (if us < 100 then aup cd us ((((a * 3) + r) * 100) + n) else cd))] 14 [(0, ar h), (1, ai a), (2, ai r), (3, ai n)] [] 0 0
  exact hret () _ _ _ _ _ trivial rfl rfl (Nat.le_of_ble_eq_true rfl) (Nat.le_of_ble_eq_true rfl) dX3_addTest_14
set_option maxHeartbeats 4000000 in
set_option maxRecDepth 100000 in
theorem c_X3_addSlip {gS : sG} (h : Nat) (wi : Int) (pa : Int) (ns : Int) (us : Int) (sla : Nat) (ena : Nat) (cda : Nat) (n : Int) (sl : Int → Int) (en : Int → Int) (hns : 0 ≤ ns ∧ ns ≤ 10) : Ct gS (S := Unit) yX3_addSlip cX3_addSlip 2 none 0 0 0 0 [ar h, ai n] [(h, co 3 [ai wi, ai pa, ai ns, ai us, ar sla, ar ena, ar cda]), (sla, cn 0 10 sl), (ena, cn 0 10 en)] (fun q => q ∈ ([] : aW)) (fun _ => True) (fun _ => none) (fun _ => [(h, co 3 [ai wi, ai pa, ai (if ns < 10 then ns + 1 else ns), ai us, ar sla, ar ena, ar cda]), (sla, cn 0 10 (if ns < 10 then aup sl ns n else sl)), (ena, cn 0 10 (if ns < 10 then aup en ns us else en))]) := by
  refine ct_V RX3 [(0, ar h), (1, ai n)] (by decide) rfl (Nat.le_of_ble_eq_true rfl) rfl (fun x hgS hnm hro hret => ?_)
  subst hgS
  show V x cX3_addSlip RX3 2 (rmU 0 0 0 0) [(h, co 3 [ai wi, ai pa, ai ns, ai us, ar sla, ar ena, ar cda]), (sla, cn 0 10 sl), (ena, cn 0 10 en)] 0 [(0, ar h), (1, ai n)] [] 0 0
  refine v_aload_n (pc := 0) 0 rfl dX3_addSlip_0 ?_
  refine v_get (pc := 1) (v := ai ns) 2 (Or.inr ⟨0, rfl⟩) fl_3_35_3 rfl dX3_addSlip_1 ?_
  refine v_bipush (pc := 4) dX3_addSlip_4 (by decide) ?_
  refine v_icmp_lt (pc := 6) 10 dX3_addSlip_6 (by decide) (by unfold iB; omega) (by unfold iB; omega) (fun c_1 => ?_) (fun c_1 => ?_)
  · skip
    refine v_aload_n (pc := 10) 0 rfl dX3_addSlip_10 ?_
    refine v_get (pc := 11) (v := ar sla) 4 (Or.inr ⟨0, rfl⟩) fl_3_18_3 rfl dX3_addSlip_11 ?_
    refine v_aload_n (pc := 14) 0 rfl dX3_addSlip_14 ?_
    refine v_get (pc := 15) (v := ai ns) 2 (Or.inr ⟨0, rfl⟩) fl_3_35_3 rfl dX3_addSlip_15 ?_
    refine v_iload_n (pc := 18) 1 rfl dX3_addSlip_18 ?_
    refine v_iast (pc := 19) 1 rfl (by omega) (by omega) (by decide) (ws2 := [(h, co 3 [ai wi, ai pa, ai ns, ai us, ar sla, ar ena, ar cda]), (sla, cn 0 10 (aup sl ns n)), (ena, cn 0 10 en)]) rfl dX3_addSlip_19 ?_
    refine v_aload_n (pc := 20) 0 rfl dX3_addSlip_20 ?_
    refine v_get (pc := 21) (v := ar ena) 5 (Or.inr ⟨0, rfl⟩) fl_3_22_3 rfl dX3_addSlip_21 ?_
    refine v_aload_n (pc := 24) 0 rfl dX3_addSlip_24 ?_
    refine v_get (pc := 25) (v := ai ns) 2 (Or.inr ⟨0, rfl⟩) fl_3_35_3 rfl dX3_addSlip_25 ?_
    refine v_aload_n (pc := 28) 0 rfl dX3_addSlip_28 ?_
    refine v_get (pc := 29) (v := ai us) 3 (Or.inr ⟨0, rfl⟩) fl_3_28_3 rfl dX3_addSlip_29 ?_
    refine v_iast (pc := 32) 2 rfl (by omega) (by omega) (by decide) (ws2 := [(h, co 3 [ai wi, ai pa, ai ns, ai us, ar sla, ar ena, ar cda]), (sla, cn 0 10 (aup sl ns n)), (ena, cn 0 10 (aup en ns us))]) rfl dX3_addSlip_32 ?_
    refine v_aload_n (pc := 33) 0 rfl dX3_addSlip_33 ?_
    refine v_dup (pc := 34) rfl dX3_addSlip_34 ?_
    refine v_get (pc := 35) (v := ai ns) 2 (Or.inr ⟨0, rfl⟩) fl_3_35_3 rfl dX3_addSlip_35 ?_
    refine v_iconst (pc := 38) dX3_addSlip_38 ?_
    refine v_iadd (pc := 39) dX3_addSlip_39 ?_
    refine v_put (pc := 40) 2 0 rfl fl_3_35_3 ck_3 ft_3_2 (okV_i _) (Nat.le_of_ble_eq_true rfl) (ws2 := [(h, co 3 [ai wi, ai pa, ai (ns + 1), ai us, ar sla, ar ena, ar cda]), (sla, cn 0 10 (aup sl ns n)), (ena, cn 0 10 (aup en ns us))]) rfl dX3_addSlip_40 ?_
    refine v_ws (ws2 := [(h, co 3 [ai wi, ai pa, ai (if ns < 10 then ns + 1 else ns), ai us, ar sla, ar ena, ar cda]), (sla, cn 0 10 (if ns < 10 then aup sl ns n else sl)), (ena, cn 0 10 (if ns < 10 then aup en ns us else en))]) (by rw [if_pos (by omega), if_pos (by omega), if_pos (by omega)]) ?_
    exact hret () _ _ _ _ _ trivial rfl rfl (Nat.le_of_ble_eq_true rfl) (Nat.le_of_ble_eq_true rfl) dX3_addSlip_43
  · skip
    refine v_ws (ws2 := [(h, co 3 [ai wi, ai pa, ai (if ns < 10 then ns + 1 else ns), ai us, ar sla, ar ena, ar cda]), (sla, cn 0 10 (if ns < 10 then aup sl ns n else sl)), (ena, cn 0 10 (if ns < 10 then aup en ns us else en))]) (by rw [if_neg (by omega), if_neg (by omega), if_neg (by omega)]) ?_
    exact hret () _ _ _ _ _ trivial rfl rfl (Nat.le_of_ble_eq_true rfl) (Nat.le_of_ble_eq_true rfl) dX3_addSlip_9
