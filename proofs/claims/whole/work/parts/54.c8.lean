set_option maxHeartbeats 4000000 in
set_option maxRecDepth 100000 in
theorem c_X4_layFor_k5 {gS : sG} (h : Nat) (fa : Nat) (m0 : Int) (m1 : Int) (m2 : Int) (m3 : Int) (m4 : Int) (m5 : Int) (fa0 : Int → Int) (wo : Nat) (pls : Nat) (ins : Nat) (tap : Nat) (e3 : Nat) (e4 : Nat) (e5 : Nat) (e6 : Nat) (e7 : Nat) (e8 : Nat) (pc : Int) (ic : Int) (ts : Int) (sn : Int) (bn : Int) (tt : Int) (bar : Nat) (iv : Int → Option Nat) (hq : Nat) (wi : Int) (pa : Int) (ns : Int) (us : Int) (sla : Nat) (ena : Nat) (cda : Nat) (cd : Int → Int) (sl : Int → Int) (en : Int → Int) (pl : Nat) (ta : Nat) (kd : Int) (num : Int) (pv : Int) (sk : Int) (hn : Int) (gl : Int) (sc : Int) (pu : Int) (n : Int) (s1 : Int) (g1 : Int) (hhq : (ic = 0 ∧ hq = bar) ∨ ((1 ≤ ic ∧ ic ≤ 5) ∧ iv (ic - 1) = some hq)) (hns : 0 ≤ ns ∧ ns ≤ 10) (hnn : 0 ≤ n ∧ n ≤ 99) (hsl : ∀ k : Int, 0 ≤ k → k < ns → -200 ≤ sl k ∧ sl k ≤ 200) (hen : ∀ (b : Int → Int) (m : Nat), (m : Int) < ns → (0 ≤ frE en m ∧ frE en m ≤ en (m : Int) ∧ en (m : Int) ≤ 100) ∧ ∀ q : Nat, (q : Int) < en (m : Int) - frE en m → okC (evC b cd (frE en m) q) (cd (frE en m + (q : Int)))) (hs1 : 0 ≤ s1 ∧ s1 ≤ 20) (hg1 : 0 ≤ g1 ∧ g1 ≤ 9) (htt : 0 ≤ tt ∧ tt ≤ 10000) (hnum : 0 ≤ num ∧ num ≤ 5) (hkd : 0 ≤ kd ∧ kd ≤ 6) : Ct gS (S := Int → Int) yX4_layFor cX4_layFor 7 none 3 77 0 0 [ar h, ar wo, ar pl, ai n, ai s1, ai g1] [(h, co 4 [ar fa, ai m0, ai m1, ai m2, ai m3, ai m4, ai m5]), (fa, cn 0 6 fa0)] (fun q => q ∈ ([(wo, co 10 [ar pls, ar ins, ar tap, ar e3, ar e4, ar e5, ar e6, ar e7, ar e8, ai pc, ai ic, ai ts, ai sn, ai bn, ai tt, ar bar]), (ins, cq 2 5 iv), (hq, co 3 [ai wi, ai pa, ai ns, ai us, ar sla, ar ena, ar cda]), (cda, cn 0 100 cd), (sla, cn 0 10 sl), (ena, cn 0 10 en), (pl, co 5 [ar ta, ai kd, ai num, ai pv, ai sk, ai hn, ai gl, ai sc, ai pu])] : aW)) (fun u => ∀ k : Int, 0 ≤ k → k < 6 → u k = fbv num kd (n / 10) g1 s1 (tt % 10) k) (fun u => none) (fun u => [(h, co 4 [ar fa, ai n, ai (10 * hn), ai (0 - n / 2), ai (kUns s1 g1), ai wi, ai (if 0 < opS u cd sl en n ns.toNat then opS u cd sl en n ns.toNat else 0)]), (fa, cn 0 6 u)]) := by
  refine ct_V RX4 [(0, ar h), (1, ar wo), (2, ar pl), (3, ai n), (4, ai s1), (5, ai g1)] (by decide) rfl (Nat.le_of_ble_eq_true rfl) rfl (fun x hgS hnm hro hret => ?_)
  subst hgS
  have r0 := hro _ (mem_at 0 rfl)
  have r1 := hro _ (mem_at 1 rfl)
  have r2 := hro _ (mem_at 2 rfl)
  have r3 := hro _ (mem_at 3 rfl)
  have r4 := hro _ (mem_at 4 rfl)
  have r5 := hro _ (mem_at 5 rfl)
  have r6 := hro _ (mem_at 6 rfl)
  have htq : 0 ≤ tt % 4 ∧ tt % 4 < 4 := by omega
  show V x cX4_layFor RX4 7 (rmU 3 77 0 0) [(h, co 4 [ar fa, ai m0, ai m1, ai m2, ai m3, ai m4, ai m5]), (fa, cn 0 6 fa0)] 0 [(0, ar h), (1, ar wo), (2, ar pl), (3, ai n), (4, ai s1), (5, ai g1)] [] 0 0
  refine v_aload_n (pc := 0) 1 rfl dX4_layFor_0 ?_
  refine v_callV (pc := 1) [] [0, 1] [(h, co 4 [ar fa, ai m0, ai m1, ai m2, ai m3, ai m4, ai m5]), (fa, cn 0 6 fa0)] (As := []) (rest := []) (c_X10_holding wo pls ins tap e3 e4 e5 e6 e7 e8 pc ic ts sn bn tt bar iv hq (by first | omega | assumption)) (c := 10) rfl (Or.inl r0) wl_X4_15 wi_X10_holding wv_X10_X10_holding_X10_holding wk_X10_holding wz_X10 md_X10_holding rfl (Nat.le_of_ble_eq_true rfl) ⟨Nat.le_of_ble_eq_true rfl, Nat.le_of_ble_eq_true rfl, Nat.le_of_ble_eq_true rfl, Nat.le_of_ble_eq_true rfl⟩ rfl rfl rfl rfl (by decide) (ro_cons (Or.inl r0) (ro_cons (Or.inl r1) ro_nil)) dX4_layFor_1 (fun u hu => ?_)
  show V x cX4_layFor RX4 7 (rmU 3 77 0 0) [(h, co 4 [ar fa, ai m0, ai m1, ai m2, ai m3, ai m4, ai m5]), (fa, cn 0 6 fa0)] 4 [(0, ar h), (1, ar wo), (2, ar pl), (3, ai n), (4, ai s1), (5, ai g1)] [ar hq] 0 0
  refine v_astore (pc := 4) (L2 := [(6, ar hq), (0, ar h), (1, ar wo), (2, ar pl), (3, ai n), (4, ai s1), (5, ai g1)]) rfl (by decide) dX4_layFor_4 ?_
  refine v_aload_n (pc := 6) 1 rfl dX4_layFor_6 ?_
  refine v_get (pc := 7) (v := ar fa) 0 (Or.inr ⟨0, rfl⟩) fl_4_9_4 rfl dX4_layFor_7 ?_
  refine v_iconst (pc := 10) dX4_layFor_10 ?_
  refine v_aload_n (pc := 11) 3 rfl dX4_layFor_11 ?_
  refine v_get (pc := 12) (v := ai num) 2 (Or.inl r6) fl_4_21_5 rfl dX4_layFor_12 ?_
  refine v_iast (pc := 15) 1 rfl (by omega) (by omega) (by decide) (ws2 := [(h, co 4 [ar fa, ai m0, ai m1, ai m2, ai m3, ai m4, ai m5]), (fa, cn 0 6 (aup fa0 0 num))]) rfl dX4_layFor_15 ?_
  refine v_aload_n (pc := 16) 1 rfl dX4_layFor_16 ?_
  refine v_get (pc := 17) (v := ar fa) 0 (Or.inr ⟨0, rfl⟩) fl_4_9_4 rfl dX4_layFor_17 ?_
  refine v_iconst (pc := 20) dX4_layFor_20 ?_
  refine v_aload_n (pc := 21) 3 rfl dX4_layFor_21 ?_
  refine v_get (pc := 22) (v := ai kd) 1 (Or.inl r6) fl_4_27_5 rfl dX4_layFor_22 ?_
  refine v_iast (pc := 25) 1 rfl (by omega) (by omega) (by decide) (ws2 := [(h, co 4 [ar fa, ai m0, ai m1, ai m2, ai m3, ai m4, ai m5]), (fa, cn 0 6 (aup (aup fa0 0 num) 1 kd))]) rfl dX4_layFor_25 ?_
  refine v_aload_n (pc := 26) 1 rfl dX4_layFor_26 ?_
  refine v_get (pc := 27) (v := ar fa) 0 (Or.inr ⟨0, rfl⟩) fl_4_9_4 rfl dX4_layFor_27 ?_
  refine v_iconst (pc := 30) dX4_layFor_30 ?_
  refine v_iload_n (pc := 31) 4 rfl dX4_layFor_31 ?_
  refine v_bipush (pc := 32) dX4_layFor_32 (by decide) ?_
  refine v_idiv (pc := 34) (by omega) (by omega) (by unfold iB; omega) (by unfold iB; omega) dX4_layFor_34 ?_
  refine v_iast (pc := 35) 1 rfl (by omega) (by omega) (by decide) (ws2 := [(h, co 4 [ar fa, ai m0, ai m1, ai m2, ai m3, ai m4, ai m5]), (fa, cn 0 6 (aup (aup (aup fa0 0 num) 1 kd) 2 (n / 10)))]) rfl dX4_layFor_35 ?_
  refine v_aload_n (pc := 36) 1 rfl dX4_layFor_36 ?_
  refine v_get (pc := 37) (v := ar fa) 0 (Or.inr ⟨0, rfl⟩) fl_4_9_4 rfl dX4_layFor_37 ?_
  refine v_iconst (pc := 40) dX4_layFor_40 ?_
  refine v_iload (pc := 41) 6 rfl dX4_layFor_41 ?_
  refine v_iast (pc := 43) 1 rfl (by omega) (by omega) (by decide) (ws2 := [(h, co 4 [ar fa, ai m0, ai m1, ai m2, ai m3, ai m4, ai m5]), (fa, cn 0 6 (aup (aup (aup (aup fa0 0 num) 1 kd) 2 (n / 10)) 3 g1))]) rfl dX4_layFor_43 ?_
  refine v_aload_n (pc := 44) 1 rfl dX4_layFor_44 ?_
  refine v_get (pc := 45) (v := ar fa) 0 (Or.inr ⟨0, rfl⟩) fl_4_9_4 rfl dX4_layFor_45 ?_
  refine v_iconst (pc := 48) dX4_layFor_48 ?_
  refine v_iload (pc := 49) 5 rfl dX4_layFor_49 ?_
  refine v_iast (pc := 51) 1 rfl (by omega) (by omega) (by decide) (ws2 := [(h, co 4 [ar fa, ai m0, ai m1, ai m2, ai m3, ai m4, ai m5]), (fa, cn 0 6 (aup (aup (aup (aup (aup fa0 0 num) 1 kd) 2 (n / 10)) 3 g1) 4 s1))]) rfl dX4_layFor_51 ?_
  refine v_aload_n (pc := 52) 1 rfl dX4_layFor_52 ?_
  refine v_get (pc := 53) (v := ar fa) 0 (Or.inr ⟨0, rfl⟩) fl_4_9_4 rfl dX4_layFor_53 ?_
  refine v_iconst (pc := 56) dX4_layFor_56 ?_
  refine v_aload_n (pc := 57) 2 rfl dX4_layFor_57 ?_
  refine v_get (pc := 58) (v := ai tt) 14 (Or.inl r0) fl_4_30_10 rfl dX4_layFor_58 ?_
  refine v_bipush (pc := 61) dX4_layFor_61 (by decide) ?_
  refine v_irem (pc := 63) (by omega) (by omega) (by unfold iB; omega) (by unfold iB; omega) dX4_layFor_63 ?_
  refine v_iast (pc := 64) 1 rfl (by omega) (by omega) (by decide) (ws2 := [(h, co 4 [ar fa, ai m0, ai m1, ai m2, ai m3, ai m4, ai m5]), (fa, cn 0 6 (aup (aup (aup (aup (aup (aup fa0 0 num) 1 kd) 2 (n / 10)) 3 g1) 4 s1) 5 (tt % 10)))]) rfl dX4_layFor_64 ?_
  refine v_aload_n (pc := 65) 1 rfl dX4_layFor_65 ?_
  refine v_iload_n (pc := 66) 4 rfl dX4_layFor_66 ?_
  refine v_put (pc := 67) 1 0 rfl fl_4_33_4 ck_4 ft_4_1 (okV_i _) (Nat.le_of_ble_eq_true rfl) (ws2 := [(h, co 4 [ar fa, ai n, ai m1, ai m2, ai m3, ai m4, ai m5]), (fa, cn 0 6 (aup (aup (aup (aup (aup (aup fa0 0 num) 1 kd) 2 (n / 10)) 3 g1) 4 s1) 5 (tt % 10)))]) rfl dX4_layFor_67 ?_
  refine v_aload_n (pc := 70) 1 rfl dX4_layFor_70 ?_
  refine v_bipush (pc := 71) dX4_layFor_71 (by decide) ?_
  refine v_aload_n (pc := 73) 3 rfl dX4_layFor_73 ?_
  refine v_get (pc := 74) (v := ai hn) 5 (Or.inl r6) fl_4_36_5 rfl dX4_layFor_74 ?_
  refine v_imul (pc := 77) dX4_layFor_77 ?_
  refine v_put (pc := 78) 2 0 rfl fl_4_39_4 ck_4 ft_4_2 (okV_i _) (Nat.le_of_ble_eq_true rfl) (ws2 := [(h, co 4 [ar fa, ai n, ai (10 * hn), ai m2, ai m3, ai m4, ai m5]), (fa, cn 0 6 (aup (aup (aup (aup (aup (aup fa0 0 num) 1 kd) 2 (n / 10)) 3 g1) 4 s1) 5 (tt % 10)))]) rfl dX4_layFor_78 ?_
  refine v_aload_n (pc := 81) 1 rfl dX4_layFor_81 ?_
  refine v_aload_n (pc := 82) 3 rfl dX4_layFor_82 ?_
  refine v_aload_n (pc := 83) 2 rfl dX4_layFor_83 ?_
  refine v_get (pc := 84) (v := ai tt) 14 (Or.inl r0) fl_4_30_10 rfl dX4_layFor_84 ?_
  refine v_callU (pc := 87) [] [0, 1] [(h, co 4 [ar fa, ai n, ai (10 * hn), ai m2, ai m3, ai m4, ai m5]), (fa, cn 0 6 (aup (aup (aup (aup (aup (aup fa0 0 num) 1 kd) 2 (n / 10)) 3 g1) 4 s1) 5 (tt % 10)))] (z := yX5_lean) (As := [ai tt]) (rest := [ar h]) (c_X5_lean_k5 pl ta kd num pv sk hn gl sc pu tt ) (c := 5) rfl (Or.inl r6) wl_X4_42 wsm_2 wi_X5_lean wk_X5_lean wv_X5_X5_lean_X5_lean wi_X5_lean wk_X5_lean wz_X5 mdo_X5_lean rfl (Nat.le_of_ble_eq_true rfl) ⟨Nat.le_of_ble_eq_true rfl, Nat.le_of_ble_eq_true rfl, Nat.le_of_ble_eq_true rfl, Nat.le_of_ble_eq_true rfl⟩ rfl rfl rfl rfl (by decide) (ro_cons (Or.inl r6) ro_nil) dX4_layFor_87 (fun u hu => ?_)
  show V x cX4_layFor RX4 7 (rmU 3 77 0 0) [(h, co 4 [ar fa, ai n, ai (10 * hn), ai m2, ai m3, ai m4, ai m5]), (fa, cn 0 6 (aup (aup (aup (aup (aup (aup fa0 0 num) 1 kd) 2 (n / 10)) 3 g1) 4 s1) 5 (tt % 10)))] 90 [(6, ar hq), (0, ar h), (1, ar wo), (2, ar pl), (3, ai n), (4, ai s1), (5, ai g1)] [ai 0, ar h] 0 0
  refine v_iload_n (pc := 90) 4 rfl dX4_layFor_90 ?_
  refine v_iconst (pc := 91) dX4_layFor_91 ?_
  refine v_idiv (pc := 92) (by omega) (by omega) (by unfold iB; omega) (by unfold iB; omega) dX4_layFor_92 ?_
  refine v_isub (pc := 93) dX4_layFor_93 ?_
  refine v_put (pc := 94) 3 0 rfl fl_4_46_4 ck_4 ft_4_3 (okV_i _) (Nat.le_of_ble_eq_true rfl) (ws2 := [(h, co 4 [ar fa, ai n, ai (10 * hn), ai (0 - (n / 2)), ai m3, ai m4, ai m5]), (fa, cn 0 6 (aup (aup (aup (aup (aup (aup fa0 0 num) 1 kd) 2 (n / 10)) 3 g1) 4 s1) 5 (tt % 10)))]) rfl dX4_layFor_94 ?_
  refine v_aload_n (pc := 97) 1 rfl dX4_layFor_97 ?_
  refine v_aload_n (pc := 98) 3 rfl dX4_layFor_98 ?_
  refine v_iload (pc := 99) 5 rfl dX4_layFor_99 ?_
  refine v_iload (pc := 101) 6 rfl dX4_layFor_101 ?_
  refine v_callU (pc := 103) [] [0, 1] [(h, co 4 [ar fa, ai n, ai (10 * hn), ai (0 - (n / 2)), ai m3, ai m4, ai m5]), (fa, cn 0 6 (aup (aup (aup (aup (aup (aup fa0 0 num) 1 kd) 2 (n / 10)) 3 g1) 4 s1) 5 (tt % 10)))] (z := yX5_unsureBy) (As := [ai s1, ai g1]) (rest := [ar h]) (c_X5_unsureBy_k5 pl ta kd num pv sk hn gl sc pu s1 g1 (by first | omega | assumption) (by first | omega | assumption)) (c := 5) rfl (Or.inl r6) wl_X4_49 wsm_0 wi_X5_unsureBy wk_X5_unsureBy wv_X5_X5_unsureBy_X5_unsureBy wi_X5_unsureBy wk_X5_unsureBy wz_X5 mdo_X5_unsureBy rfl (Nat.le_of_ble_eq_true rfl) ⟨Nat.le_of_ble_eq_true rfl, Nat.le_of_ble_eq_true rfl, Nat.le_of_ble_eq_true rfl, Nat.le_of_ble_eq_true rfl⟩ rfl rfl rfl rfl (by decide) (ro_cons (Or.inl r6) ro_nil) dX4_layFor_103 (fun u hu => ?_)
  show V x cX4_layFor RX4 7 (rmU 3 77 0 0) [(h, co 4 [ar fa, ai n, ai (10 * hn), ai (0 - (n / 2)), ai m3, ai m4, ai m5]), (fa, cn 0 6 (aup (aup (aup (aup (aup (aup fa0 0 num) 1 kd) 2 (n / 10)) 3 g1) 4 s1) 5 (tt % 10)))] 106 [(6, ar hq), (0, ar h), (1, ar wo), (2, ar pl), (3, ai n), (4, ai s1), (5, ai g1)] [ai (kUns s1 g1), ar h] 0 0
  refine v_put (pc := 106) 4 0 rfl fl_4_53_4 ck_4 ft_4_4 (okV_i _) (Nat.le_of_ble_eq_true rfl) (ws2 := [(h, co 4 [ar fa, ai n, ai (10 * hn), ai (0 - (n / 2)), ai (kUns s1 g1), ai m4, ai m5]), (fa, cn 0 6 (aup (aup (aup (aup (aup (aup fa0 0 num) 1 kd) 2 (n / 10)) 3 g1) 4 s1) 5 (tt % 10)))]) rfl dX4_layFor_106 ?_
  refine v_aload_n (pc := 109) 1 rfl dX4_layFor_109 ?_
  refine v_aload (pc := 110) 0 rfl dX4_layFor_110 ?_
  refine v_get (pc := 112) (v := ai wi) 0 (Or.inl r2) fl_4_56_3 rfl dX4_layFor_112 ?_
  refine v_put (pc := 115) 5 0 rfl fl_4_61_4 ck_4 ft_4_5 (okV_i _) (Nat.le_of_ble_eq_true rfl) (ws2 := [(h, co 4 [ar fa, ai n, ai (10 * hn), ai (0 - (n / 2)), ai (kUns s1 g1), ai wi, ai m5]), (fa, cn 0 6 (aup (aup (aup (aup (aup (aup fa0 0 num) 1 kd) 2 (n / 10)) 3 g1) 4 s1) 5 (tt % 10)))]) rfl dX4_layFor_115 ?_
  have hfa2 : ∀ k : Int, 0 ≤ k → k < 6 → (aup (aup (aup (aup (aup (aup fa0 0 num) 1 kd) 2 (n / 10)) 3 g1) 4 s1) 5 (tt % 10)) k = fbv num kd (n / 10) g1 s1 (tt % 10) k := by intro k k0 k1; unfold fbv; rcases (show k = 0 ∨ k = 1 ∨ k = 2 ∨ k = 3 ∨ k = 4 ∨ k = 5 by omega) with rfl | rfl | rfl | rfl | rfl | rfl <;> simp [aup]
  obtain ⟨fa2, hf2⟩ : ∃ z, z = (aup (aup (aup (aup (aup (aup fa0 0 num) 1 kd) 2 (n / 10)) 3 g1) 4 s1) 5 (tt % 10)) := ⟨_, rfl⟩
  rw [← hf2] at hfa2
  refine v_ws (ws2 := [(h, co 4 [ar fa, ai n, ai (10 * hn), ai (0 - (n / 2)), ai (kUns s1 g1), ai wi, ai m5]), (fa, cn 0 6 fa2)]) (by rw [hf2]) ?_
  have hbf : ∀ k : Int, 0 ≤ k → k < 6 → 0 ≤ fa2 k ∧ fa2 k ≤ 1000 := by intro k k0 k1; rw [hfa2 k k0 k1]; unfold fbv; (repeat' split) <;> omega
  refine v_aload_n (pc := 118) 1 rfl dX4_layFor_118 ?_
  refine v_aload (pc := 119) 0 rfl dX4_layFor_119 ?_
  refine v_iload_n (pc := 121) 4 rfl dX4_layFor_121 ?_
  refine v_aload_n (pc := 122) 1 rfl dX4_layFor_122 ?_
  refine v_get (pc := 123) (v := ar fa) 0 (Or.inr ⟨0, rfl⟩) fl_4_9_4 rfl dX4_layFor_123 ?_
  refine v_callV (pc := 126) [] [0, 1] [(h, co 4 [ar fa, ai n, ai (10 * hn), ai (0 - (n / 2)), ai (kUns s1 g1), ai wi, ai m5]), (fa, cn 0 6 fa2)] (As := [ai n, ar fa]) (rest := [ar h]) (c_X3_opensOf hq wi pa ns us sla ena cda n fa cd sl en fa2 (by first | omega | assumption) (by first | omega | assumption) (by assumption) (by exact fun m hm => hen fa2 m hm) (by exact hbf)) (c := 3) rfl (Or.inl r2) wl_X4_62 wi_X3_opensOf wv_X3_X3_opensOf_X3_opensOf wk_X3_opensOf wz_X3 md_X3_opensOf rfl (Nat.le_of_ble_eq_true rfl) ⟨Nat.le_of_ble_eq_true rfl, Nat.le_of_ble_eq_true rfl, Nat.le_of_ble_eq_true rfl, Nat.le_of_ble_eq_true rfl⟩ rfl rfl rfl rfl (by decide) (ro_cons (Or.inl r2) (ro_cons (Or.inl r3) (ro_cons (Or.inl r4) (ro_cons (Or.inl r5) (ro_cons (Or.inr ⟨1, rfl, by decide⟩) ro_nil))))) dX4_layFor_126 (fun u hu => ?_)
  show V x cX4_layFor RX4 7 (rmU 3 77 0 0) [(h, co 4 [ar fa, ai n, ai (10 * hn), ai (0 - (n / 2)), ai (kUns s1 g1), ai wi, ai m5]), (fa, cn 0 6 fa2)] 129 [(6, ar hq), (0, ar h), (1, ar wo), (2, ar pl), (3, ai n), (4, ai s1), (5, ai g1)] [ai (if 0 < opS fa2 cd sl en n ns.toNat then opS fa2 cd sl en n ns.toNat else 0), ar h] 0 0
  refine v_put (pc := 129) 6 0 rfl fl_4_66_4 ck_4 ft_4_6 (okV_i _) (Nat.le_of_ble_eq_true rfl) (ws2 := [(h, co 4 [ar fa, ai n, ai (10 * hn), ai (0 - (n / 2)), ai (kUns s1 g1), ai wi, ai (if 0 < opS fa2 cd sl en n ns.toNat then opS fa2 cd sl en n ns.toNat else 0)]), (fa, cn 0 6 fa2)]) rfl dX4_layFor_129 ?_
  exact hret fa2 _ _ _ _ _ (by exact hfa2) rfl rfl (Nat.le_of_ble_eq_true rfl) (Nat.le_of_ble_eq_true rfl) dX4_layFor_132
set_option maxHeartbeats 4000000 in
set_option maxRecDepth 100000 in
theorem c_X4_layFor_k8 {gS : sG} (h : Nat) (fa : Nat) (m0 : Int) (m1 : Int) (m2 : Int) (m3 : Int) (m4 : Int) (m5 : Int) (fa0 : Int → Int) (wo : Nat) (pls : Nat) (ins : Nat) (tap : Nat) (e3 : Nat) (e4 : Nat) (e5 : Nat) (e6 : Nat) (e7 : Nat) (e8 : Nat) (pc : Int) (ic : Int) (ts : Int) (sn : Int) (bn : Int) (tt : Int) (bar : Nat) (iv : Int → Option Nat) (hq : Nat) (wi : Int) (pa : Int) (ns : Int) (us : Int) (sla : Nat) (ena : Nat) (cda : Nat) (cd : Int → Int) (sl : Int → Int) (en : Int → Int) (pl : Nat) (ta : Nat) (kd : Int) (num : Int) (pv : Int) (sk : Int) (hn : Int) (gl : Int) (sc : Int) (pu : Int) (n : Int) (s1 : Int) (g1 : Int) (hhq : (ic = 0 ∧ hq = bar) ∨ ((1 ≤ ic ∧ ic ≤ 5) ∧ iv (ic - 1) = some hq)) (hns : 0 ≤ ns ∧ ns ≤ 10) (hnn : 0 ≤ n ∧ n ≤ 99) (hsl : ∀ k : Int, 0 ≤ k → k < ns → -200 ≤ sl k ∧ sl k ≤ 200) (hen : ∀ (b : Int → Int) (m : Nat), (m : Int) < ns → (0 ≤ frE en m ∧ frE en m ≤ en (m : Int) ∧ en (m : Int) ≤ 100) ∧ ∀ q : Nat, (q : Int) < en (m : Int) - frE en m → okC (evC b cd (frE en m) q) (cd (frE en m + (q : Int)))) (hs1 : 0 ≤ s1 ∧ s1 ≤ 20) (hg1 : 0 ≤ g1 ∧ g1 ≤ 9) (htt : 0 ≤ tt ∧ tt ≤ 10000) (hnum : 0 ≤ num ∧ num ≤ 5) (hkd : 0 ≤ kd ∧ kd ≤ 6) : Ct gS (S := Int → Int) yX4_layFor cX4_layFor 7 none 3 77 0 0 [ar h, ar wo, ar pl, ai n, ai s1, ai g1] [(h, co 4 [ar fa, ai m0, ai m1, ai m2, ai m3, ai m4, ai m5]), (fa, cn 0 6 fa0)] (fun q => q ∈ ([(wo, co 10 [ar pls, ar ins, ar tap, ar e3, ar e4, ar e5, ar e6, ar e7, ar e8, ai pc, ai ic, ai ts, ai sn, ai bn, ai tt, ar bar]), (ins, cq 2 5 iv), (hq, co 3 [ai wi, ai pa, ai ns, ai us, ar sla, ar ena, ar cda]), (cda, cn 0 100 cd), (sla, cn 0 10 sl), (ena, cn 0 10 en), (pl, co 8 [ar ta, ai kd, ai num, ai pv, ai sk, ai hn, ai gl, ai sc, ai pu])] : aW)) (fun u => ∀ k : Int, 0 ≤ k → k < 6 → u k = fbv num kd (n / 10) g1 s1 (tt % 10) k) (fun u => none) (fun u => [(h, co 4 [ar fa, ai n, ai (10 * hn), ai (0 - n / 2), ai (kUns s1 g1 / 2), ai wi, ai (if 0 < opS u cd sl en n ns.toNat then opS u cd sl en n ns.toNat else 0)]), (fa, cn 0 6 u)]) := by
  refine ct_V RX4 [(0, ar h), (1, ar wo), (2, ar pl), (3, ai n), (4, ai s1), (5, ai g1)] (by decide) rfl (Nat.le_of_ble_eq_true rfl) rfl (fun x hgS hnm hro hret => ?_)
  subst hgS
  have r0 := hro _ (mem_at 0 rfl)
  have r1 := hro _ (mem_at 1 rfl)
  have r2 := hro _ (mem_at 2 rfl)
  have r3 := hro _ (mem_at 3 rfl)
  have r4 := hro _ (mem_at 4 rfl)
  have r5 := hro _ (mem_at 5 rfl)
  have r6 := hro _ (mem_at 6 rfl)
  have htq : 0 ≤ tt % 4 ∧ tt % 4 < 4 := by omega
  show V x cX4_layFor RX4 7 (rmU 3 77 0 0) [(h, co 4 [ar fa, ai m0, ai m1, ai m2, ai m3, ai m4, ai m5]), (fa, cn 0 6 fa0)] 0 [(0, ar h), (1, ar wo), (2, ar pl), (3, ai n), (4, ai s1), (5, ai g1)] [] 0 0
  refine v_aload_n (pc := 0) 1 rfl dX4_layFor_0 ?_
  refine v_callV (pc := 1) [] [0, 1] [(h, co 4 [ar fa, ai m0, ai m1, ai m2, ai m3, ai m4, ai m5]), (fa, cn 0 6 fa0)] (As := []) (rest := []) (c_X10_holding wo pls ins tap e3 e4 e5 e6 e7 e8 pc ic ts sn bn tt bar iv hq (by first | omega | assumption)) (c := 10) rfl (Or.inl r0) wl_X4_15 wi_X10_holding wv_X10_X10_holding_X10_holding wk_X10_holding wz_X10 md_X10_holding rfl (Nat.le_of_ble_eq_true rfl) ⟨Nat.le_of_ble_eq_true rfl, Nat.le_of_ble_eq_true rfl, Nat.le_of_ble_eq_true rfl, Nat.le_of_ble_eq_true rfl⟩ rfl rfl rfl rfl (by decide) (ro_cons (Or.inl r0) (ro_cons (Or.inl r1) ro_nil)) dX4_layFor_1 (fun u hu => ?_)
  show V x cX4_layFor RX4 7 (rmU 3 77 0 0) [(h, co 4 [ar fa, ai m0, ai m1, ai m2, ai m3, ai m4, ai m5]), (fa, cn 0 6 fa0)] 4 [(0, ar h), (1, ar wo), (2, ar pl), (3, ai n), (4, ai s1), (5, ai g1)] [ar hq] 0 0
  refine v_astore (pc := 4) (L2 := [(6, ar hq), (0, ar h), (1, ar wo), (2, ar pl), (3, ai n), (4, ai s1), (5, ai g1)]) rfl (by decide) dX4_layFor_4 ?_
  refine v_aload_n (pc := 6) 1 rfl dX4_layFor_6 ?_
  refine v_get (pc := 7) (v := ar fa) 0 (Or.inr ⟨0, rfl⟩) fl_4_9_4 rfl dX4_layFor_7 ?_
  refine v_iconst (pc := 10) dX4_layFor_10 ?_
  refine v_aload_n (pc := 11) 3 rfl dX4_layFor_11 ?_
  refine v_get (pc := 12) (v := ai num) 2 (Or.inl r6) fl_4_21_8 rfl dX4_layFor_12 ?_
  refine v_iast (pc := 15) 1 rfl (by omega) (by omega) (by decide) (ws2 := [(h, co 4 [ar fa, ai m0, ai m1, ai m2, ai m3, ai m4, ai m5]), (fa, cn 0 6 (aup fa0 0 num))]) rfl dX4_layFor_15 ?_
  refine v_aload_n (pc := 16) 1 rfl dX4_layFor_16 ?_
  refine v_get (pc := 17) (v := ar fa) 0 (Or.inr ⟨0, rfl⟩) fl_4_9_4 rfl dX4_layFor_17 ?_
  refine v_iconst (pc := 20) dX4_layFor_20 ?_
  refine v_aload_n (pc := 21) 3 rfl dX4_layFor_21 ?_
  refine v_get (pc := 22) (v := ai kd) 1 (Or.inl r6) fl_4_27_8 rfl dX4_layFor_22 ?_
  refine v_iast (pc := 25) 1 rfl (by omega) (by omega) (by decide) (ws2 := [(h, co 4 [ar fa, ai m0, ai m1, ai m2, ai m3, ai m4, ai m5]), (fa, cn 0 6 (aup (aup fa0 0 num) 1 kd))]) rfl dX4_layFor_25 ?_
  refine v_aload_n (pc := 26) 1 rfl dX4_layFor_26 ?_
  refine v_get (pc := 27) (v := ar fa) 0 (Or.inr ⟨0, rfl⟩) fl_4_9_4 rfl dX4_layFor_27 ?_
  refine v_iconst (pc := 30) dX4_layFor_30 ?_
  refine v_iload_n (pc := 31) 4 rfl dX4_layFor_31 ?_
  refine v_bipush (pc := 32) dX4_layFor_32 (by decide) ?_
  refine v_idiv (pc := 34) (by omega) (by omega) (by unfold iB; omega) (by unfold iB; omega) dX4_layFor_34 ?_
  refine v_iast (pc := 35) 1 rfl (by omega) (by omega) (by decide) (ws2 := [(h, co 4 [ar fa, ai m0, ai m1, ai m2, ai m3, ai m4, ai m5]), (fa, cn 0 6 (aup (aup (aup fa0 0 num) 1 kd) 2 (n / 10)))]) rfl dX4_layFor_35 ?_
  refine v_aload_n (pc := 36) 1 rfl dX4_layFor_36 ?_
  refine v_get (pc := 37) (v := ar fa) 0 (Or.inr ⟨0, rfl⟩) fl_4_9_4 rfl dX4_layFor_37 ?_
  refine v_iconst (pc := 40) dX4_layFor_40 ?_
  refine v_iload (pc := 41) 6 rfl dX4_layFor_41 ?_
  refine v_iast (pc := 43) 1 rfl (by omega) (by omega) (by decide) (ws2 := [(h, co 4 [ar fa, ai m0, ai m1, ai m2, ai m3, ai m4, ai m5]), (fa, cn 0 6 (aup (aup (aup (aup fa0 0 num) 1 kd) 2 (n / 10)) 3 g1))]) rfl dX4_layFor_43 ?_
  refine v_aload_n (pc := 44) 1 rfl dX4_layFor_44 ?_
  refine v_get (pc := 45) (v := ar fa) 0 (Or.inr ⟨0, rfl⟩) fl_4_9_4 rfl dX4_layFor_45 ?_
  refine v_iconst (pc := 48) dX4_layFor_48 ?_
  refine v_iload (pc := 49) 5 rfl dX4_layFor_49 ?_
  refine v_iast (pc := 51) 1 rfl (by omega) (by omega) (by decide) (ws2 := [(h, co 4 [ar fa, ai m0, ai m1, ai m2, ai m3, ai m4, ai m5]), (fa, cn 0 6 (aup (aup (aup (aup (aup fa0 0 num) 1 kd) 2 (n / 10)) 3 g1) 4 s1))]) rfl dX4_layFor_51 ?_
  refine v_aload_n (pc := 52) 1 rfl dX4_layFor_52 ?_
  refine v_get (pc := 53) (v := ar fa) 0 (Or.inr ⟨0, rfl⟩) fl_4_9_4 rfl dX4_layFor_53 ?_
  refine v_iconst (pc := 56) dX4_layFor_56 ?_
  refine v_aload_n (pc := 57) 2 rfl dX4_layFor_57 ?_
  refine v_get (pc := 58) (v := ai tt) 14 (Or.inl r0) fl_4_30_10 rfl dX4_layFor_58 ?_
  refine v_bipush (pc := 61) dX4_layFor_61 (by decide) ?_
  refine v_irem (pc := 63) (by omega) (by omega) (by unfold iB; omega) (by unfold iB; omega) dX4_layFor_63 ?_
  refine v_iast (pc := 64) 1 rfl (by omega) (by omega) (by decide) (ws2 := [(h, co 4 [ar fa, ai m0, ai m1, ai m2, ai m3, ai m4, ai m5]), (fa, cn 0 6 (aup (aup (aup (aup (aup (aup fa0 0 num) 1 kd) 2 (n / 10)) 3 g1) 4 s1) 5 (tt % 10)))]) rfl dX4_layFor_64 ?_
  refine v_aload_n (pc := 65) 1 rfl dX4_layFor_65 ?_
  refine v_iload_n (pc := 66) 4 rfl dX4_layFor_66 ?_
  refine v_put (pc := 67) 1 0 rfl fl_4_33_4 ck_4 ft_4_1 (okV_i _) (Nat.le_of_ble_eq_true rfl) (ws2 := [(h, co 4 [ar fa, ai n, ai m1, ai m2, ai m3, ai m4, ai m5]), (fa, cn 0 6 (aup (aup (aup (aup (aup (aup fa0 0 num) 1 kd) 2 (n / 10)) 3 g1) 4 s1) 5 (tt % 10)))]) rfl dX4_layFor_67 ?_
  refine v_aload_n (pc := 70) 1 rfl dX4_layFor_70 ?_
  refine v_bipush (pc := 71) dX4_layFor_71 (by decide) ?_
  refine v_aload_n (pc := 73) 3 rfl dX4_layFor_73 ?_
  refine v_get (pc := 74) (v := ai hn) 5 (Or.inl r6) fl_4_36_8 rfl dX4_layFor_74 ?_
  refine v_imul (pc := 77) dX4_layFor_77 ?_
  refine v_put (pc := 78) 2 0 rfl fl_4_39_4 ck_4 ft_4_2 (okV_i _) (Nat.le_of_ble_eq_true rfl) (ws2 := [(h, co 4 [ar fa, ai n, ai (10 * hn), ai m2, ai m3, ai m4, ai m5]), (fa, cn 0 6 (aup (aup (aup (aup (aup (aup fa0 0 num) 1 kd) 2 (n / 10)) 3 g1) 4 s1) 5 (tt % 10)))]) rfl dX4_layFor_78 ?_
  refine v_aload_n (pc := 81) 1 rfl dX4_layFor_81 ?_
  refine v_aload_n (pc := 82) 3 rfl dX4_layFor_82 ?_
  refine v_aload_n (pc := 83) 2 rfl dX4_layFor_83 ?_
  refine v_get (pc := 84) (v := ai tt) 14 (Or.inl r0) fl_4_30_10 rfl dX4_layFor_84 ?_
  refine v_callU (pc := 87) [] [0, 1] [(h, co 4 [ar fa, ai n, ai (10 * hn), ai m2, ai m3, ai m4, ai m5]), (fa, cn 0 6 (aup (aup (aup (aup (aup (aup fa0 0 num) 1 kd) 2 (n / 10)) 3 g1) 4 s1) 5 (tt % 10)))] (z := yX5_lean) (As := [ai tt]) (rest := [ar h]) (c_X5_lean_k8 pl ta kd num pv sk hn gl sc pu tt ) (c := 8) rfl (Or.inl r6) wl_X4_42 wsm_2 wi_X5_lean wk_X5_lean wv_X8_X5_lean_X5_lean wi_X5_lean wk_X5_lean wz_X5 mdo_X5_lean rfl (Nat.le_of_ble_eq_true rfl) ⟨Nat.le_of_ble_eq_true rfl, Nat.le_of_ble_eq_true rfl, Nat.le_of_ble_eq_true rfl, Nat.le_of_ble_eq_true rfl⟩ rfl rfl rfl rfl (by decide) (ro_cons (Or.inl r6) ro_nil) dX4_layFor_87 (fun u hu => ?_)
  show V x cX4_layFor RX4 7 (rmU 3 77 0 0) [(h, co 4 [ar fa, ai n, ai (10 * hn), ai m2, ai m3, ai m4, ai m5]), (fa, cn 0 6 (aup (aup (aup (aup (aup (aup fa0 0 num) 1 kd) 2 (n / 10)) 3 g1) 4 s1) 5 (tt % 10)))] 90 [(6, ar hq), (0, ar h), (1, ar wo), (2, ar pl), (3, ai n), (4, ai s1), (5, ai g1)] [ai 0, ar h] 0 0
  refine v_iload_n (pc := 90) 4 rfl dX4_layFor_90 ?_
  refine v_iconst (pc := 91) dX4_layFor_91 ?_
  refine v_idiv (pc := 92) (by omega) (by omega) (by unfold iB; omega) (by unfold iB; omega) dX4_layFor_92 ?_
  refine v_isub (pc := 93) dX4_layFor_93 ?_
  refine v_put (pc := 94) 3 0 rfl fl_4_46_4 ck_4 ft_4_3 (okV_i _) (Nat.le_of_ble_eq_true rfl) (ws2 := [(h, co 4 [ar fa, ai n, ai (10 * hn), ai (0 - (n / 2)), ai m3, ai m4, ai m5]), (fa, cn 0 6 (aup (aup (aup (aup (aup (aup fa0 0 num) 1 kd) 2 (n / 10)) 3 g1) 4 s1) 5 (tt % 10)))]) rfl dX4_layFor_94 ?_
  refine v_aload_n (pc := 97) 1 rfl dX4_layFor_97 ?_
  refine v_aload_n (pc := 98) 3 rfl dX4_layFor_98 ?_
  refine v_iload (pc := 99) 5 rfl dX4_layFor_99 ?_
  refine v_iload (pc := 101) 6 rfl dX4_layFor_101 ?_
  refine v_callU (pc := 103) [] [0, 1] [(h, co 4 [ar fa, ai n, ai (10 * hn), ai (0 - (n / 2)), ai m3, ai m4, ai m5]), (fa, cn 0 6 (aup (aup (aup (aup (aup (aup fa0 0 num) 1 kd) 2 (n / 10)) 3 g1) 4 s1) 5 (tt % 10)))] (z := yX5_unsureBy) (As := [ai s1, ai g1]) (rest := [ar h]) (c_X8_unsureBy_k8 pl ta kd num pv sk hn gl sc pu s1 g1 (by first | omega | assumption) (by first | omega | assumption)) (c := 8) rfl (Or.inl r6) wl_X4_49 wsm_0 wi_X5_unsureBy wk_X5_unsureBy wv_X8_X5_unsureBy_X8_unsureBy wi_X8_unsureBy wk_X8_unsureBy wz_X8 mdo_X5_unsureBy rfl (Nat.le_of_ble_eq_true rfl) ⟨Nat.le_of_ble_eq_true rfl, Nat.le_of_ble_eq_true rfl, Nat.le_of_ble_eq_true rfl, Nat.le_of_ble_eq_true rfl⟩ rfl rfl rfl rfl (by decide) (ro_cons (Or.inl r6) ro_nil) dX4_layFor_103 (fun u hu => ?_)
  show V x cX4_layFor RX4 7 (rmU 3 77 0 0) [(h, co 4 [ar fa, ai n, ai (10 * hn), ai (0 - (n / 2)), ai m3, ai m4, ai m5]), (fa, cn 0 6 (aup (aup (aup (aup (aup (aup fa0 0 num) 1 kd) 2 (n / 10)) 3 g1) 4 s1) 5 (tt % 10)))] 106 [(6, ar hq), (0, ar h), (1, ar wo), (2, ar pl), (3, ai n), (4, ai s1), (5, ai g1)] [ai (kUns s1 g1 / 2), ar h] 0 0
  refine v_put (pc := 106) 4 0 rfl fl_4_53_4 ck_4 ft_4_4 (okV_i _) (Nat.le_of_ble_eq_true rfl) (ws2 := [(h, co 4 [ar fa, ai n, ai (10 * hn), ai (0 - (n / 2)), ai (kUns s1 g1 / 2), ai m4, ai m5]), (fa, cn 0 6 (aup (aup (aup (aup (aup (aup fa0 0 num) 1 kd) 2 (n / 10)) 3 g1) 4 s1) 5 (tt % 10)))]) rfl dX4_layFor_106 ?_
  refine v_aload_n (pc := 109) 1 rfl dX4_layFor_109 ?_
  refine v_aload (pc := 110) 0 rfl dX4_layFor_110 ?_
  refine v_get (pc := 112) (v := ai wi) 0 (Or.inl r2) fl_4_56_3 rfl dX4_layFor_112 ?_
  refine v_put (pc := 115) 5 0 rfl fl_4_61_4 ck_4 ft_4_5 (okV_i _) (Nat.le_of_ble_eq_true rfl) (ws2 := [(h, co 4 [ar fa, ai n, ai (10 * hn), ai (0 - (n / 2)), ai (kUns s1 g1 / 2), ai wi, ai m5]), (fa, cn 0 6 (aup (aup (aup (aup (aup (aup fa0 0 num) 1 kd) 2 (n / 10)) 3 g1) 4 s1) 5 (tt % 10)))]) rfl dX4_layFor_115 ?_
  have hfa2 : ∀ k : Int, 0 ≤ k → k < 6 → (aup (aup (aup (aup (aup (aup fa0 0 num) 1 kd) 2 (n / 10)) 3 g1) 4 s1) 5 (tt % 10)) k = fbv num kd (n / 10) g1 s1 (tt % 10) k := by intro k k0 k1; unfold fbv; rcases (show k = 0 ∨ k = 1 ∨ k = 2 ∨ k = 3 ∨ k = 4 ∨ k = 5 by omega) with rfl | rfl | rfl | rfl | rfl | rfl <;> simp [aup]
  obtain ⟨fa2, hf2⟩ : ∃ z, z = (aup (aup (aup (aup (aup (aup fa0 0 num) 1 kd) 2 (n / 10)) 3 g1) 4 s1) 5 (tt % 10)) := ⟨_, rfl⟩
  rw [← hf2] at hfa2
  refine v_ws (ws2 := [(h, co 4 [ar fa, ai n, ai (10 * hn), ai (0 - (n / 2)), ai (kUns s1 g1 / 2), ai wi, ai m5]), (fa, cn 0 6 fa2)]) (by rw [hf2]) ?_
  have hbf : ∀ k : Int, 0 ≤ k → k < 6 → 0 ≤ fa2 k ∧ fa2 k ≤ 1000 := by intro k k0 k1; rw [hfa2 k k0 k1]; unfold fbv; (repeat' split) <;> omega
  refine v_aload_n (pc := 118) 1 rfl dX4_layFor_118 ?_
  refine v_aload (pc := 119) 0 rfl dX4_layFor_119 ?_
  refine v_iload_n (pc := 121) 4 rfl dX4_layFor_121 ?_
  refine v_aload_n (pc := 122) 1 rfl dX4_layFor_122 ?_
  refine v_get (pc := 123) (v := ar fa) 0 (Or.inr ⟨0, rfl⟩) fl_4_9_4 rfl dX4_layFor_123 ?_
  refine v_callV (pc := 126) [] [0, 1] [(h, co 4 [ar fa, ai n, ai (10 * hn), ai (0 - (n / 2)), ai (kUns s1 g1 / 2), ai wi, ai m5]), (fa, cn 0 6 fa2)] (As := [ai n, ar fa]) (rest := [ar h]) (c_X3_opensOf hq wi pa ns us sla ena cda n fa cd sl en fa2 (by first | omega | assumption) (by first | omega | assumption) (by assumption) (by exact fun m hm => hen fa2 m hm) (by exact hbf)) (c := 3) rfl (Or.inl r2) wl_X4_62 wi_X3_opensOf wv_X3_X3_opensOf_X3_opensOf wk_X3_opensOf wz_X3 md_X3_opensOf rfl (Nat.le_of_ble_eq_true rfl) ⟨Nat.le_of_ble_eq_true rfl, Nat.le_of_ble_eq_true rfl, Nat.le_of_ble_eq_true rfl, Nat.le_of_ble_eq_true rfl⟩ rfl rfl rfl rfl (by decide) (ro_cons (Or.inl r2) (ro_cons (Or.inl r3) (ro_cons (Or.inl r4) (ro_cons (Or.inl r5) (ro_cons (Or.inr ⟨1, rfl, by decide⟩) ro_nil))))) dX4_layFor_126 (fun u hu => ?_)
  show V x cX4_layFor RX4 7 (rmU 3 77 0 0) [(h, co 4 [ar fa, ai n, ai (10 * hn), ai (0 - (n / 2)), ai (kUns s1 g1 / 2), ai wi, ai m5]), (fa, cn 0 6 fa2)] 129 [(6, ar hq), (0, ar h), (1, ar wo), (2, ar pl), (3, ai n), (4, ai s1), (5, ai g1)] [ai (if 0 < opS fa2 cd sl en n ns.toNat then opS fa2 cd sl en n ns.toNat else 0), ar h] 0 0
  refine v_put (pc := 129) 6 0 rfl fl_4_66_4 ck_4 ft_4_6 (okV_i _) (Nat.le_of_ble_eq_true rfl) (ws2 := [(h, co 4 [ar fa, ai n, ai (10 * hn), ai (0 - (n / 2)), ai (kUns s1 g1 / 2), ai wi, ai (if 0 < opS fa2 cd sl en n ns.toNat then opS fa2 cd sl en n ns.toNat else 0)]), (fa, cn 0 6 fa2)]) rfl dX4_layFor_129 ?_
  exact hret fa2 _ _ _ _ _ (by exact hfa2) rfl rfl (Nat.le_of_ble_eq_true rfl) (Nat.le_of_ble_eq_true rfl) dX4_layFor_132
set_option maxHeartbeats 4000000 in
set_option maxRecDepth 100000 in
theorem c_X4_layFor_k0 {gS : sG} (h : Nat) (fa : Nat) (m0 : Int) (m1 : Int) (m2 : Int) (m3 : Int) (m4 : Int) (m5 : Int) (fa0 : Int → Int) (wo : Nat) (pls : Nat) (ins : Nat) (tap : Nat) (e3 : Nat) (e4 : Nat) (e5 : Nat) (e6 : Nat) (e7 : Nat) (e8 : Nat) (pc : Int) (ic : Int) (ts : Int) (sn : Int) (bn : Int) (tt : Int) (bar : Nat) (iv : Int → Option Nat) (hq : Nat) (wi : Int) (pa : Int) (ns : Int) (us : Int) (sla : Nat) (ena : Nat) (cda : Nat) (cd : Int → Int) (sl : Int → Int) (en : Int → Int) (pl : Nat) (ta : Nat) (kd : Int) (num : Int) (pv : Int) (sk : Int) (hn : Int) (gl : Int) (sc : Int) (pu : Int) (n : Int) (s1 : Int) (g1 : Int) (hhq : (ic = 0 ∧ hq = bar) ∨ ((1 ≤ ic ∧ ic ≤ 5) ∧ iv (ic - 1) = some hq)) (hns : 0 ≤ ns ∧ ns ≤ 10) (hnn : 0 ≤ n ∧ n ≤ 99) (hsl : ∀ k : Int, 0 ≤ k → k < ns → -200 ≤ sl k ∧ sl k ≤ 200) (hen : ∀ (b : Int → Int) (m : Nat), (m : Int) < ns → (0 ≤ frE en m ∧ frE en m ≤ en (m : Int) ∧ en (m : Int) ≤ 100) ∧ ∀ q : Nat, (q : Int) < en (m : Int) - frE en m → okC (evC b cd (frE en m) q) (cd (frE en m + (q : Int)))) (hs1 : 0 ≤ s1 ∧ s1 ≤ 20) (hg1 : 0 ≤ g1 ∧ g1 ≤ 9) (htt : 0 ≤ tt ∧ tt ≤ 10000) (hnum : 0 ≤ num ∧ num ≤ 5) (hkd : 0 ≤ kd ∧ kd ≤ 6) : Ct gS (S := Int → Int) yX4_layFor cX4_layFor 7 none 3 77 0 0 [ar h, ar wo, ar pl, ai n, ai s1, ai g1] [(h, co 4 [ar fa, ai m0, ai m1, ai m2, ai m3, ai m4, ai m5]), (fa, cn 0 6 fa0)] (fun q => q ∈ ([(wo, co 10 [ar pls, ar ins, ar tap, ar e3, ar e4, ar e5, ar e6, ar e7, ar e8, ai pc, ai ic, ai ts, ai sn, ai bn, ai tt, ar bar]), (ins, cq 2 5 iv), (hq, co 3 [ai wi, ai pa, ai ns, ai us, ar sla, ar ena, ar cda]), (cda, cn 0 100 cd), (sla, cn 0 10 sl), (ena, cn 0 10 en), (pl, co 0 [ar ta, ai kd, ai num, ai pv, ai sk, ai hn, ai gl, ai sc, ai pu])] : aW)) (fun u => ∀ k : Int, 0 ≤ k → k < 6 → u k = fbv num kd (n / 10) g1 s1 (tt % 10) k) (fun u => none) (fun u => [(h, co 4 [ar fa, ai n, ai (10 * hn), ai (pv - n / 2), ai (kUns s1 g1), ai wi, ai (if 0 < opS u cd sl en n ns.toNat then opS u cd sl en n ns.toNat else 0)]), (fa, cn 0 6 u)]) := by
  refine ct_V RX4 [(0, ar h), (1, ar wo), (2, ar pl), (3, ai n), (4, ai s1), (5, ai g1)] (by decide) rfl (Nat.le_of_ble_eq_true rfl) rfl (fun x hgS hnm hro hret => ?_)
  subst hgS
  have r0 := hro _ (mem_at 0 rfl)
  have r1 := hro _ (mem_at 1 rfl)
  have r2 := hro _ (mem_at 2 rfl)
  have r3 := hro _ (mem_at 3 rfl)
  have r4 := hro _ (mem_at 4 rfl)
  have r5 := hro _ (mem_at 5 rfl)
  have r6 := hro _ (mem_at 6 rfl)
  have htq : 0 ≤ tt % 4 ∧ tt % 4 < 4 := by omega
  show V x cX4_layFor RX4 7 (rmU 3 77 0 0) [(h, co 4 [ar fa, ai m0, ai m1, ai m2, ai m3, ai m4, ai m5]), (fa, cn 0 6 fa0)] 0 [(0, ar h), (1, ar wo), (2, ar pl), (3, ai n), (4, ai s1), (5, ai g1)] [] 0 0
  refine v_aload_n (pc := 0) 1 rfl dX4_layFor_0 ?_
  refine v_callV (pc := 1) [] [0, 1] [(h, co 4 [ar fa, ai m0, ai m1, ai m2, ai m3, ai m4, ai m5]), (fa, cn 0 6 fa0)] (As := []) (rest := []) (c_X10_holding wo pls ins tap e3 e4 e5 e6 e7 e8 pc ic ts sn bn tt bar iv hq (by first | omega | assumption)) (c := 10) rfl (Or.inl r0) wl_X4_15 wi_X10_holding wv_X10_X10_holding_X10_holding wk_X10_holding wz_X10 md_X10_holding rfl (Nat.le_of_ble_eq_true rfl) ⟨Nat.le_of_ble_eq_true rfl, Nat.le_of_ble_eq_true rfl, Nat.le_of_ble_eq_true rfl, Nat.le_of_ble_eq_true rfl⟩ rfl rfl rfl rfl (by decide) (ro_cons (Or.inl r0) (ro_cons (Or.inl r1) ro_nil)) dX4_layFor_1 (fun u hu => ?_)
  show V x cX4_layFor RX4 7 (rmU 3 77 0 0) [(h, co 4 [ar fa, ai m0, ai m1, ai m2, ai m3, ai m4, ai m5]), (fa, cn 0 6 fa0)] 4 [(0, ar h), (1, ar wo), (2, ar pl), (3, ai n), (4, ai s1), (5, ai g1)] [ar hq] 0 0
  refine v_astore (pc := 4) (L2 := [(6, ar hq), (0, ar h), (1, ar wo), (2, ar pl), (3, ai n), (4, ai s1), (5, ai g1)]) rfl (by decide) dX4_layFor_4 ?_
  refine v_aload_n (pc := 6) 1 rfl dX4_layFor_6 ?_
  refine v_get (pc := 7) (v := ar fa) 0 (Or.inr ⟨0, rfl⟩) fl_4_9_4 rfl dX4_layFor_7 ?_
  refine v_iconst (pc := 10) dX4_layFor_10 ?_
  refine v_aload_n (pc := 11) 3 rfl dX4_layFor_11 ?_
  refine v_get (pc := 12) (v := ai num) 2 (Or.inl r6) fl_4_21_0 rfl dX4_layFor_12 ?_
  refine v_iast (pc := 15) 1 rfl (by omega) (by omega) (by decide) (ws2 := [(h, co 4 [ar fa, ai m0, ai m1, ai m2, ai m3, ai m4, ai m5]), (fa, cn 0 6 (aup fa0 0 num))]) rfl dX4_layFor_15 ?_
  refine v_aload_n (pc := 16) 1 rfl dX4_layFor_16 ?_
  refine v_get (pc := 17) (v := ar fa) 0 (Or.inr ⟨0, rfl⟩) fl_4_9_4 rfl dX4_layFor_17 ?_
  refine v_iconst (pc := 20) dX4_layFor_20 ?_
  refine v_aload_n (pc := 21) 3 rfl dX4_layFor_21 ?_
  refine v_get (pc := 22) (v := ai kd) 1 (Or.inl r6) fl_4_27_0 rfl dX4_layFor_22 ?_
  refine v_iast (pc := 25) 1 rfl (by omega) (by omega) (by decide) (ws2 := [(h, co 4 [ar fa, ai m0, ai m1, ai m2, ai m3, ai m4, ai m5]), (fa, cn 0 6 (aup (aup fa0 0 num) 1 kd))]) rfl dX4_layFor_25 ?_
  refine v_aload_n (pc := 26) 1 rfl dX4_layFor_26 ?_
  refine v_get (pc := 27) (v := ar fa) 0 (Or.inr ⟨0, rfl⟩) fl_4_9_4 rfl dX4_layFor_27 ?_
  refine v_iconst (pc := 30) dX4_layFor_30 ?_
  refine v_iload_n (pc := 31) 4 rfl dX4_layFor_31 ?_
  refine v_bipush (pc := 32) dX4_layFor_32 (by decide) ?_
  refine v_idiv (pc := 34) (by omega) (by omega) (by unfold iB; omega) (by unfold iB; omega) dX4_layFor_34 ?_
  refine v_iast (pc := 35) 1 rfl (by omega) (by omega) (by decide) (ws2 := [(h, co 4 [ar fa, ai m0, ai m1, ai m2, ai m3, ai m4, ai m5]), (fa, cn 0 6 (aup (aup (aup fa0 0 num) 1 kd) 2 (n / 10)))]) rfl dX4_layFor_35 ?_
  refine v_aload_n (pc := 36) 1 rfl dX4_layFor_36 ?_
  refine v_get (pc := 37) (v := ar fa) 0 (Or.inr ⟨0, rfl⟩) fl_4_9_4 rfl dX4_layFor_37 ?_
  refine v_iconst (pc := 40) dX4_layFor_40 ?_
  refine v_iload (pc := 41) 6 rfl dX4_layFor_41 ?_
  refine v_iast (pc := 43) 1 rfl (by omega) (by omega) (by decide) (ws2 := [(h, co 4 [ar fa, ai m0, ai m1, ai m2, ai m3, ai m4, ai m5]), (fa, cn 0 6 (aup (aup (aup (aup fa0 0 num) 1 kd) 2 (n / 10)) 3 g1))]) rfl dX4_layFor_43 ?_
  refine v_aload_n (pc := 44) 1 rfl dX4_layFor_44 ?_
  refine v_get (pc := 45) (v := ar fa) 0 (Or.inr ⟨0, rfl⟩) fl_4_9_4 rfl dX4_layFor_45 ?_
  refine v_iconst (pc := 48) dX4_layFor_48 ?_
  refine v_iload (pc := 49) 5 rfl dX4_layFor_49 ?_
  refine v_iast (pc := 51) 1 rfl (by omega) (by omega) (by decide) (ws2 := [(h, co 4 [ar fa, ai m0, ai m1, ai m2, ai m3, ai m4, ai m5]), (fa, cn 0 6 (aup (aup (aup (aup (aup fa0 0 num) 1 kd) 2 (n / 10)) 3 g1) 4 s1))]) rfl dX4_layFor_51 ?_
  refine v_aload_n (pc := 52) 1 rfl dX4_layFor_52 ?_
  refine v_get (pc := 53) (v := ar fa) 0 (Or.inr ⟨0, rfl⟩) fl_4_9_4 rfl dX4_layFor_53 ?_
  refine v_iconst (pc := 56) dX4_layFor_56 ?_
  refine v_aload_n (pc := 57) 2 rfl dX4_layFor_57 ?_
  refine v_get (pc := 58) (v := ai tt) 14 (Or.inl r0) fl_4_30_10 rfl dX4_layFor_58 ?_
  refine v_bipush (pc := 61) dX4_layFor_61 (by decide) ?_
  refine v_irem (pc := 63) (by omega) (by omega) (by unfold iB; omega) (by unfold iB; omega) dX4_layFor_63 ?_
  refine v_iast (pc := 64) 1 rfl (by omega) (by omega) (by decide) (ws2 := [(h, co 4 [ar fa, ai m0, ai m1, ai m2, ai m3, ai m4, ai m5]), (fa, cn 0 6 (aup (aup (aup (aup (aup (aup fa0 0 num) 1 kd) 2 (n / 10)) 3 g1) 4 s1) 5 (tt % 10)))]) rfl dX4_layFor_64 ?_
  refine v_aload_n (pc := 65) 1 rfl dX4_layFor_65 ?_
  refine v_iload_n (pc := 66) 4 rfl dX4_layFor_66 ?_
  refine v_put (pc := 67) 1 0 rfl fl_4_33_4 ck_4 ft_4_1 (okV_i _) (Nat.le_of_ble_eq_true rfl) (ws2 := [(h, co 4 [ar fa, ai n, ai m1, ai m2, ai m3, ai m4, ai m5]), (fa, cn 0 6 (aup (aup (aup (aup (aup (aup fa0 0 num) 1 kd) 2 (n / 10)) 3 g1) 4 s1) 5 (tt % 10)))]) rfl dX4_layFor_67 ?_
  refine v_aload_n (pc := 70) 1 rfl dX4_layFor_70 ?_
  refine v_bipush (pc := 71) dX4_layFor_71 (by decide) ?_
  refine v_aload_n (pc := 73) 3 rfl dX4_layFor_73 ?_
  refine v_get (pc := 74) (v := ai hn) 5 (Or.inl r6) fl_4_36_0 rfl dX4_layFor_74 ?_
  refine v_imul (pc := 77) dX4_layFor_77 ?_
  refine v_put (pc := 78) 2 0 rfl fl_4_39_4 ck_4 ft_4_2 (okV_i _) (Nat.le_of_ble_eq_true rfl) (ws2 := [(h, co 4 [ar fa, ai n, ai (10 * hn), ai m2, ai m3, ai m4, ai m5]), (fa, cn 0 6 (aup (aup (aup (aup (aup (aup fa0 0 num) 1 kd) 2 (n / 10)) 3 g1) 4 s1) 5 (tt % 10)))]) rfl dX4_layFor_78 ?_
  refine v_aload_n (pc := 81) 1 rfl dX4_layFor_81 ?_
  refine v_aload_n (pc := 82) 3 rfl dX4_layFor_82 ?_
  refine v_aload_n (pc := 83) 2 rfl dX4_layFor_83 ?_
  refine v_get (pc := 84) (v := ai tt) 14 (Or.inl r0) fl_4_30_10 rfl dX4_layFor_84 ?_
  refine v_callU (pc := 87) [] [0, 1] [(h, co 4 [ar fa, ai n, ai (10 * hn), ai m2, ai m3, ai m4, ai m5]), (fa, cn 0 6 (aup (aup (aup (aup (aup (aup fa0 0 num) 1 kd) 2 (n / 10)) 3 g1) 4 s1) 5 (tt % 10)))] (z := yX5_lean) (As := [ai tt]) (rest := [ar h]) (c_X0_lean_k0 pl ta kd num pv sk hn gl sc pu tt ) (c := 0) rfl (Or.inl r6) wl_X4_42 wsm_2 wi_X5_lean wk_X5_lean wv_X0_X5_lean_X0_lean wi_X0_lean wk_X0_lean wz_X0 mdo_X5_lean rfl (Nat.le_of_ble_eq_true rfl) ⟨Nat.le_of_ble_eq_true rfl, Nat.le_of_ble_eq_true rfl, Nat.le_of_ble_eq_true rfl, Nat.le_of_ble_eq_true rfl⟩ rfl rfl rfl rfl (by decide) (ro_cons (Or.inl r6) ro_nil) dX4_layFor_87 (fun u hu => ?_)
  show V x cX4_layFor RX4 7 (rmU 3 77 0 0) [(h, co 4 [ar fa, ai n, ai (10 * hn), ai m2, ai m3, ai m4, ai m5]), (fa, cn 0 6 (aup (aup (aup (aup (aup (aup fa0 0 num) 1 kd) 2 (n / 10)) 3 g1) 4 s1) 5 (tt % 10)))] 90 [(6, ar hq), (0, ar h), (1, ar wo), (2, ar pl), (3, ai n), (4, ai s1), (5, ai g1)] [ai pv, ar h] 0 0
  refine v_iload_n (pc := 90) 4 rfl dX4_layFor_90 ?_
  refine v_iconst (pc := 91) dX4_layFor_91 ?_
  refine v_idiv (pc := 92) (by omega) (by omega) (by unfold iB; omega) (by unfold iB; omega) dX4_layFor_92 ?_
  refine v_isub (pc := 93) dX4_layFor_93 ?_
  refine v_put (pc := 94) 3 0 rfl fl_4_46_4 ck_4 ft_4_3 (okV_i _) (Nat.le_of_ble_eq_true rfl) (ws2 := [(h, co 4 [ar fa, ai n, ai (10 * hn), ai (pv - (n / 2)), ai m3, ai m4, ai m5]), (fa, cn 0 6 (aup (aup (aup (aup (aup (aup fa0 0 num) 1 kd) 2 (n / 10)) 3 g1) 4 s1) 5 (tt % 10)))]) rfl dX4_layFor_94 ?_
  refine v_aload_n (pc := 97) 1 rfl dX4_layFor_97 ?_
  refine v_aload_n (pc := 98) 3 rfl dX4_layFor_98 ?_
  refine v_iload (pc := 99) 5 rfl dX4_layFor_99 ?_
  refine v_iload (pc := 101) 6 rfl dX4_layFor_101 ?_
  refine v_callU (pc := 103) [] [0, 1] [(h, co 4 [ar fa, ai n, ai (10 * hn), ai (pv - (n / 2)), ai m3, ai m4, ai m5]), (fa, cn 0 6 (aup (aup (aup (aup (aup (aup fa0 0 num) 1 kd) 2 (n / 10)) 3 g1) 4 s1) 5 (tt % 10)))] (z := yX5_unsureBy) (As := [ai s1, ai g1]) (rest := [ar h]) (c_X5_unsureBy_k0 pl ta kd num pv sk hn gl sc pu s1 g1 (by first | omega | assumption) (by first | omega | assumption)) (c := 0) rfl (Or.inl r6) wl_X4_49 wsm_0 wi_X5_unsureBy wk_X5_unsureBy wv_X0_X5_unsureBy_X5_unsureBy wi_X5_unsureBy wk_X5_unsureBy wz_X5 mdo_X5_unsureBy rfl (Nat.le_of_ble_eq_true rfl) ⟨Nat.le_of_ble_eq_true rfl, Nat.le_of_ble_eq_true rfl, Nat.le_of_ble_eq_true rfl, Nat.le_of_ble_eq_true rfl⟩ rfl rfl rfl rfl (by decide) (ro_cons (Or.inl r6) ro_nil) dX4_layFor_103 (fun u hu => ?_)
  show V x cX4_layFor RX4 7 (rmU 3 77 0 0) [(h, co 4 [ar fa, ai n, ai (10 * hn), ai (pv - (n / 2)), ai m3, ai m4, ai m5]), (fa, cn 0 6 (aup (aup (aup (aup (aup (aup fa0 0 num) 1 kd) 2 (n / 10)) 3 g1) 4 s1) 5 (tt % 10)))] 106 [(6, ar hq), (0, ar h), (1, ar wo), (2, ar pl), (3, ai n), (4, ai s1), (5, ai g1)] [ai (kUns s1 g1), ar h] 0 0
  refine v_put (pc := 106) 4 0 rfl fl_4_53_4 ck_4 ft_4_4 (okV_i _) (Nat.le_of_ble_eq_true rfl) (ws2 := [(h, co 4 [ar fa, ai n, ai (10 * hn), ai (pv - (n / 2)), ai (kUns s1 g1), ai m4, ai m5]), (fa, cn 0 6 (aup (aup (aup (aup (aup (aup fa0 0 num) 1 kd) 2 (n / 10)) 3 g1) 4 s1) 5 (tt % 10)))]) rfl dX4_layFor_106 ?_
  refine v_aload_n (pc := 109) 1 rfl dX4_layFor_109 ?_
  refine v_aload (pc := 110) 0 rfl dX4_layFor_110 ?_
  refine v_get (pc := 112) (v := ai wi) 0 (Or.inl r2) fl_4_56_3 rfl dX4_layFor_112 ?_
  refine v_put (pc := 115) 5 0 rfl fl_4_61_4 ck_4 ft_4_5 (okV_i _) (Nat.le_of_ble_eq_true rfl) (ws2 := [(h, co 4 [ar fa, ai n, ai (10 * hn), ai (pv - (n / 2)), ai (kUns s1 g1), ai wi, ai m5]), (fa, cn 0 6 (aup (aup (aup (aup (aup (aup fa0 0 num) 1 kd) 2 (n / 10)) 3 g1) 4 s1) 5 (tt % 10)))]) rfl dX4_layFor_115 ?_
  have hfa2 : ∀ k : Int, 0 ≤ k → k < 6 → (aup (aup (aup (aup (aup (aup fa0 0 num) 1 kd) 2 (n / 10)) 3 g1) 4 s1) 5 (tt % 10)) k = fbv num kd (n / 10) g1 s1 (tt % 10) k := by intro k k0 k1; unfold fbv; rcases (show k = 0 ∨ k = 1 ∨ k = 2 ∨ k = 3 ∨ k = 4 ∨ k = 5 by omega) with rfl | rfl | rfl | rfl | rfl | rfl <;> simp [aup]
  obtain ⟨fa2, hf2⟩ : ∃ z, z = (aup (aup (aup (aup (aup (aup fa0 0 num) 1 kd) 2 (n / 10)) 3 g1) 4 s1) 5 (tt % 10)) := ⟨_, rfl⟩
  rw [← hf2] at hfa2
  refine v_ws (ws2 := [(h, co 4 [ar fa, ai n, ai (10 * hn), ai (pv - (n / 2)), ai (kUns s1 g1), ai wi, ai m5]), (fa, cn 0 6 fa2)]) (by rw [hf2]) ?_
  have hbf : ∀ k : Int, 0 ≤ k → k < 6 → 0 ≤ fa2 k ∧ fa2 k ≤ 1000 := by intro k k0 k1; rw [hfa2 k k0 k1]; unfold fbv; (repeat' split) <;> omega
  refine v_aload_n (pc := 118) 1 rfl dX4_layFor_118 ?_
  refine v_aload (pc := 119) 0 rfl dX4_layFor_119 ?_
  refine v_iload_n (pc := 121) 4 rfl dX4_layFor_121 ?_
  refine v_aload_n (pc := 122) 1 rfl dX4_layFor_122 ?_
  refine v_get (pc := 123) (v := ar fa) 0 (Or.inr ⟨0, rfl⟩) fl_4_9_4 rfl dX4_layFor_123 ?_
  refine v_callV (pc := 126) [] [0, 1] [(h, co 4 [ar fa, ai n, ai (10 * hn), ai (pv - (n / 2)), ai (kUns s1 g1), ai wi, ai m5]), (fa, cn 0 6 fa2)] (As := [ai n, ar fa]) (rest := [ar h]) (c_X3_opensOf hq wi pa ns us sla ena cda n fa cd sl en fa2 (by first | omega | assumption) (by first | omega | assumption) (by assumption) (by exact fun m hm => hen fa2 m hm) (by exact hbf)) (c := 3) rfl (Or.inl r2) wl_X4_62 wi_X3_opensOf wv_X3_X3_opensOf_X3_opensOf wk_X3_opensOf wz_X3 md_X3_opensOf rfl (Nat.le_of_ble_eq_true rfl) ⟨Nat.le_of_ble_eq_true rfl, Nat.le_of_ble_eq_true rfl, Nat.le_of_ble_eq_true rfl, Nat.le_of_ble_eq_true rfl⟩ rfl rfl rfl rfl (by decide) (ro_cons (Or.inl r2) (ro_cons (Or.inl r3) (ro_cons (Or.inl r4) (ro_cons (Or.inl r5) (ro_cons (Or.inr ⟨1, rfl, by decide⟩) ro_nil))))) dX4_layFor_126 (fun u hu => ?_)
  show V x cX4_layFor RX4 7 (rmU 3 77 0 0) [(h, co 4 [ar fa, ai n, ai (10 * hn), ai (pv - (n / 2)), ai (kUns s1 g1), ai wi, ai m5]), (fa, cn 0 6 fa2)] 129 [(6, ar hq), (0, ar h), (1, ar wo), (2, ar pl), (3, ai n), (4, ai s1), (5, ai g1)] [ai (if 0 < opS fa2 cd sl en n ns.toNat then opS fa2 cd sl en n ns.toNat else 0), ar h] 0 0
  refine v_put (pc := 129) 6 0 rfl fl_4_66_4 ck_4 ft_4_6 (okV_i _) (Nat.le_of_ble_eq_true rfl) (ws2 := [(h, co 4 [ar fa, ai n, ai (10 * hn), ai (pv - (n / 2)), ai (kUns s1 g1), ai wi, ai (if 0 < opS fa2 cd sl en n ns.toNat then opS fa2 cd sl en n ns.toNat else 0)]), (fa, cn 0 6 fa2)]) rfl dX4_layFor_129 ?_
  exact hret fa2 _ _ _ _ _ (by exact hfa2) rfl rfl (Nat.le_of_ble_eq_true rfl) (Nat.le_of_ble_eq_true rfl) dX4_layFor_132
set_option maxHeartbeats 4000000 in
set_option maxRecDepth 100000 in
theorem c_X4_layFor_k7 {gS : sG} (h : Nat) (fa : Nat) (m0 : Int) (m1 : Int) (m2 : Int) (m3 : Int) (m4 : Int) (m5 : Int) (fa0 : Int → Int) (wo : Nat) (pls : Nat) (ins : Nat) (tap : Nat) (e3 : Nat) (e4 : Nat) (e5 : Nat) (e6 : Nat) (e7 : Nat) (e8 : Nat) (pc : Int) (ic : Int) (ts : Int) (sn : Int) (bn : Int) (tt : Int) (bar : Nat) (iv : Int → Option Nat) (hq : Nat) (wi : Int) (pa : Int) (ns : Int) (us : Int) (sla : Nat) (ena : Nat) (cda : Nat) (cd : Int → Int) (sl : Int → Int) (en : Int → Int) (pl : Nat) (ta : Nat) (kd : Int) (num : Int) (pv : Int) (sk : Int) (hn : Int) (gl : Int) (sc : Int) (pu : Int) (n : Int) (s1 : Int) (g1 : Int) (hhq : (ic = 0 ∧ hq = bar) ∨ ((1 ≤ ic ∧ ic ≤ 5) ∧ iv (ic - 1) = some hq)) (hns : 0 ≤ ns ∧ ns ≤ 10) (hnn : 0 ≤ n ∧ n ≤ 99) (hsl : ∀ k : Int, 0 ≤ k → k < ns → -200 ≤ sl k ∧ sl k ≤ 200) (hen : ∀ (b : Int → Int) (m : Nat), (m : Int) < ns → (0 ≤ frE en m ∧ frE en m ≤ en (m : Int) ∧ en (m : Int) ≤ 100) ∧ ∀ q : Nat, (q : Int) < en (m : Int) - frE en m → okC (evC b cd (frE en m) q) (cd (frE en m + (q : Int)))) (hs1 : 0 ≤ s1 ∧ s1 ≤ 20) (hg1 : 0 ≤ g1 ∧ g1 ≤ 9) (htt : 0 ≤ tt ∧ tt ≤ 10000) (hnum : 0 ≤ num ∧ num ≤ 5) (hkd : 0 ≤ kd ∧ kd ≤ 6) : Ct gS (S := Int → Int) yX4_layFor cX4_layFor 7 none 3 77 0 0 [ar h, ar wo, ar pl, ai n, ai s1, ai g1] [(h, co 4 [ar fa, ai m0, ai m1, ai m2, ai m3, ai m4, ai m5]), (fa, cn 0 6 fa0)] (fun q => q ∈ ([(wo, co 10 [ar pls, ar ins, ar tap, ar e3, ar e4, ar e5, ar e6, ar e7, ar e8, ai pc, ai ic, ai ts, ai sn, ai bn, ai tt, ar bar]), (ins, cq 2 5 iv), (hq, co 3 [ai wi, ai pa, ai ns, ai us, ar sla, ar ena, ar cda]), (cda, cn 0 100 cd), (sla, cn 0 10 sl), (ena, cn 0 10 en), (pl, co 7 [ar ta, ai kd, ai num, ai pv, ai sk, ai hn, ai gl, ai sc, ai pu])] : aW)) (fun u => ∀ k : Int, 0 ≤ k → k < 6 → u k = fbv num kd (n / 10) g1 s1 (tt % 10) k) (fun u => none) (fun u => [(h, co 4 [ar fa, ai n, ai (10 * hn), ai ((-pv) - n / 2), ai (kUns s1 g1), ai wi, ai (if 0 < opS u cd sl en n ns.toNat then opS u cd sl en n ns.toNat else 0)]), (fa, cn 0 6 u)]) := by
  refine ct_V RX4 [(0, ar h), (1, ar wo), (2, ar pl), (3, ai n), (4, ai s1), (5, ai g1)] (by decide) rfl (Nat.le_of_ble_eq_true rfl) rfl (fun x hgS hnm hro hret => ?_)
  subst hgS
  have r0 := hro _ (mem_at 0 rfl)
  have r1 := hro _ (mem_at 1 rfl)
  have r2 := hro _ (mem_at 2 rfl)
  have r3 := hro _ (mem_at 3 rfl)
  have r4 := hro _ (mem_at 4 rfl)
  have r5 := hro _ (mem_at 5 rfl)
  have r6 := hro _ (mem_at 6 rfl)
  have htq : 0 ≤ tt % 4 ∧ tt % 4 < 4 := by omega
  show V x cX4_layFor RX4 7 (rmU 3 77 0 0) [(h, co 4 [ar fa, ai m0, ai m1, ai m2, ai m3, ai m4, ai m5]), (fa, cn 0 6 fa0)] 0 [(0, ar h), (1, ar wo), (2, ar pl), (3, ai n), (4, ai s1), (5, ai g1)] [] 0 0
  refine v_aload_n (pc := 0) 1 rfl dX4_layFor_0 ?_
  refine v_callV (pc := 1) [] [0, 1] [(h, co 4 [ar fa, ai m0, ai m1, ai m2, ai m3, ai m4, ai m5]), (fa, cn 0 6 fa0)] (As := []) (rest := []) (c_X10_holding wo pls ins tap e3 e4 e5 e6 e7 e8 pc ic ts sn bn tt bar iv hq (by first | omega | assumption)) (c := 10) rfl (Or.inl r0) wl_X4_15 wi_X10_holding wv_X10_X10_holding_X10_holding wk_X10_holding wz_X10 md_X10_holding rfl (Nat.le_of_ble_eq_true rfl) ⟨Nat.le_of_ble_eq_true rfl, Nat.le_of_ble_eq_true rfl, Nat.le_of_ble_eq_true rfl, Nat.le_of_ble_eq_true rfl⟩ rfl rfl rfl rfl (by decide) (ro_cons (Or.inl r0) (ro_cons (Or.inl r1) ro_nil)) dX4_layFor_1 (fun u hu => ?_)
  show V x cX4_layFor RX4 7 (rmU 3 77 0 0) [(h, co 4 [ar fa, ai m0, ai m1, ai m2, ai m3, ai m4, ai m5]), (fa, cn 0 6 fa0)] 4 [(0, ar h), (1, ar wo), (2, ar pl), (3, ai n), (4, ai s1), (5, ai g1)] [ar hq] 0 0
  refine v_astore (pc := 4) (L2 := [(6, ar hq), (0, ar h), (1, ar wo), (2, ar pl), (3, ai n), (4, ai s1), (5, ai g1)]) rfl (by decide) dX4_layFor_4 ?_
  refine v_aload_n (pc := 6) 1 rfl dX4_layFor_6 ?_
  refine v_get (pc := 7) (v := ar fa) 0 (Or.inr ⟨0, rfl⟩) fl_4_9_4 rfl dX4_layFor_7 ?_
  refine v_iconst (pc := 10) dX4_layFor_10 ?_
  refine v_aload_n (pc := 11) 3 rfl dX4_layFor_11 ?_
  refine v_get (pc := 12) (v := ai num) 2 (Or.inl r6) fl_4_21_7 rfl dX4_layFor_12 ?_
  refine v_iast (pc := 15) 1 rfl (by omega) (by omega) (by decide) (ws2 := [(h, co 4 [ar fa, ai m0, ai m1, ai m2, ai m3, ai m4, ai m5]), (fa, cn 0 6 (aup fa0 0 num))]) rfl dX4_layFor_15 ?_
  refine v_aload_n (pc := 16) 1 rfl dX4_layFor_16 ?_
  refine v_get (pc := 17) (v := ar fa) 0 (Or.inr ⟨0, rfl⟩) fl_4_9_4 rfl dX4_layFor_17 ?_
  refine v_iconst (pc := 20) dX4_layFor_20 ?_
  refine v_aload_n (pc := 21) 3 rfl dX4_layFor_21 ?_
  refine v_get (pc := 22) (v := ai kd) 1 (Or.inl r6) fl_4_27_7 rfl dX4_layFor_22 ?_
  refine v_iast (pc := 25) 1 rfl (by omega) (by omega) (by decide) (ws2 := [(h, co 4 [ar fa, ai m0, ai m1, ai m2, ai m3, ai m4, ai m5]), (fa, cn 0 6 (aup (aup fa0 0 num) 1 kd))]) rfl dX4_layFor_25 ?_
  refine v_aload_n (pc := 26) 1 rfl dX4_layFor_26 ?_
  refine v_get (pc := 27) (v := ar fa) 0 (Or.inr ⟨0, rfl⟩) fl_4_9_4 rfl dX4_layFor_27 ?_
  refine v_iconst (pc := 30) dX4_layFor_30 ?_
  refine v_iload_n (pc := 31) 4 rfl dX4_layFor_31 ?_
  refine v_bipush (pc := 32) dX4_layFor_32 (by decide) ?_
  refine v_idiv (pc := 34) (by omega) (by omega) (by unfold iB; omega) (by unfold iB; omega) dX4_layFor_34 ?_
  refine v_iast (pc := 35) 1 rfl (by omega) (by omega) (by decide) (ws2 := [(h, co 4 [ar fa, ai m0, ai m1, ai m2, ai m3, ai m4, ai m5]), (fa, cn 0 6 (aup (aup (aup fa0 0 num) 1 kd) 2 (n / 10)))]) rfl dX4_layFor_35 ?_
  refine v_aload_n (pc := 36) 1 rfl dX4_layFor_36 ?_
  refine v_get (pc := 37) (v := ar fa) 0 (Or.inr ⟨0, rfl⟩) fl_4_9_4 rfl dX4_layFor_37 ?_
  refine v_iconst (pc := 40) dX4_layFor_40 ?_
  refine v_iload (pc := 41) 6 rfl dX4_layFor_41 ?_
  refine v_iast (pc := 43) 1 rfl (by omega) (by omega) (by decide) (ws2 := [(h, co 4 [ar fa, ai m0, ai m1, ai m2, ai m3, ai m4, ai m5]), (fa, cn 0 6 (aup (aup (aup (aup fa0 0 num) 1 kd) 2 (n / 10)) 3 g1))]) rfl dX4_layFor_43 ?_
  refine v_aload_n (pc := 44) 1 rfl dX4_layFor_44 ?_
  refine v_get (pc := 45) (v := ar fa) 0 (Or.inr ⟨0, rfl⟩) fl_4_9_4 rfl dX4_layFor_45 ?_
  refine v_iconst (pc := 48) dX4_layFor_48 ?_
  refine v_iload (pc := 49) 5 rfl dX4_layFor_49 ?_
  refine v_iast (pc := 51) 1 rfl (by omega) (by omega) (by decide) (ws2 := [(h, co 4 [ar fa, ai m0, ai m1, ai m2, ai m3, ai m4, ai m5]), (fa, cn 0 6 (aup (aup (aup (aup (aup fa0 0 num) 1 kd) 2 (n / 10)) 3 g1) 4 s1))]) rfl dX4_layFor_51 ?_
  refine v_aload_n (pc := 52) 1 rfl dX4_layFor_52 ?_
  refine v_get (pc := 53) (v := ar fa) 0 (Or.inr ⟨0, rfl⟩) fl_4_9_4 rfl dX4_layFor_53 ?_
  refine v_iconst (pc := 56) dX4_layFor_56 ?_
  refine v_aload_n (pc := 57) 2 rfl dX4_layFor_57 ?_
  refine v_get (pc := 58) (v := ai tt) 14 (Or.inl r0) fl_4_30_10 rfl dX4_layFor_58 ?_
  refine v_bipush (pc := 61) dX4_layFor_61 (by decide) ?_
  refine v_irem (pc := 63) (by omega) (by omega) (by unfold iB; omega) (by unfold iB; omega) dX4_layFor_63 ?_
  refine v_iast (pc := 64) 1 rfl (by omega) (by omega) (by decide) (ws2 := [(h, co 4 [ar fa, ai m0, ai m1, ai m2, ai m3, ai m4, ai m5]), (fa, cn 0 6 (aup (aup (aup (aup (aup (aup fa0 0 num) 1 kd) 2 (n / 10)) 3 g1) 4 s1) 5 (tt % 10)))]) rfl dX4_layFor_64 ?_
  refine v_aload_n (pc := 65) 1 rfl dX4_layFor_65 ?_
  refine v_iload_n (pc := 66) 4 rfl dX4_layFor_66 ?_
  refine v_put (pc := 67) 1 0 rfl fl_4_33_4 ck_4 ft_4_1 (okV_i _) (Nat.le_of_ble_eq_true rfl) (ws2 := [(h, co 4 [ar fa, ai n, ai m1, ai m2, ai m3, ai m4, ai m5]), (fa, cn 0 6 (aup (aup (aup (aup (aup (aup fa0 0 num) 1 kd) 2 (n / 10)) 3 g1) 4 s1) 5 (tt % 10)))]) rfl dX4_layFor_67 ?_
  refine v_aload_n (pc := 70) 1 rfl dX4_layFor_70 ?_
  refine v_bipush (pc := 71) dX4_layFor_71 (by decide) ?_
  refine v_aload_n (pc := 73) 3 rfl dX4_layFor_73 ?_
  refine v_get (pc := 74) (v := ai hn) 5 (Or.inl r6) fl_4_36_7 rfl dX4_layFor_74 ?_
  refine v_imul (pc := 77) dX4_layFor_77 ?_
  refine v_put (pc := 78) 2 0 rfl fl_4_39_4 ck_4 ft_4_2 (okV_i _) (Nat.le_of_ble_eq_true rfl) (ws2 := [(h, co 4 [ar fa, ai n, ai (10 * hn), ai m2, ai m3, ai m4, ai m5]), (fa, cn 0 6 (aup (aup (aup (aup (aup (aup fa0 0 num) 1 kd) 2 (n / 10)) 3 g1) 4 s1) 5 (tt % 10)))]) rfl dX4_layFor_78 ?_
  refine v_aload_n (pc := 81) 1 rfl dX4_layFor_81 ?_
  refine v_aload_n (pc := 82) 3 rfl dX4_layFor_82 ?_
  refine v_aload_n (pc := 83) 2 rfl dX4_layFor_83 ?_
  refine v_get (pc := 84) (v := ai tt) 14 (Or.inl r0) fl_4_30_10 rfl dX4_layFor_84 ?_
  refine v_callU (pc := 87) [] [0, 1] [(h, co 4 [ar fa, ai n, ai (10 * hn), ai m2, ai m3, ai m4, ai m5]), (fa, cn 0 6 (aup (aup (aup (aup (aup (aup fa0 0 num) 1 kd) 2 (n / 10)) 3 g1) 4 s1) 5 (tt % 10)))] (z := yX5_lean) (As := [ai tt]) (rest := [ar h]) (c_X7_lean_k7 pl ta kd num pv sk hn gl sc pu tt ) (c := 7) rfl (Or.inl r6) wl_X4_42 wsm_2 wi_X5_lean wk_X5_lean wv_X7_X5_lean_X7_lean wi_X7_lean wk_X7_lean wz_X7 mdo_X5_lean rfl (Nat.le_of_ble_eq_true rfl) ⟨Nat.le_of_ble_eq_true rfl, Nat.le_of_ble_eq_true rfl, Nat.le_of_ble_eq_true rfl, Nat.le_of_ble_eq_true rfl⟩ rfl rfl rfl rfl (by decide) (ro_cons (Or.inl r6) ro_nil) dX4_layFor_87 (fun u hu => ?_)
  show V x cX4_layFor RX4 7 (rmU 3 77 0 0) [(h, co 4 [ar fa, ai n, ai (10 * hn), ai m2, ai m3, ai m4, ai m5]), (fa, cn 0 6 (aup (aup (aup (aup (aup (aup fa0 0 num) 1 kd) 2 (n / 10)) 3 g1) 4 s1) 5 (tt % 10)))] 90 [(6, ar hq), (0, ar h), (1, ar wo), (2, ar pl), (3, ai n), (4, ai s1), (5, ai g1)] [ai (-pv), ar h] 0 0
  refine v_iload_n (pc := 90) 4 rfl dX4_layFor_90 ?_
  refine v_iconst (pc := 91) dX4_layFor_91 ?_
  refine v_idiv (pc := 92) (by omega) (by omega) (by unfold iB; omega) (by unfold iB; omega) dX4_layFor_92 ?_
  refine v_isub (pc := 93) dX4_layFor_93 ?_
  refine v_put (pc := 94) 3 0 rfl fl_4_46_4 ck_4 ft_4_3 (okV_i _) (Nat.le_of_ble_eq_true rfl) (ws2 := [(h, co 4 [ar fa, ai n, ai (10 * hn), ai ((-pv) - (n / 2)), ai m3, ai m4, ai m5]), (fa, cn 0 6 (aup (aup (aup (aup (aup (aup fa0 0 num) 1 kd) 2 (n / 10)) 3 g1) 4 s1) 5 (tt % 10)))]) rfl dX4_layFor_94 ?_
  refine v_aload_n (pc := 97) 1 rfl dX4_layFor_97 ?_
  refine v_aload_n (pc := 98) 3 rfl dX4_layFor_98 ?_
  refine v_iload (pc := 99) 5 rfl dX4_layFor_99 ?_
  refine v_iload (pc := 101) 6 rfl dX4_layFor_101 ?_
  refine v_callU (pc := 103) [] [0, 1] [(h, co 4 [ar fa, ai n, ai (10 * hn), ai ((-pv) - (n / 2)), ai m3, ai m4, ai m5]), (fa, cn 0 6 (aup (aup (aup (aup (aup (aup fa0 0 num) 1 kd) 2 (n / 10)) 3 g1) 4 s1) 5 (tt % 10)))] (z := yX5_unsureBy) (As := [ai s1, ai g1]) (rest := [ar h]) (c_X5_unsureBy_k7 pl ta kd num pv sk hn gl sc pu s1 g1 (by first | omega | assumption) (by first | omega | assumption)) (c := 7) rfl (Or.inl r6) wl_X4_49 wsm_0 wi_X5_unsureBy wk_X5_unsureBy wv_X7_X5_unsureBy_X5_unsureBy wi_X5_unsureBy wk_X5_unsureBy wz_X5 mdo_X5_unsureBy rfl (Nat.le_of_ble_eq_true rfl) ⟨Nat.le_of_ble_eq_true rfl, Nat.le_of_ble_eq_true rfl, Nat.le_of_ble_eq_true rfl, Nat.le_of_ble_eq_true rfl⟩ rfl rfl rfl rfl (by decide) (ro_cons (Or.inl r6) ro_nil) dX4_layFor_103 (fun u hu => ?_)
  show V x cX4_layFor RX4 7 (rmU 3 77 0 0) [(h, co 4 [ar fa, ai n, ai (10 * hn), ai ((-pv) - (n / 2)), ai m3, ai m4, ai m5]), (fa, cn 0 6 (aup (aup (aup (aup (aup (aup fa0 0 num) 1 kd) 2 (n / 10)) 3 g1) 4 s1) 5 (tt % 10)))] 106 [(6, ar hq), (0, ar h), (1, ar wo), (2, ar pl), (3, ai n), (4, ai s1), (5, ai g1)] [ai (kUns s1 g1), ar h] 0 0
  refine v_put (pc := 106) 4 0 rfl fl_4_53_4 ck_4 ft_4_4 (okV_i _) (Nat.le_of_ble_eq_true rfl) (ws2 := [(h, co 4 [ar fa, ai n, ai (10 * hn), ai ((-pv) - (n / 2)), ai (kUns s1 g1), ai m4, ai m5]), (fa, cn 0 6 (aup (aup (aup (aup (aup (aup fa0 0 num) 1 kd) 2 (n / 10)) 3 g1) 4 s1) 5 (tt % 10)))]) rfl dX4_layFor_106 ?_
  refine v_aload_n (pc := 109) 1 rfl dX4_layFor_109 ?_
  refine v_aload (pc := 110) 0 rfl dX4_layFor_110 ?_
  refine v_get (pc := 112) (v := ai wi) 0 (Or.inl r2) fl_4_56_3 rfl dX4_layFor_112 ?_
  refine v_put (pc := 115) 5 0 rfl fl_4_61_4 ck_4 ft_4_5 (okV_i _) (Nat.le_of_ble_eq_true rfl) (ws2 := [(h, co 4 [ar fa, ai n, ai (10 * hn), ai ((-pv) - (n / 2)), ai (kUns s1 g1), ai wi, ai m5]), (fa, cn 0 6 (aup (aup (aup (aup (aup (aup fa0 0 num) 1 kd) 2 (n / 10)) 3 g1) 4 s1) 5 (tt % 10)))]) rfl dX4_layFor_115 ?_
  have hfa2 : ∀ k : Int, 0 ≤ k → k < 6 → (aup (aup (aup (aup (aup (aup fa0 0 num) 1 kd) 2 (n / 10)) 3 g1) 4 s1) 5 (tt % 10)) k = fbv num kd (n / 10) g1 s1 (tt % 10) k := by intro k k0 k1; unfold fbv; rcases (show k = 0 ∨ k = 1 ∨ k = 2 ∨ k = 3 ∨ k = 4 ∨ k = 5 by omega) with rfl | rfl | rfl | rfl | rfl | rfl <;> simp [aup]
  obtain ⟨fa2, hf2⟩ : ∃ z, z = (aup (aup (aup (aup (aup (aup fa0 0 num) 1 kd) 2 (n / 10)) 3 g1) 4 s1) 5 (tt % 10)) := ⟨_, rfl⟩
  rw [← hf2] at hfa2
  refine v_ws (ws2 := [(h, co 4 [ar fa, ai n, ai (10 * hn), ai ((-pv) - (n / 2)), ai (kUns s1 g1), ai wi, ai m5]), (fa, cn 0 6 fa2)]) (by rw [hf2]) ?_
  have hbf : ∀ k : Int, 0 ≤ k → k < 6 → 0 ≤ fa2 k ∧ fa2 k ≤ 1000 := by intro k k0 k1; rw [hfa2 k k0 k1]; unfold fbv; (repeat' split) <;> omega
  refine v_aload_n (pc := 118) 1 rfl dX4_layFor_118 ?_
  refine v_aload (pc := 119) 0 rfl dX4_layFor_119 ?_
  refine v_iload_n (pc := 121) 4 rfl dX4_layFor_121 ?_
  refine v_aload_n (pc := 122) 1 rfl dX4_layFor_122 ?_
  refine v_get (pc := 123) (v := ar fa) 0 (Or.inr ⟨0, rfl⟩) fl_4_9_4 rfl dX4_layFor_123 ?_
  refine v_callV (pc := 126) [] [0, 1] [(h, co 4 [ar fa, ai n, ai (10 * hn), ai ((-pv) - (n / 2)), ai (kUns s1 g1), ai wi, ai m5]), (fa, cn 0 6 fa2)] (As := [ai n, ar fa]) (rest := [ar h]) (c_X3_opensOf hq wi pa ns us sla ena cda n fa cd sl en fa2 (by first | omega | assumption) (by first | omega | assumption) (by assumption) (by exact fun m hm => hen fa2 m hm) (by exact hbf)) (c := 3) rfl (Or.inl r2) wl_X4_62 wi_X3_opensOf wv_X3_X3_opensOf_X3_opensOf wk_X3_opensOf wz_X3 md_X3_opensOf rfl (Nat.le_of_ble_eq_true rfl) ⟨Nat.le_of_ble_eq_true rfl, Nat.le_of_ble_eq_true rfl, Nat.le_of_ble_eq_true rfl, Nat.le_of_ble_eq_true rfl⟩ rfl rfl rfl rfl (by decide) (ro_cons (Or.inl r2) (ro_cons (Or.inl r3) (ro_cons (Or.inl r4) (ro_cons (Or.inl r5) (ro_cons (Or.inr ⟨1, rfl, by decide⟩) ro_nil))))) dX4_layFor_126 (fun u hu => ?_)
  show V x cX4_layFor RX4 7 (rmU 3 77 0 0) [(h, co 4 [ar fa, ai n, ai (10 * hn), ai ((-pv) - (n / 2)), ai (kUns s1 g1), ai wi, ai m5]), (fa, cn 0 6 fa2)] 129 [(6, ar hq), (0, ar h), (1, ar wo), (2, ar pl), (3, ai n), (4, ai s1), (5, ai g1)] [ai (if 0 < opS fa2 cd sl en n ns.toNat then opS fa2 cd sl en n ns.toNat else 0), ar h] 0 0
  refine v_put (pc := 129) 6 0 rfl fl_4_66_4 ck_4 ft_4_6 (okV_i _) (Nat.le_of_ble_eq_true rfl) (ws2 := [(h, co 4 [ar fa, ai n, ai (10 * hn), ai ((-pv) - (n / 2)), ai (kUns s1 g1), ai wi, ai (if 0 < opS fa2 cd sl en n ns.toNat then opS fa2 cd sl en n ns.toNat else 0)]), (fa, cn 0 6 fa2)]) rfl dX4_layFor_129 ?_
  exact hret fa2 _ _ _ _ _ (by exact hfa2) rfl rfl (Nat.le_of_ble_eq_true rfl) (Nat.le_of_ble_eq_true rfl) dX4_layFor_132
set_option maxHeartbeats 4000000 in
set_option maxRecDepth 100000 in
theorem c_X4_layFor_k1 {gS : sG} (h : Nat) (fa : Nat) (m0 : Int) (m1 : Int) (m2 : Int) (m3 : Int) (m4 : Int) (m5 : Int) (fa0 : Int → Int) (wo : Nat) (pls : Nat) (ins : Nat) (tap : Nat) (e3 : Nat) (e4 : Nat) (e5 : Nat) (e6 : Nat) (e7 : Nat) (e8 : Nat) (pc : Int) (ic : Int) (ts : Int) (sn : Int) (bn : Int) (tt : Int) (bar : Nat) (iv : Int → Option Nat) (hq : Nat) (wi : Int) (pa : Int) (ns : Int) (us : Int) (sla : Nat) (ena : Nat) (cda : Nat) (cd : Int → Int) (sl : Int → Int) (en : Int → Int) (pl : Nat) (ta : Nat) (kd : Int) (num : Int) (pv : Int) (sk : Int) (hn : Int) (gl : Int) (sc : Int) (pu : Int) (n : Int) (s1 : Int) (g1 : Int) (hhq : (ic = 0 ∧ hq = bar) ∨ ((1 ≤ ic ∧ ic ≤ 5) ∧ iv (ic - 1) = some hq)) (hns : 0 ≤ ns ∧ ns ≤ 10) (hnn : 0 ≤ n ∧ n ≤ 99) (hsl : ∀ k : Int, 0 ≤ k → k < ns → -200 ≤ sl k ∧ sl k ≤ 200) (hen : ∀ (b : Int → Int) (m : Nat), (m : Int) < ns → (0 ≤ frE en m ∧ frE en m ≤ en (m : Int) ∧ en (m : Int) ≤ 100) ∧ ∀ q : Nat, (q : Int) < en (m : Int) - frE en m → okC (evC b cd (frE en m) q) (cd (frE en m + (q : Int)))) (hs1 : 0 ≤ s1 ∧ s1 ≤ 20) (hg1 : 0 ≤ g1 ∧ g1 ≤ 9) (htt : 0 ≤ tt ∧ tt ≤ 10000) (hnum : 0 ≤ num ∧ num ≤ 5) (hkd : 0 ≤ kd ∧ kd ≤ 6) : Ct gS (S := Int → Int) yX4_layFor cX4_layFor 7 none 3 77 0 0 [ar h, ar wo, ar pl, ai n, ai s1, ai g1] [(h, co 4 [ar fa, ai m0, ai m1, ai m2, ai m3, ai m4, ai m5]), (fa, cn 0 6 fa0)] (fun q => q ∈ ([(wo, co 10 [ar pls, ar ins, ar tap, ar e3, ar e4, ar e5, ar e6, ar e7, ar e8, ai pc, ai ic, ai ts, ai sn, ai bn, ai tt, ar bar]), (ins, cq 2 5 iv), (hq, co 3 [ai wi, ai pa, ai ns, ai us, ar sla, ar ena, ar cda]), (cda, cn 0 100 cd), (sla, cn 0 10 sl), (ena, cn 0 10 en), (pl, co 1 [ar ta, ai kd, ai num, ai pv, ai sk, ai hn, ai gl, ai sc, ai pu])] : aW)) (fun u => ∀ k : Int, 0 ≤ k → k < 6 → u k = fbv num kd (n / 10) g1 s1 (tt % 10) k) (fun u => none) (fun u => [(h, co 4 [ar fa, ai n, ai (10 * hn), ai (0 - n / 2), ai (kUns s1 0 / 2), ai wi, ai (if 0 < opS u cd sl en n ns.toNat then opS u cd sl en n ns.toNat else 0)]), (fa, cn 0 6 u)]) := by
  refine ct_V RX4 [(0, ar h), (1, ar wo), (2, ar pl), (3, ai n), (4, ai s1), (5, ai g1)] (by decide) rfl (Nat.le_of_ble_eq_true rfl) rfl (fun x hgS hnm hro hret => ?_)
  subst hgS
  have r0 := hro _ (mem_at 0 rfl)
  have r1 := hro _ (mem_at 1 rfl)
  have r2 := hro _ (mem_at 2 rfl)
  have r3 := hro _ (mem_at 3 rfl)
  have r4 := hro _ (mem_at 4 rfl)
  have r5 := hro _ (mem_at 5 rfl)
  have r6 := hro _ (mem_at 6 rfl)
  have htq : 0 ≤ tt % 4 ∧ tt % 4 < 4 := by omega
  show V x cX4_layFor RX4 7 (rmU 3 77 0 0) [(h, co 4 [ar fa, ai m0, ai m1, ai m2, ai m3, ai m4, ai m5]), (fa, cn 0 6 fa0)] 0 [(0, ar h), (1, ar wo), (2, ar pl), (3, ai n), (4, ai s1), (5, ai g1)] [] 0 0
  refine v_aload_n (pc := 0) 1 rfl dX4_layFor_0 ?_
  refine v_callV (pc := 1) [] [0, 1] [(h, co 4 [ar fa, ai m0, ai m1, ai m2, ai m3, ai m4, ai m5]), (fa, cn 0 6 fa0)] (As := []) (rest := []) (c_X10_holding wo pls ins tap e3 e4 e5 e6 e7 e8 pc ic ts sn bn tt bar iv hq (by first | omega | assumption)) (c := 10) rfl (Or.inl r0) wl_X4_15 wi_X10_holding wv_X10_X10_holding_X10_holding wk_X10_holding wz_X10 md_X10_holding rfl (Nat.le_of_ble_eq_true rfl) ⟨Nat.le_of_ble_eq_true rfl, Nat.le_of_ble_eq_true rfl, Nat.le_of_ble_eq_true rfl, Nat.le_of_ble_eq_true rfl⟩ rfl rfl rfl rfl (by decide) (ro_cons (Or.inl r0) (ro_cons (Or.inl r1) ro_nil)) dX4_layFor_1 (fun u hu => ?_)
  show V x cX4_layFor RX4 7 (rmU 3 77 0 0) [(h, co 4 [ar fa, ai m0, ai m1, ai m2, ai m3, ai m4, ai m5]), (fa, cn 0 6 fa0)] 4 [(0, ar h), (1, ar wo), (2, ar pl), (3, ai n), (4, ai s1), (5, ai g1)] [ar hq] 0 0
  refine v_astore (pc := 4) (L2 := [(6, ar hq), (0, ar h), (1, ar wo), (2, ar pl), (3, ai n), (4, ai s1), (5, ai g1)]) rfl (by decide) dX4_layFor_4 ?_
  refine v_aload_n (pc := 6) 1 rfl dX4_layFor_6 ?_
  refine v_get (pc := 7) (v := ar fa) 0 (Or.inr ⟨0, rfl⟩) fl_4_9_4 rfl dX4_layFor_7 ?_
  refine v_iconst (pc := 10) dX4_layFor_10 ?_
  refine v_aload_n (pc := 11) 3 rfl dX4_layFor_11 ?_
  refine v_get (pc := 12) (v := ai num) 2 (Or.inl r6) fl_4_21_1 rfl dX4_layFor_12 ?_
  refine v_iast (pc := 15) 1 rfl (by omega) (by omega) (by decide) (ws2 := [(h, co 4 [ar fa, ai m0, ai m1, ai m2, ai m3, ai m4, ai m5]), (fa, cn 0 6 (aup fa0 0 num))]) rfl dX4_layFor_15 ?_
  refine v_aload_n (pc := 16) 1 rfl dX4_layFor_16 ?_
  refine v_get (pc := 17) (v := ar fa) 0 (Or.inr ⟨0, rfl⟩) fl_4_9_4 rfl dX4_layFor_17 ?_
  refine v_iconst (pc := 20) dX4_layFor_20 ?_
  refine v_aload_n (pc := 21) 3 rfl dX4_layFor_21 ?_
  refine v_get (pc := 22) (v := ai kd) 1 (Or.inl r6) fl_4_27_1 rfl dX4_layFor_22 ?_
  refine v_iast (pc := 25) 1 rfl (by omega) (by omega) (by decide) (ws2 := [(h, co 4 [ar fa, ai m0, ai m1, ai m2, ai m3, ai m4, ai m5]), (fa, cn 0 6 (aup (aup fa0 0 num) 1 kd))]) rfl dX4_layFor_25 ?_
  refine v_aload_n (pc := 26) 1 rfl dX4_layFor_26 ?_
  refine v_get (pc := 27) (v := ar fa) 0 (Or.inr ⟨0, rfl⟩) fl_4_9_4 rfl dX4_layFor_27 ?_
  refine v_iconst (pc := 30) dX4_layFor_30 ?_
  refine v_iload_n (pc := 31) 4 rfl dX4_layFor_31 ?_
  refine v_bipush (pc := 32) dX4_layFor_32 (by decide) ?_
  refine v_idiv (pc := 34) (by omega) (by omega) (by unfold iB; omega) (by unfold iB; omega) dX4_layFor_34 ?_
  refine v_iast (pc := 35) 1 rfl (by omega) (by omega) (by decide) (ws2 := [(h, co 4 [ar fa, ai m0, ai m1, ai m2, ai m3, ai m4, ai m5]), (fa, cn 0 6 (aup (aup (aup fa0 0 num) 1 kd) 2 (n / 10)))]) rfl dX4_layFor_35 ?_
  refine v_aload_n (pc := 36) 1 rfl dX4_layFor_36 ?_
  refine v_get (pc := 37) (v := ar fa) 0 (Or.inr ⟨0, rfl⟩) fl_4_9_4 rfl dX4_layFor_37 ?_
  refine v_iconst (pc := 40) dX4_layFor_40 ?_
  refine v_iload (pc := 41) 6 rfl dX4_layFor_41 ?_
  refine v_iast (pc := 43) 1 rfl (by omega) (by omega) (by decide) (ws2 := [(h, co 4 [ar fa, ai m0, ai m1, ai m2, ai m3, ai m4, ai m5]), (fa, cn 0 6 (aup (aup (aup (aup fa0 0 num) 1 kd) 2 (n / 10)) 3 g1))]) rfl dX4_layFor_43 ?_
  refine v_aload_n (pc := 44) 1 rfl dX4_layFor_44 ?_
  refine v_get (pc := 45) (v := ar fa) 0 (Or.inr ⟨0, rfl⟩) fl_4_9_4 rfl dX4_layFor_45 ?_
  refine v_iconst (pc := 48) dX4_layFor_48 ?_
  refine v_iload (pc := 49) 5 rfl dX4_layFor_49 ?_
  refine v_iast (pc := 51) 1 rfl (by omega) (by omega) (by decide) (ws2 := [(h, co 4 [ar fa, ai m0, ai m1, ai m2, ai m3, ai m4, ai m5]), (fa, cn 0 6 (aup (aup (aup (aup (aup fa0 0 num) 1 kd) 2 (n / 10)) 3 g1) 4 s1))]) rfl dX4_layFor_51 ?_
  refine v_aload_n (pc := 52) 1 rfl dX4_layFor_52 ?_
  refine v_get (pc := 53) (v := ar fa) 0 (Or.inr ⟨0, rfl⟩) fl_4_9_4 rfl dX4_layFor_53 ?_
  refine v_iconst (pc := 56) dX4_layFor_56 ?_
  refine v_aload_n (pc := 57) 2 rfl dX4_layFor_57 ?_
  refine v_get (pc := 58) (v := ai tt) 14 (Or.inl r0) fl_4_30_10 rfl dX4_layFor_58 ?_
  refine v_bipush (pc := 61) dX4_layFor_61 (by decide) ?_
  refine v_irem (pc := 63) (by omega) (by omega) (by unfold iB; omega) (by unfold iB; omega) dX4_layFor_63 ?_
  refine v_iast (pc := 64) 1 rfl (by omega) (by omega) (by decide) (ws2 := [(h, co 4 [ar fa, ai m0, ai m1, ai m2, ai m3, ai m4, ai m5]), (fa, cn 0 6 (aup (aup (aup (aup (aup (aup fa0 0 num) 1 kd) 2 (n / 10)) 3 g1) 4 s1) 5 (tt % 10)))]) rfl dX4_layFor_64 ?_
  refine v_aload_n (pc := 65) 1 rfl dX4_layFor_65 ?_
  refine v_iload_n (pc := 66) 4 rfl dX4_layFor_66 ?_
  refine v_put (pc := 67) 1 0 rfl fl_4_33_4 ck_4 ft_4_1 (okV_i _) (Nat.le_of_ble_eq_true rfl) (ws2 := [(h, co 4 [ar fa, ai n, ai m1, ai m2, ai m3, ai m4, ai m5]), (fa, cn 0 6 (aup (aup (aup (aup (aup (aup fa0 0 num) 1 kd) 2 (n / 10)) 3 g1) 4 s1) 5 (tt % 10)))]) rfl dX4_layFor_67 ?_
  refine v_aload_n (pc := 70) 1 rfl dX4_layFor_70 ?_
  refine v_bipush (pc := 71) dX4_layFor_71 (by decide) ?_
  refine v_aload_n (pc := 73) 3 rfl dX4_layFor_73 ?_
  refine v_get (pc := 74) (v := ai hn) 5 (Or.inl r6) fl_4_36_1 rfl dX4_layFor_74 ?_
  refine v_imul (pc := 77) dX4_layFor_77 ?_
  refine v_put (pc := 78) 2 0 rfl fl_4_39_4 ck_4 ft_4_2 (okV_i _) (Nat.le_of_ble_eq_true rfl) (ws2 := [(h, co 4 [ar fa, ai n, ai (10 * hn), ai m2, ai m3, ai m4, ai m5]), (fa, cn 0 6 (aup (aup (aup (aup (aup (aup fa0 0 num) 1 kd) 2 (n / 10)) 3 g1) 4 s1) 5 (tt % 10)))]) rfl dX4_layFor_78 ?_
  refine v_aload_n (pc := 81) 1 rfl dX4_layFor_81 ?_
  refine v_aload_n (pc := 82) 3 rfl dX4_layFor_82 ?_
  refine v_aload_n (pc := 83) 2 rfl dX4_layFor_83 ?_
  refine v_get (pc := 84) (v := ai tt) 14 (Or.inl r0) fl_4_30_10 rfl dX4_layFor_84 ?_
  refine v_callU (pc := 87) [] [0, 1] [(h, co 4 [ar fa, ai n, ai (10 * hn), ai m2, ai m3, ai m4, ai m5]), (fa, cn 0 6 (aup (aup (aup (aup (aup (aup fa0 0 num) 1 kd) 2 (n / 10)) 3 g1) 4 s1) 5 (tt % 10)))] (z := yX5_lean) (As := [ai tt]) (rest := [ar h]) (c_X5_lean_k1 pl ta kd num pv sk hn gl sc pu tt ) (c := 1) rfl (Or.inl r6) wl_X4_42 wsm_2 wi_X5_lean wk_X5_lean wv_X1_X5_lean_X5_lean wi_X5_lean wk_X5_lean wz_X5 mdo_X5_lean rfl (Nat.le_of_ble_eq_true rfl) ⟨Nat.le_of_ble_eq_true rfl, Nat.le_of_ble_eq_true rfl, Nat.le_of_ble_eq_true rfl, Nat.le_of_ble_eq_true rfl⟩ rfl rfl rfl rfl (by decide) (ro_cons (Or.inl r6) ro_nil) dX4_layFor_87 (fun u hu => ?_)
  show V x cX4_layFor RX4 7 (rmU 3 77 0 0) [(h, co 4 [ar fa, ai n, ai (10 * hn), ai m2, ai m3, ai m4, ai m5]), (fa, cn 0 6 (aup (aup (aup (aup (aup (aup fa0 0 num) 1 kd) 2 (n / 10)) 3 g1) 4 s1) 5 (tt % 10)))] 90 [(6, ar hq), (0, ar h), (1, ar wo), (2, ar pl), (3, ai n), (4, ai s1), (5, ai g1)] [ai 0, ar h] 0 0
  refine v_iload_n (pc := 90) 4 rfl dX4_layFor_90 ?_
  refine v_iconst (pc := 91) dX4_layFor_91 ?_
  refine v_idiv (pc := 92) (by omega) (by omega) (by unfold iB; omega) (by unfold iB; omega) dX4_layFor_92 ?_
  refine v_isub (pc := 93) dX4_layFor_93 ?_
  refine v_put (pc := 94) 3 0 rfl fl_4_46_4 ck_4 ft_4_3 (okV_i _) (Nat.le_of_ble_eq_true rfl) (ws2 := [(h, co 4 [ar fa, ai n, ai (10 * hn), ai (0 - (n / 2)), ai m3, ai m4, ai m5]), (fa, cn 0 6 (aup (aup (aup (aup (aup (aup fa0 0 num) 1 kd) 2 (n / 10)) 3 g1) 4 s1) 5 (tt % 10)))]) rfl dX4_layFor_94 ?_
  refine v_aload_n (pc := 97) 1 rfl dX4_layFor_97 ?_
  refine v_aload_n (pc := 98) 3 rfl dX4_layFor_98 ?_
  refine v_iload (pc := 99) 5 rfl dX4_layFor_99 ?_
  refine v_iload (pc := 101) 6 rfl dX4_layFor_101 ?_
  refine v_callU (pc := 103) [] [0, 1] [(h, co 4 [ar fa, ai n, ai (10 * hn), ai (0 - (n / 2)), ai m3, ai m4, ai m5]), (fa, cn 0 6 (aup (aup (aup (aup (aup (aup fa0 0 num) 1 kd) 2 (n / 10)) 3 g1) 4 s1) 5 (tt % 10)))] (z := yX5_unsureBy) (As := [ai s1, ai g1]) (rest := [ar h]) (c_X1_unsureBy_k1 pl ta kd num pv sk hn gl sc pu s1 g1 (by first | omega | assumption) (by first | omega | assumption)) (c := 1) rfl (Or.inl r6) wl_X4_49 wsm_0 wi_X5_unsureBy wk_X5_unsureBy wv_X1_X5_unsureBy_X1_unsureBy wi_X1_unsureBy wk_X1_unsureBy wz_X1 mdo_X5_unsureBy rfl (Nat.le_of_ble_eq_true rfl) ⟨Nat.le_of_ble_eq_true rfl, Nat.le_of_ble_eq_true rfl, Nat.le_of_ble_eq_true rfl, Nat.le_of_ble_eq_true rfl⟩ rfl rfl rfl rfl (by decide) (ro_cons (Or.inl r6) ro_nil) dX4_layFor_103 (fun u hu => ?_)
  show V x cX4_layFor RX4 7 (rmU 3 77 0 0) [(h, co 4 [ar fa, ai n, ai (10 * hn), ai (0 - (n / 2)), ai m3, ai m4, ai m5]), (fa, cn 0 6 (aup (aup (aup (aup (aup (aup fa0 0 num) 1 kd) 2 (n / 10)) 3 g1) 4 s1) 5 (tt % 10)))] 106 [(6, ar hq), (0, ar h), (1, ar wo), (2, ar pl), (3, ai n), (4, ai s1), (5, ai g1)] [ai (kUns s1 0 / 2), ar h] 0 0
  refine v_put (pc := 106) 4 0 rfl fl_4_53_4 ck_4 ft_4_4 (okV_i _) (Nat.le_of_ble_eq_true rfl) (ws2 := [(h, co 4 [ar fa, ai n, ai (10 * hn), ai (0 - (n / 2)), ai (kUns s1 0 / 2), ai m4, ai m5]), (fa, cn 0 6 (aup (aup (aup (aup (aup (aup fa0 0 num) 1 kd) 2 (n / 10)) 3 g1) 4 s1) 5 (tt % 10)))]) rfl dX4_layFor_106 ?_
  refine v_aload_n (pc := 109) 1 rfl dX4_layFor_109 ?_
  refine v_aload (pc := 110) 0 rfl dX4_layFor_110 ?_
  refine v_get (pc := 112) (v := ai wi) 0 (Or.inl r2) fl_4_56_3 rfl dX4_layFor_112 ?_
  refine v_put (pc := 115) 5 0 rfl fl_4_61_4 ck_4 ft_4_5 (okV_i _) (Nat.le_of_ble_eq_true rfl) (ws2 := [(h, co 4 [ar fa, ai n, ai (10 * hn), ai (0 - (n / 2)), ai (kUns s1 0 / 2), ai wi, ai m5]), (fa, cn 0 6 (aup (aup (aup (aup (aup (aup fa0 0 num) 1 kd) 2 (n / 10)) 3 g1) 4 s1) 5 (tt % 10)))]) rfl dX4_layFor_115 ?_
  have hfa2 : ∀ k : Int, 0 ≤ k → k < 6 → (aup (aup (aup (aup (aup (aup fa0 0 num) 1 kd) 2 (n / 10)) 3 g1) 4 s1) 5 (tt % 10)) k = fbv num kd (n / 10) g1 s1 (tt % 10) k := by intro k k0 k1; unfold fbv; rcases (show k = 0 ∨ k = 1 ∨ k = 2 ∨ k = 3 ∨ k = 4 ∨ k = 5 by omega) with rfl | rfl | rfl | rfl | rfl | rfl <;> simp [aup]
  obtain ⟨fa2, hf2⟩ : ∃ z, z = (aup (aup (aup (aup (aup (aup fa0 0 num) 1 kd) 2 (n / 10)) 3 g1) 4 s1) 5 (tt % 10)) := ⟨_, rfl⟩
  rw [← hf2] at hfa2
  refine v_ws (ws2 := [(h, co 4 [ar fa, ai n, ai (10 * hn), ai (0 - (n / 2)), ai (kUns s1 0 / 2), ai wi, ai m5]), (fa, cn 0 6 fa2)]) (by rw [hf2]) ?_
  have hbf : ∀ k : Int, 0 ≤ k → k < 6 → 0 ≤ fa2 k ∧ fa2 k ≤ 1000 := by intro k k0 k1; rw [hfa2 k k0 k1]; unfold fbv; (repeat' split) <;> omega
  refine v_aload_n (pc := 118) 1 rfl dX4_layFor_118 ?_
  refine v_aload (pc := 119) 0 rfl dX4_layFor_119 ?_
  refine v_iload_n (pc := 121) 4 rfl dX4_layFor_121 ?_
  refine v_aload_n (pc := 122) 1 rfl dX4_layFor_122 ?_
  refine v_get (pc := 123) (v := ar fa) 0 (Or.inr ⟨0, rfl⟩) fl_4_9_4 rfl dX4_layFor_123 ?_
  refine v_callV (pc := 126) [] [0, 1] [(h, co 4 [ar fa, ai n, ai (10 * hn), ai (0 - (n / 2)), ai (kUns s1 0 / 2), ai wi, ai m5]), (fa, cn 0 6 fa2)] (As := [ai n, ar fa]) (rest := [ar h]) (c_X3_opensOf hq wi pa ns us sla ena cda n fa cd sl en fa2 (by first | omega | assumption) (by first | omega | assumption) (by assumption) (by exact fun m hm => hen fa2 m hm) (by exact hbf)) (c := 3) rfl (Or.inl r2) wl_X4_62 wi_X3_opensOf wv_X3_X3_opensOf_X3_opensOf wk_X3_opensOf wz_X3 md_X3_opensOf rfl (Nat.le_of_ble_eq_true rfl) ⟨Nat.le_of_ble_eq_true rfl, Nat.le_of_ble_eq_true rfl, Nat.le_of_ble_eq_true rfl, Nat.le_of_ble_eq_true rfl⟩ rfl rfl rfl rfl (by decide) (ro_cons (Or.inl r2) (ro_cons (Or.inl r3) (ro_cons (Or.inl r4) (ro_cons (Or.inl r5) (ro_cons (Or.inr ⟨1, rfl, by decide⟩) ro_nil))))) dX4_layFor_126 (fun u hu => ?_)
  show V x cX4_layFor RX4 7 (rmU 3 77 0 0) [(h, co 4 [ar fa, ai n, ai (10 * hn), ai (0 - (n / 2)), ai (kUns s1 0 / 2), ai wi, ai m5]), (fa, cn 0 6 fa2)] 129 [(6, ar hq), (0, ar h), (1, ar wo), (2, ar pl), (3, ai n), (4, ai s1), (5, ai g1)] [ai (if 0 < opS fa2 cd sl en n ns.toNat then opS fa2 cd sl en n ns.toNat else 0), ar h] 0 0
  refine v_put (pc := 129) 6 0 rfl fl_4_66_4 ck_4 ft_4_6 (okV_i _) (Nat.le_of_ble_eq_true rfl) (ws2 := [(h, co 4 [ar fa, ai n, ai (10 * hn), ai (0 - (n / 2)), ai (kUns s1 0 / 2), ai wi, ai (if 0 < opS fa2 cd sl en n ns.toNat then opS fa2 cd sl en n ns.toNat else 0)]), (fa, cn 0 6 fa2)]) rfl dX4_layFor_129 ?_
  exact hret fa2 _ _ _ _ _ (by exact hfa2) rfl rfl (Nat.le_of_ble_eq_true rfl) (Nat.le_of_ble_eq_true rfl) dX4_layFor_132
set_option maxHeartbeats 4000000 in
set_option maxRecDepth 100000 in
theorem c_X4_layFor_k2 {gS : sG} (h : Nat) (fa : Nat) (m0 : Int) (m1 : Int) (m2 : Int) (m3 : Int) (m4 : Int) (m5 : Int) (fa0 : Int → Int) (wo : Nat) (pls : Nat) (ins : Nat) (tap : Nat) (e3 : Nat) (e4 : Nat) (e5 : Nat) (e6 : Nat) (e7 : Nat) (e8 : Nat) (pc : Int) (ic : Int) (ts : Int) (sn : Int) (bn : Int) (tt : Int) (bar : Nat) (iv : Int → Option Nat) (hq : Nat) (wi : Int) (pa : Int) (ns : Int) (us : Int) (sla : Nat) (ena : Nat) (cda : Nat) (cd : Int → Int) (sl : Int → Int) (en : Int → Int) (pl : Nat) (ta : Nat) (kd : Int) (num : Int) (pv : Int) (sk : Int) (hn : Int) (gl : Int) (sc : Int) (pu : Int) (n : Int) (s1 : Int) (g1 : Int) (hhq : (ic = 0 ∧ hq = bar) ∨ ((1 ≤ ic ∧ ic ≤ 5) ∧ iv (ic - 1) = some hq)) (hns : 0 ≤ ns ∧ ns ≤ 10) (hnn : 0 ≤ n ∧ n ≤ 99) (hsl : ∀ k : Int, 0 ≤ k → k < ns → -200 ≤ sl k ∧ sl k ≤ 200) (hen : ∀ (b : Int → Int) (m : Nat), (m : Int) < ns → (0 ≤ frE en m ∧ frE en m ≤ en (m : Int) ∧ en (m : Int) ≤ 100) ∧ ∀ q : Nat, (q : Int) < en (m : Int) - frE en m → okC (evC b cd (frE en m) q) (cd (frE en m + (q : Int)))) (hs1 : 0 ≤ s1 ∧ s1 ≤ 20) (hg1 : 0 ≤ g1 ∧ g1 ≤ 9) (htt : 0 ≤ tt ∧ tt ≤ 10000) (hnum : 0 ≤ num ∧ num ≤ 5) (hkd : 0 ≤ kd ∧ kd ≤ 6) : Ct gS (S := Int → Int) yX4_layFor cX4_layFor 7 none 3 77 0 0 [ar h, ar wo, ar pl, ai n, ai s1, ai g1] [(h, co 4 [ar fa, ai m0, ai m1, ai m2, ai m3, ai m4, ai m5]), (fa, cn 0 6 fa0)] (fun q => q ∈ ([(wo, co 10 [ar pls, ar ins, ar tap, ar e3, ar e4, ar e5, ar e6, ar e7, ar e8, ai pc, ai ic, ai ts, ai sn, ai bn, ai tt, ar bar]), (ins, cq 2 5 iv), (hq, co 3 [ai wi, ai pa, ai ns, ai us, ar sla, ar ena, ar cda]), (cda, cn 0 100 cd), (sla, cn 0 10 sl), (ena, cn 0 10 en), (pl, co 2 [ar ta, ai kd, ai num, ai pv, ai sk, ai hn, ai gl, ai sc, ai pu])] : aW)) (fun u => ∀ k : Int, 0 ≤ k → k < 6 → u k = fbv num kd (n / 10) g1 s1 (tt % 10) k) (fun u => none) (fun u => [(h, co 4 [ar fa, ai n, ai (10 * hn), ai (pv - n / 2), ai (kUns s1 (2 * g1)), ai wi, ai (if 0 < opS u cd sl en n ns.toNat then opS u cd sl en n ns.toNat else 0)]), (fa, cn 0 6 u)]) := by
  refine ct_V RX4 [(0, ar h), (1, ar wo), (2, ar pl), (3, ai n), (4, ai s1), (5, ai g1)] (by decide) rfl (Nat.le_of_ble_eq_true rfl) rfl (fun x hgS hnm hro hret => ?_)
  subst hgS
  have r0 := hro _ (mem_at 0 rfl)
  have r1 := hro _ (mem_at 1 rfl)
  have r2 := hro _ (mem_at 2 rfl)
  have r3 := hro _ (mem_at 3 rfl)
  have r4 := hro _ (mem_at 4 rfl)
  have r5 := hro _ (mem_at 5 rfl)
  have r6 := hro _ (mem_at 6 rfl)
  have htq : 0 ≤ tt % 4 ∧ tt % 4 < 4 := by omega
  show V x cX4_layFor RX4 7 (rmU 3 77 0 0) [(h, co 4 [ar fa, ai m0, ai m1, ai m2, ai m3, ai m4, ai m5]), (fa, cn 0 6 fa0)] 0 [(0, ar h), (1, ar wo), (2, ar pl), (3, ai n), (4, ai s1), (5, ai g1)] [] 0 0
  refine v_aload_n (pc := 0) 1 rfl dX4_layFor_0 ?_
  refine v_callV (pc := 1) [] [0, 1] [(h, co 4 [ar fa, ai m0, ai m1, ai m2, ai m3, ai m4, ai m5]), (fa, cn 0 6 fa0)] (As := []) (rest := []) (c_X10_holding wo pls ins tap e3 e4 e5 e6 e7 e8 pc ic ts sn bn tt bar iv hq (by first | omega | assumption)) (c := 10) rfl (Or.inl r0) wl_X4_15 wi_X10_holding wv_X10_X10_holding_X10_holding wk_X10_holding wz_X10 md_X10_holding rfl (Nat.le_of_ble_eq_true rfl) ⟨Nat.le_of_ble_eq_true rfl, Nat.le_of_ble_eq_true rfl, Nat.le_of_ble_eq_true rfl, Nat.le_of_ble_eq_true rfl⟩ rfl rfl rfl rfl (by decide) (ro_cons (Or.inl r0) (ro_cons (Or.inl r1) ro_nil)) dX4_layFor_1 (fun u hu => ?_)
  show V x cX4_layFor RX4 7 (rmU 3 77 0 0) [(h, co 4 [ar fa, ai m0, ai m1, ai m2, ai m3, ai m4, ai m5]), (fa, cn 0 6 fa0)] 4 [(0, ar h), (1, ar wo), (2, ar pl), (3, ai n), (4, ai s1), (5, ai g1)] [ar hq] 0 0
  refine v_astore (pc := 4) (L2 := [(6, ar hq), (0, ar h), (1, ar wo), (2, ar pl), (3, ai n), (4, ai s1), (5, ai g1)]) rfl (by decide) dX4_layFor_4 ?_
  refine v_aload_n (pc := 6) 1 rfl dX4_layFor_6 ?_
  refine v_get (pc := 7) (v := ar fa) 0 (Or.inr ⟨0, rfl⟩) fl_4_9_4 rfl dX4_layFor_7 ?_
  refine v_iconst (pc := 10) dX4_layFor_10 ?_
  refine v_aload_n (pc := 11) 3 rfl dX4_layFor_11 ?_
  refine v_get (pc := 12) (v := ai num) 2 (Or.inl r6) fl_4_21_2 rfl dX4_layFor_12 ?_
  refine v_iast (pc := 15) 1 rfl (by omega) (by omega) (by decide) (ws2 := [(h, co 4 [ar fa, ai m0, ai m1, ai m2, ai m3, ai m4, ai m5]), (fa, cn 0 6 (aup fa0 0 num))]) rfl dX4_layFor_15 ?_
  refine v_aload_n (pc := 16) 1 rfl dX4_layFor_16 ?_
  refine v_get (pc := 17) (v := ar fa) 0 (Or.inr ⟨0, rfl⟩) fl_4_9_4 rfl dX4_layFor_17 ?_
  refine v_iconst (pc := 20) dX4_layFor_20 ?_
  refine v_aload_n (pc := 21) 3 rfl dX4_layFor_21 ?_
  refine v_get (pc := 22) (v := ai kd) 1 (Or.inl r6) fl_4_27_2 rfl dX4_layFor_22 ?_
  refine v_iast (pc := 25) 1 rfl (by omega) (by omega) (by decide) (ws2 := [(h, co 4 [ar fa, ai m0, ai m1, ai m2, ai m3, ai m4, ai m5]), (fa, cn 0 6 (aup (aup fa0 0 num) 1 kd))]) rfl dX4_layFor_25 ?_
  refine v_aload_n (pc := 26) 1 rfl dX4_layFor_26 ?_
  refine v_get (pc := 27) (v := ar fa) 0 (Or.inr ⟨0, rfl⟩) fl_4_9_4 rfl dX4_layFor_27 ?_
  refine v_iconst (pc := 30) dX4_layFor_30 ?_
  refine v_iload_n (pc := 31) 4 rfl dX4_layFor_31 ?_
  refine v_bipush (pc := 32) dX4_layFor_32 (by decide) ?_
  refine v_idiv (pc := 34) (by omega) (by omega) (by unfold iB; omega) (by unfold iB; omega) dX4_layFor_34 ?_
  refine v_iast (pc := 35) 1 rfl (by omega) (by omega) (by decide) (ws2 := [(h, co 4 [ar fa, ai m0, ai m1, ai m2, ai m3, ai m4, ai m5]), (fa, cn 0 6 (aup (aup (aup fa0 0 num) 1 kd) 2 (n / 10)))]) rfl dX4_layFor_35 ?_
  refine v_aload_n (pc := 36) 1 rfl dX4_layFor_36 ?_
  refine v_get (pc := 37) (v := ar fa) 0 (Or.inr ⟨0, rfl⟩) fl_4_9_4 rfl dX4_layFor_37 ?_
  refine v_iconst (pc := 40) dX4_layFor_40 ?_
  refine v_iload (pc := 41) 6 rfl dX4_layFor_41 ?_
  refine v_iast (pc := 43) 1 rfl (by omega) (by omega) (by decide) (ws2 := [(h, co 4 [ar fa, ai m0, ai m1, ai m2, ai m3, ai m4, ai m5]), (fa, cn 0 6 (aup (aup (aup (aup fa0 0 num) 1 kd) 2 (n / 10)) 3 g1))]) rfl dX4_layFor_43 ?_
  refine v_aload_n (pc := 44) 1 rfl dX4_layFor_44 ?_
  refine v_get (pc := 45) (v := ar fa) 0 (Or.inr ⟨0, rfl⟩) fl_4_9_4 rfl dX4_layFor_45 ?_
  refine v_iconst (pc := 48) dX4_layFor_48 ?_
  refine v_iload (pc := 49) 5 rfl dX4_layFor_49 ?_
  refine v_iast (pc := 51) 1 rfl (by omega) (by omega) (by decide) (ws2 := [(h, co 4 [ar fa, ai m0, ai m1, ai m2, ai m3, ai m4, ai m5]), (fa, cn 0 6 (aup (aup (aup (aup (aup fa0 0 num) 1 kd) 2 (n / 10)) 3 g1) 4 s1))]) rfl dX4_layFor_51 ?_
  refine v_aload_n (pc := 52) 1 rfl dX4_layFor_52 ?_
  refine v_get (pc := 53) (v := ar fa) 0 (Or.inr ⟨0, rfl⟩) fl_4_9_4 rfl dX4_layFor_53 ?_
  refine v_iconst (pc := 56) dX4_layFor_56 ?_
  refine v_aload_n (pc := 57) 2 rfl dX4_layFor_57 ?_
  refine v_get (pc := 58) (v := ai tt) 14 (Or.inl r0) fl_4_30_10 rfl dX4_layFor_58 ?_
  refine v_bipush (pc := 61) dX4_layFor_61 (by decide) ?_
  refine v_irem (pc := 63) (by omega) (by omega) (by unfold iB; omega) (by unfold iB; omega) dX4_layFor_63 ?_
  refine v_iast (pc := 64) 1 rfl (by omega) (by omega) (by decide) (ws2 := [(h, co 4 [ar fa, ai m0, ai m1, ai m2, ai m3, ai m4, ai m5]), (fa, cn 0 6 (aup (aup (aup (aup (aup (aup fa0 0 num) 1 kd) 2 (n / 10)) 3 g1) 4 s1) 5 (tt % 10)))]) rfl dX4_layFor_64 ?_
  refine v_aload_n (pc := 65) 1 rfl dX4_layFor_65 ?_
  refine v_iload_n (pc := 66) 4 rfl dX4_layFor_66 ?_
  refine v_put (pc := 67) 1 0 rfl fl_4_33_4 ck_4 ft_4_1 (okV_i _) (Nat.le_of_ble_eq_true rfl) (ws2 := [(h, co 4 [ar fa, ai n, ai m1, ai m2, ai m3, ai m4, ai m5]), (fa, cn 0 6 (aup (aup (aup (aup (aup (aup fa0 0 num) 1 kd) 2 (n / 10)) 3 g1) 4 s1) 5 (tt % 10)))]) rfl dX4_layFor_67 ?_
  refine v_aload_n (pc := 70) 1 rfl dX4_layFor_70 ?_
  refine v_bipush (pc := 71) dX4_layFor_71 (by decide) ?_
  refine v_aload_n (pc := 73) 3 rfl dX4_layFor_73 ?_
  refine v_get (pc := 74) (v := ai hn) 5 (Or.inl r6) fl_4_36_2 rfl dX4_layFor_74 ?_
  refine v_imul (pc := 77) dX4_layFor_77 ?_
  refine v_put (pc := 78) 2 0 rfl fl_4_39_4 ck_4 ft_4_2 (okV_i _) (Nat.le_of_ble_eq_true rfl) (ws2 := [(h, co 4 [ar fa, ai n, ai (10 * hn), ai m2, ai m3, ai m4, ai m5]), (fa, cn 0 6 (aup (aup (aup (aup (aup (aup fa0 0 num) 1 kd) 2 (n / 10)) 3 g1) 4 s1) 5 (tt % 10)))]) rfl dX4_layFor_78 ?_
  refine v_aload_n (pc := 81) 1 rfl dX4_layFor_81 ?_
  refine v_aload_n (pc := 82) 3 rfl dX4_layFor_82 ?_
  refine v_aload_n (pc := 83) 2 rfl dX4_layFor_83 ?_
  refine v_get (pc := 84) (v := ai tt) 14 (Or.inl r0) fl_4_30_10 rfl dX4_layFor_84 ?_
  refine v_callU (pc := 87) [] [0, 1] [(h, co 4 [ar fa, ai n, ai (10 * hn), ai m2, ai m3, ai m4, ai m5]), (fa, cn 0 6 (aup (aup (aup (aup (aup (aup fa0 0 num) 1 kd) 2 (n / 10)) 3 g1) 4 s1) 5 (tt % 10)))] (z := yX5_lean) (As := [ai tt]) (rest := [ar h]) (c_X0_lean_k2 pl ta kd num pv sk hn gl sc pu tt ) (c := 2) rfl (Or.inl r6) wl_X4_42 wsm_2 wi_X5_lean wk_X5_lean wv_X2_X5_lean_X0_lean wi_X0_lean wk_X0_lean wz_X0 mdo_X5_lean rfl (Nat.le_of_ble_eq_true rfl) ⟨Nat.le_of_ble_eq_true rfl, Nat.le_of_ble_eq_true rfl, Nat.le_of_ble_eq_true rfl, Nat.le_of_ble_eq_true rfl⟩ rfl rfl rfl rfl (by decide) (ro_cons (Or.inl r6) ro_nil) dX4_layFor_87 (fun u hu => ?_)
  show V x cX4_layFor RX4 7 (rmU 3 77 0 0) [(h, co 4 [ar fa, ai n, ai (10 * hn), ai m2, ai m3, ai m4, ai m5]), (fa, cn 0 6 (aup (aup (aup (aup (aup (aup fa0 0 num) 1 kd) 2 (n / 10)) 3 g1) 4 s1) 5 (tt % 10)))] 90 [(6, ar hq), (0, ar h), (1, ar wo), (2, ar pl), (3, ai n), (4, ai s1), (5, ai g1)] [ai pv, ar h] 0 0
  refine v_iload_n (pc := 90) 4 rfl dX4_layFor_90 ?_
  refine v_iconst (pc := 91) dX4_layFor_91 ?_
  refine v_idiv (pc := 92) (by omega) (by omega) (by unfold iB; omega) (by unfold iB; omega) dX4_layFor_92 ?_
  refine v_isub (pc := 93) dX4_layFor_93 ?_
  refine v_put (pc := 94) 3 0 rfl fl_4_46_4 ck_4 ft_4_3 (okV_i _) (Nat.le_of_ble_eq_true rfl) (ws2 := [(h, co 4 [ar fa, ai n, ai (10 * hn), ai (pv - (n / 2)), ai m3, ai m4, ai m5]), (fa, cn 0 6 (aup (aup (aup (aup (aup (aup fa0 0 num) 1 kd) 2 (n / 10)) 3 g1) 4 s1) 5 (tt % 10)))]) rfl dX4_layFor_94 ?_
  refine v_aload_n (pc := 97) 1 rfl dX4_layFor_97 ?_
  refine v_aload_n (pc := 98) 3 rfl dX4_layFor_98 ?_
  refine v_iload (pc := 99) 5 rfl dX4_layFor_99 ?_
  refine v_iload (pc := 101) 6 rfl dX4_layFor_101 ?_
  refine v_callU (pc := 103) [] [0, 1] [(h, co 4 [ar fa, ai n, ai (10 * hn), ai (pv - (n / 2)), ai m3, ai m4, ai m5]), (fa, cn 0 6 (aup (aup (aup (aup (aup (aup fa0 0 num) 1 kd) 2 (n / 10)) 3 g1) 4 s1) 5 (tt % 10)))] (z := yX5_unsureBy) (As := [ai s1, ai g1]) (rest := [ar h]) (c_X2_unsureBy_k2 pl ta kd num pv sk hn gl sc pu s1 g1 (by first | omega | assumption) (by first | omega | assumption)) (c := 2) rfl (Or.inl r6) wl_X4_49 wsm_0 wi_X5_unsureBy wk_X5_unsureBy wv_X2_X5_unsureBy_X2_unsureBy wi_X2_unsureBy wk_X2_unsureBy wz_X2 mdo_X5_unsureBy rfl (Nat.le_of_ble_eq_true rfl) ⟨Nat.le_of_ble_eq_true rfl, Nat.le_of_ble_eq_true rfl, Nat.le_of_ble_eq_true rfl, Nat.le_of_ble_eq_true rfl⟩ rfl rfl rfl rfl (by decide) (ro_cons (Or.inl r6) ro_nil) dX4_layFor_103 (fun u hu => ?_)
  show V x cX4_layFor RX4 7 (rmU 3 77 0 0) [(h, co 4 [ar fa, ai n, ai (10 * hn), ai (pv - (n / 2)), ai m3, ai m4, ai m5]), (fa, cn 0 6 (aup (aup (aup (aup (aup (aup fa0 0 num) 1 kd) 2 (n / 10)) 3 g1) 4 s1) 5 (tt % 10)))] 106 [(6, ar hq), (0, ar h), (1, ar wo), (2, ar pl), (3, ai n), (4, ai s1), (5, ai g1)] [ai (kUns s1 (2 * g1)), ar h] 0 0
  refine v_put (pc := 106) 4 0 rfl fl_4_53_4 ck_4 ft_4_4 (okV_i _) (Nat.le_of_ble_eq_true rfl) (ws2 := [(h, co 4 [ar fa, ai n, ai (10 * hn), ai (pv - (n / 2)), ai (kUns s1 (2 * g1)), ai m4, ai m5]), (fa, cn 0 6 (aup (aup (aup (aup (aup (aup fa0 0 num) 1 kd) 2 (n / 10)) 3 g1) 4 s1) 5 (tt % 10)))]) rfl dX4_layFor_106 ?_
  refine v_aload_n (pc := 109) 1 rfl dX4_layFor_109 ?_
  refine v_aload (pc := 110) 0 rfl dX4_layFor_110 ?_
  refine v_get (pc := 112) (v := ai wi) 0 (Or.inl r2) fl_4_56_3 rfl dX4_layFor_112 ?_
  refine v_put (pc := 115) 5 0 rfl fl_4_61_4 ck_4 ft_4_5 (okV_i _) (Nat.le_of_ble_eq_true rfl) (ws2 := [(h, co 4 [ar fa, ai n, ai (10 * hn), ai (pv - (n / 2)), ai (kUns s1 (2 * g1)), ai wi, ai m5]), (fa, cn 0 6 (aup (aup (aup (aup (aup (aup fa0 0 num) 1 kd) 2 (n / 10)) 3 g1) 4 s1) 5 (tt % 10)))]) rfl dX4_layFor_115 ?_
  have hfa2 : ∀ k : Int, 0 ≤ k → k < 6 → (aup (aup (aup (aup (aup (aup fa0 0 num) 1 kd) 2 (n / 10)) 3 g1) 4 s1) 5 (tt % 10)) k = fbv num kd (n / 10) g1 s1 (tt % 10) k := by intro k k0 k1; unfold fbv; rcases (show k = 0 ∨ k = 1 ∨ k = 2 ∨ k = 3 ∨ k = 4 ∨ k = 5 by omega) with rfl | rfl | rfl | rfl | rfl | rfl <;> simp [aup]
  obtain ⟨fa2, hf2⟩ : ∃ z, z = (aup (aup (aup (aup (aup (aup fa0 0 num) 1 kd) 2 (n / 10)) 3 g1) 4 s1) 5 (tt % 10)) := ⟨_, rfl⟩
  rw [← hf2] at hfa2
  refine v_ws (ws2 := [(h, co 4 [ar fa, ai n, ai (10 * hn), ai (pv - (n / 2)), ai (kUns s1 (2 * g1)), ai wi, ai m5]), (fa, cn 0 6 fa2)]) (by rw [hf2]) ?_
  have hbf : ∀ k : Int, 0 ≤ k → k < 6 → 0 ≤ fa2 k ∧ fa2 k ≤ 1000 := by intro k k0 k1; rw [hfa2 k k0 k1]; unfold fbv; (repeat' split) <;> omega
  refine v_aload_n (pc := 118) 1 rfl dX4_layFor_118 ?_
  refine v_aload (pc := 119) 0 rfl dX4_layFor_119 ?_
  refine v_iload_n (pc := 121) 4 rfl dX4_layFor_121 ?_
  refine v_aload_n (pc := 122) 1 rfl dX4_layFor_122 ?_
  refine v_get (pc := 123) (v := ar fa) 0 (Or.inr ⟨0, rfl⟩) fl_4_9_4 rfl dX4_layFor_123 ?_
  refine v_callV (pc := 126) [] [0, 1] [(h, co 4 [ar fa, ai n, ai (10 * hn), ai (pv - (n / 2)), ai (kUns s1 (2 * g1)), ai wi, ai m5]), (fa, cn 0 6 fa2)] (As := [ai n, ar fa]) (rest := [ar h]) (c_X3_opensOf hq wi pa ns us sla ena cda n fa cd sl en fa2 (by first | omega | assumption) (by first | omega | assumption) (by assumption) (by exact fun m hm => hen fa2 m hm) (by exact hbf)) (c := 3) rfl (Or.inl r2) wl_X4_62 wi_X3_opensOf wv_X3_X3_opensOf_X3_opensOf wk_X3_opensOf wz_X3 md_X3_opensOf rfl (Nat.le_of_ble_eq_true rfl) ⟨Nat.le_of_ble_eq_true rfl, Nat.le_of_ble_eq_true rfl, Nat.le_of_ble_eq_true rfl, Nat.le_of_ble_eq_true rfl⟩ rfl rfl rfl rfl (by decide) (ro_cons (Or.inl r2) (ro_cons (Or.inl r3) (ro_cons (Or.inl r4) (ro_cons (Or.inl r5) (ro_cons (Or.inr ⟨1, rfl, by decide⟩) ro_nil))))) dX4_layFor_126 (fun u hu => ?_)
  show V x cX4_layFor RX4 7 (rmU 3 77 0 0) [(h, co 4 [ar fa, ai n, ai (10 * hn), ai (pv - (n / 2)), ai (kUns s1 (2 * g1)), ai wi, ai m5]), (fa, cn 0 6 fa2)] 129 [(6, ar hq), (0, ar h), (1, ar wo), (2, ar pl), (3, ai n), (4, ai s1), (5, ai g1)] [ai (if 0 < opS fa2 cd sl en n ns.toNat then opS fa2 cd sl en n ns.toNat else 0), ar h] 0 0
  refine v_put (pc := 129) 6 0 rfl fl_4_66_4 ck_4 ft_4_6 (okV_i _) (Nat.le_of_ble_eq_true rfl) (ws2 := [(h, co 4 [ar fa, ai n, ai (10 * hn), ai (pv - (n / 2)), ai (kUns s1 (2 * g1)), ai wi, ai (if 0 < opS fa2 cd sl en n ns.toNat then opS fa2 cd sl en n ns.toNat else 0)]), (fa, cn 0 6 fa2)]) rfl dX4_layFor_129 ?_
  exact hret fa2 _ _ _ _ _ (by exact hfa2) rfl rfl (Nat.le_of_ble_eq_true rfl) (Nat.le_of_ble_eq_true rfl) dX4_layFor_132
set_option maxHeartbeats 4000000 in
set_option maxRecDepth 100000 in
theorem c_X4_layFor_k9 {gS : sG} (h : Nat) (fa : Nat) (m0 : Int) (m1 : Int) (m2 : Int) (m3 : Int) (m4 : Int) (m5 : Int) (fa0 : Int → Int) (wo : Nat) (pls : Nat) (ins : Nat) (tap : Nat) (e3 : Nat) (e4 : Nat) (e5 : Nat) (e6 : Nat) (e7 : Nat) (e8 : Nat) (pc : Int) (ic : Int) (ts : Int) (sn : Int) (bn : Int) (tt : Int) (bar : Nat) (iv : Int → Option Nat) (hq : Nat) (wi : Int) (pa : Int) (ns : Int) (us : Int) (sla : Nat) (ena : Nat) (cda : Nat) (cd : Int → Int) (sl : Int → Int) (en : Int → Int) (pl : Nat) (ta : Nat) (kd : Int) (num : Int) (pv : Int) (sk : Int) (hn : Int) (gl : Int) (sc : Int) (pu : Int) (tu : Nat) (tn : Int → Int) (n : Int) (s1 : Int) (g1 : Int) (hhq : (ic = 0 ∧ hq = bar) ∨ ((1 ≤ ic ∧ ic ≤ 5) ∧ iv (ic - 1) = some hq)) (hns : 0 ≤ ns ∧ ns ≤ 10) (hnn : 0 ≤ n ∧ n ≤ 99) (hsl : ∀ k : Int, 0 ≤ k → k < ns → -200 ≤ sl k ∧ sl k ≤ 200) (hen : ∀ (b : Int → Int) (m : Nat), (m : Int) < ns → (0 ≤ frE en m ∧ frE en m ≤ en (m : Int) ∧ en (m : Int) ≤ 100) ∧ ∀ q : Nat, (q : Int) < en (m : Int) - frE en m → okC (evC b cd (frE en m) q) (cd (frE en m + (q : Int)))) (hs1 : 0 ≤ s1 ∧ s1 ≤ 20) (hg1 : 0 ≤ g1 ∧ g1 ≤ 9) (htt : 0 ≤ tt ∧ tt ≤ 10000) (hnum : 0 ≤ num ∧ num ≤ 5) (hkd : 0 ≤ kd ∧ kd ≤ 6) : Ct gS (S := Int → Int) yX4_layFor cX4_layFor 7 none 3 77 0 0 [ar h, ar wo, ar pl, ai n, ai s1, ai g1] [(h, co 4 [ar fa, ai m0, ai m1, ai m2, ai m3, ai m4, ai m5]), (fa, cn 0 6 fa0)] (fun q => q ∈ ([(wo, co 10 [ar pls, ar ins, ar tap, ar e3, ar e4, ar e5, ar e6, ar e7, ar e8, ai pc, ai ic, ai ts, ai sn, ai bn, ai tt, ar bar]), (ins, cq 2 5 iv), (hq, co 3 [ai wi, ai pa, ai ns, ai us, ar sla, ar ena, ar cda]), (cda, cn 0 100 cd), (sla, cn 0 10 sl), (ena, cn 0 10 en), (pl, co 9 [ar ta, ai kd, ai num, ai pv, ai sk, ai hn, ai gl, ai sc, ai pu, ar tu]), (tu, cn 0 4 tn)] : aW)) (fun u => ∀ k : Int, 0 ≤ k → k < 6 → u k = fbv num kd (n / 10) g1 s1 (tt % 10) k) (fun u => none) (fun u => [(h, co 4 [ar fa, ai n, ai (10 * hn), ai ((-pv + tn (tt % 4) - 4) - n / 2), ai (kUns s1 g1), ai wi, ai (if 0 < opS u cd sl en n ns.toNat then opS u cd sl en n ns.toNat else 0)]), (fa, cn 0 6 u)]) := by
  refine ct_V RX4 [(0, ar h), (1, ar wo), (2, ar pl), (3, ai n), (4, ai s1), (5, ai g1)] (by decide) rfl (Nat.le_of_ble_eq_true rfl) rfl (fun x hgS hnm hro hret => ?_)
  subst hgS
  have r0 := hro _ (mem_at 0 rfl)
  have r1 := hro _ (mem_at 1 rfl)
  have r2 := hro _ (mem_at 2 rfl)
  have r3 := hro _ (mem_at 3 rfl)
  have r4 := hro _ (mem_at 4 rfl)
  have r5 := hro _ (mem_at 5 rfl)
  have r6 := hro _ (mem_at 6 rfl)
  have r7 := hro _ (mem_at 7 rfl)
  have htq : 0 ≤ tt % 4 ∧ tt % 4 < 4 := by omega
  show V x cX4_layFor RX4 7 (rmU 3 77 0 0) [(h, co 4 [ar fa, ai m0, ai m1, ai m2, ai m3, ai m4, ai m5]), (fa, cn 0 6 fa0)] 0 [(0, ar h), (1, ar wo), (2, ar pl), (3, ai n), (4, ai s1), (5, ai g1)] [] 0 0
  refine v_aload_n (pc := 0) 1 rfl dX4_layFor_0 ?_
  refine v_callV (pc := 1) [] [0, 1] [(h, co 4 [ar fa, ai m0, ai m1, ai m2, ai m3, ai m4, ai m5]), (fa, cn 0 6 fa0)] (As := []) (rest := []) (c_X10_holding wo pls ins tap e3 e4 e5 e6 e7 e8 pc ic ts sn bn tt bar iv hq (by first | omega | assumption)) (c := 10) rfl (Or.inl r0) wl_X4_15 wi_X10_holding wv_X10_X10_holding_X10_holding wk_X10_holding wz_X10 md_X10_holding rfl (Nat.le_of_ble_eq_true rfl) ⟨Nat.le_of_ble_eq_true rfl, Nat.le_of_ble_eq_true rfl, Nat.le_of_ble_eq_true rfl, Nat.le_of_ble_eq_true rfl⟩ rfl rfl rfl rfl (by decide) (ro_cons (Or.inl r0) (ro_cons (Or.inl r1) ro_nil)) dX4_layFor_1 (fun u hu => ?_)
  show V x cX4_layFor RX4 7 (rmU 3 77 0 0) [(h, co 4 [ar fa, ai m0, ai m1, ai m2, ai m3, ai m4, ai m5]), (fa, cn 0 6 fa0)] 4 [(0, ar h), (1, ar wo), (2, ar pl), (3, ai n), (4, ai s1), (5, ai g1)] [ar hq] 0 0
  refine v_astore (pc := 4) (L2 := [(6, ar hq), (0, ar h), (1, ar wo), (2, ar pl), (3, ai n), (4, ai s1), (5, ai g1)]) rfl (by decide) dX4_layFor_4 ?_
  refine v_aload_n (pc := 6) 1 rfl dX4_layFor_6 ?_
  refine v_get (pc := 7) (v := ar fa) 0 (Or.inr ⟨0, rfl⟩) fl_4_9_4 rfl dX4_layFor_7 ?_
  refine v_iconst (pc := 10) dX4_layFor_10 ?_
  refine v_aload_n (pc := 11) 3 rfl dX4_layFor_11 ?_
  refine v_get (pc := 12) (v := ai num) 2 (Or.inl r6) fl_4_21_9 rfl dX4_layFor_12 ?_
  refine v_iast (pc := 15) 1 rfl (by omega) (by omega) (by decide) (ws2 := [(h, co 4 [ar fa, ai m0, ai m1, ai m2, ai m3, ai m4, ai m5]), (fa, cn 0 6 (aup fa0 0 num))]) rfl dX4_layFor_15 ?_
  refine v_aload_n (pc := 16) 1 rfl dX4_layFor_16 ?_
  refine v_get (pc := 17) (v := ar fa) 0 (Or.inr ⟨0, rfl⟩) fl_4_9_4 rfl dX4_layFor_17 ?_
  refine v_iconst (pc := 20) dX4_layFor_20 ?_
  refine v_aload_n (pc := 21) 3 rfl dX4_layFor_21 ?_
  refine v_get (pc := 22) (v := ai kd) 1 (Or.inl r6) fl_4_27_9 rfl dX4_layFor_22 ?_
  refine v_iast (pc := 25) 1 rfl (by omega) (by omega) (by decide) (ws2 := [(h, co 4 [ar fa, ai m0, ai m1, ai m2, ai m3, ai m4, ai m5]), (fa, cn 0 6 (aup (aup fa0 0 num) 1 kd))]) rfl dX4_layFor_25 ?_
  refine v_aload_n (pc := 26) 1 rfl dX4_layFor_26 ?_
  refine v_get (pc := 27) (v := ar fa) 0 (Or.inr ⟨0, rfl⟩) fl_4_9_4 rfl dX4_layFor_27 ?_
  refine v_iconst (pc := 30) dX4_layFor_30 ?_
  refine v_iload_n (pc := 31) 4 rfl dX4_layFor_31 ?_
  refine v_bipush (pc := 32) dX4_layFor_32 (by decide) ?_
  refine v_idiv (pc := 34) (by omega) (by omega) (by unfold iB; omega) (by unfold iB; omega) dX4_layFor_34 ?_
  refine v_iast (pc := 35) 1 rfl (by omega) (by omega) (by decide) (ws2 := [(h, co 4 [ar fa, ai m0, ai m1, ai m2, ai m3, ai m4, ai m5]), (fa, cn 0 6 (aup (aup (aup fa0 0 num) 1 kd) 2 (n / 10)))]) rfl dX4_layFor_35 ?_
  refine v_aload_n (pc := 36) 1 rfl dX4_layFor_36 ?_
  refine v_get (pc := 37) (v := ar fa) 0 (Or.inr ⟨0, rfl⟩) fl_4_9_4 rfl dX4_layFor_37 ?_
  refine v_iconst (pc := 40) dX4_layFor_40 ?_
  refine v_iload (pc := 41) 6 rfl dX4_layFor_41 ?_
  refine v_iast (pc := 43) 1 rfl (by omega) (by omega) (by decide) (ws2 := [(h, co 4 [ar fa, ai m0, ai m1, ai m2, ai m3, ai m4, ai m5]), (fa, cn 0 6 (aup (aup (aup (aup fa0 0 num) 1 kd) 2 (n / 10)) 3 g1))]) rfl dX4_layFor_43 ?_
  refine v_aload_n (pc := 44) 1 rfl dX4_layFor_44 ?_
  refine v_get (pc := 45) (v := ar fa) 0 (Or.inr ⟨0, rfl⟩) fl_4_9_4 rfl dX4_layFor_45 ?_
  refine v_iconst (pc := 48) dX4_layFor_48 ?_
  refine v_iload (pc := 49) 5 rfl dX4_layFor_49 ?_
  refine v_iast (pc := 51) 1 rfl (by omega) (by omega) (by decide) (ws2 := [(h, co 4 [ar fa, ai m0, ai m1, ai m2, ai m3, ai m4, ai m5]), (fa, cn 0 6 (aup (aup (aup (aup (aup fa0 0 num) 1 kd) 2 (n / 10)) 3 g1) 4 s1))]) rfl dX4_layFor_51 ?_
  refine v_aload_n (pc := 52) 1 rfl dX4_layFor_52 ?_
  refine v_get (pc := 53) (v := ar fa) 0 (Or.inr ⟨0, rfl⟩) fl_4_9_4 rfl dX4_layFor_53 ?_
  refine v_iconst (pc := 56) dX4_layFor_56 ?_
  refine v_aload_n (pc := 57) 2 rfl dX4_layFor_57 ?_
  refine v_get (pc := 58) (v := ai tt) 14 (Or.inl r0) fl_4_30_10 rfl dX4_layFor_58 ?_
  refine v_bipush (pc := 61) dX4_layFor_61 (by decide) ?_
  refine v_irem (pc := 63) (by omega) (by omega) (by unfold iB; omega) (by unfold iB; omega) dX4_layFor_63 ?_
  refine v_iast (pc := 64) 1 rfl (by omega) (by omega) (by decide) (ws2 := [(h, co 4 [ar fa, ai m0, ai m1, ai m2, ai m3, ai m4, ai m5]), (fa, cn 0 6 (aup (aup (aup (aup (aup (aup fa0 0 num) 1 kd) 2 (n / 10)) 3 g1) 4 s1) 5 (tt % 10)))]) rfl dX4_layFor_64 ?_
  refine v_aload_n (pc := 65) 1 rfl dX4_layFor_65 ?_
  refine v_iload_n (pc := 66) 4 rfl dX4_layFor_66 ?_
  refine v_put (pc := 67) 1 0 rfl fl_4_33_4 ck_4 ft_4_1 (okV_i _) (Nat.le_of_ble_eq_true rfl) (ws2 := [(h, co 4 [ar fa, ai n, ai m1, ai m2, ai m3, ai m4, ai m5]), (fa, cn 0 6 (aup (aup (aup (aup (aup (aup fa0 0 num) 1 kd) 2 (n / 10)) 3 g1) 4 s1) 5 (tt % 10)))]) rfl dX4_layFor_67 ?_
  refine v_aload_n (pc := 70) 1 rfl dX4_layFor_70 ?_
  refine v_bipush (pc := 71) dX4_layFor_71 (by decide) ?_
  refine v_aload_n (pc := 73) 3 rfl dX4_layFor_73 ?_
  refine v_get (pc := 74) (v := ai hn) 5 (Or.inl r6) fl_4_36_9 rfl dX4_layFor_74 ?_
  refine v_imul (pc := 77) dX4_layFor_77 ?_
  refine v_put (pc := 78) 2 0 rfl fl_4_39_4 ck_4 ft_4_2 (okV_i _) (Nat.le_of_ble_eq_true rfl) (ws2 := [(h, co 4 [ar fa, ai n, ai (10 * hn), ai m2, ai m3, ai m4, ai m5]), (fa, cn 0 6 (aup (aup (aup (aup (aup (aup fa0 0 num) 1 kd) 2 (n / 10)) 3 g1) 4 s1) 5 (tt % 10)))]) rfl dX4_layFor_78 ?_
  refine v_aload_n (pc := 81) 1 rfl dX4_layFor_81 ?_
  refine v_aload_n (pc := 82) 3 rfl dX4_layFor_82 ?_
  refine v_aload_n (pc := 83) 2 rfl dX4_layFor_83 ?_
  refine v_get (pc := 84) (v := ai tt) 14 (Or.inl r0) fl_4_30_10 rfl dX4_layFor_84 ?_
  refine v_callU (pc := 87) [] [0, 1] [(h, co 4 [ar fa, ai n, ai (10 * hn), ai m2, ai m3, ai m4, ai m5]), (fa, cn 0 6 (aup (aup (aup (aup (aup (aup fa0 0 num) 1 kd) 2 (n / 10)) 3 g1) 4 s1) 5 (tt % 10)))] (z := yX5_lean) (As := [ai tt]) (rest := [ar h]) (c_X9_lean_k9 pl ta kd num pv sk hn gl sc pu tu tt tn (by first | omega | assumption)) (c := 9) rfl (Or.inl r6) wl_X4_42 wsm_2 wi_X5_lean wk_X5_lean wv_X9_X5_lean_X9_lean wi_X9_lean wk_X9_lean wz_X9 mdo_X5_lean rfl (Nat.le_of_ble_eq_true rfl) ⟨Nat.le_of_ble_eq_true rfl, Nat.le_of_ble_eq_true rfl, Nat.le_of_ble_eq_true rfl, Nat.le_of_ble_eq_true rfl⟩ rfl rfl rfl rfl (by decide) (ro_cons (Or.inl r6) (ro_cons (Or.inl r7) ro_nil)) dX4_layFor_87 (fun u hu => ?_)
  show V x cX4_layFor RX4 7 (rmU 3 77 0 0) [(h, co 4 [ar fa, ai n, ai (10 * hn), ai m2, ai m3, ai m4, ai m5]), (fa, cn 0 6 (aup (aup (aup (aup (aup (aup fa0 0 num) 1 kd) 2 (n / 10)) 3 g1) 4 s1) 5 (tt % 10)))] 90 [(6, ar hq), (0, ar h), (1, ar wo), (2, ar pl), (3, ai n), (4, ai s1), (5, ai g1)] [ai (-pv + tn (tt % 4) - 4), ar h] 0 0
  refine v_iload_n (pc := 90) 4 rfl dX4_layFor_90 ?_
  refine v_iconst (pc := 91) dX4_layFor_91 ?_
  refine v_idiv (pc := 92) (by omega) (by omega) (by unfold iB; omega) (by unfold iB; omega) dX4_layFor_92 ?_
  refine v_isub (pc := 93) dX4_layFor_93 ?_
  refine v_put (pc := 94) 3 0 rfl fl_4_46_4 ck_4 ft_4_3 (okV_i _) (Nat.le_of_ble_eq_true rfl) (ws2 := [(h, co 4 [ar fa, ai n, ai (10 * hn), ai ((-pv + tn (tt % 4) - 4) - (n / 2)), ai m3, ai m4, ai m5]), (fa, cn 0 6 (aup (aup (aup (aup (aup (aup fa0 0 num) 1 kd) 2 (n / 10)) 3 g1) 4 s1) 5 (tt % 10)))]) rfl dX4_layFor_94 ?_
  refine v_aload_n (pc := 97) 1 rfl dX4_layFor_97 ?_
  refine v_aload_n (pc := 98) 3 rfl dX4_layFor_98 ?_
  refine v_iload (pc := 99) 5 rfl dX4_layFor_99 ?_
  refine v_iload (pc := 101) 6 rfl dX4_layFor_101 ?_
  refine v_callU (pc := 103) [] [0, 1] [(h, co 4 [ar fa, ai n, ai (10 * hn), ai ((-pv + tn (tt % 4) - 4) - (n / 2)), ai m3, ai m4, ai m5]), (fa, cn 0 6 (aup (aup (aup (aup (aup (aup fa0 0 num) 1 kd) 2 (n / 10)) 3 g1) 4 s1) 5 (tt % 10)))] (z := yX5_unsureBy) (As := [ai s1, ai g1]) (rest := [ar h]) (c_X5_unsureBy_k9 pl ta kd num pv sk hn gl sc pu tu s1 g1 (by first | omega | assumption) (by first | omega | assumption)) (c := 9) rfl (Or.inl r6) wl_X4_49 wsm_0 wi_X5_unsureBy wk_X5_unsureBy wv_X9_X5_unsureBy_X5_unsureBy wi_X5_unsureBy wk_X5_unsureBy wz_X5 mdo_X5_unsureBy rfl (Nat.le_of_ble_eq_true rfl) ⟨Nat.le_of_ble_eq_true rfl, Nat.le_of_ble_eq_true rfl, Nat.le_of_ble_eq_true rfl, Nat.le_of_ble_eq_true rfl⟩ rfl rfl rfl rfl (by decide) (ro_cons (Or.inl r6) ro_nil) dX4_layFor_103 (fun u hu => ?_)
  show V x cX4_layFor RX4 7 (rmU 3 77 0 0) [(h, co 4 [ar fa, ai n, ai (10 * hn), ai ((-pv + tn (tt % 4) - 4) - (n / 2)), ai m3, ai m4, ai m5]), (fa, cn 0 6 (aup (aup (aup (aup (aup (aup fa0 0 num) 1 kd) 2 (n / 10)) 3 g1) 4 s1) 5 (tt % 10)))] 106 [(6, ar hq), (0, ar h), (1, ar wo), (2, ar pl), (3, ai n), (4, ai s1), (5, ai g1)] [ai (kUns s1 g1), ar h] 0 0
  refine v_put (pc := 106) 4 0 rfl fl_4_53_4 ck_4 ft_4_4 (okV_i _) (Nat.le_of_ble_eq_true rfl) (ws2 := [(h, co 4 [ar fa, ai n, ai (10 * hn), ai ((-pv + tn (tt % 4) - 4) - (n / 2)), ai (kUns s1 g1), ai m4, ai m5]), (fa, cn 0 6 (aup (aup (aup (aup (aup (aup fa0 0 num) 1 kd) 2 (n / 10)) 3 g1) 4 s1) 5 (tt % 10)))]) rfl dX4_layFor_106 ?_
  refine v_aload_n (pc := 109) 1 rfl dX4_layFor_109 ?_
  refine v_aload (pc := 110) 0 rfl dX4_layFor_110 ?_
  refine v_get (pc := 112) (v := ai wi) 0 (Or.inl r2) fl_4_56_3 rfl dX4_layFor_112 ?_
  refine v_put (pc := 115) 5 0 rfl fl_4_61_4 ck_4 ft_4_5 (okV_i _) (Nat.le_of_ble_eq_true rfl) (ws2 := [(h, co 4 [ar fa, ai n, ai (10 * hn), ai ((-pv + tn (tt % 4) - 4) - (n / 2)), ai (kUns s1 g1), ai wi, ai m5]), (fa, cn 0 6 (aup (aup (aup (aup (aup (aup fa0 0 num) 1 kd) 2 (n / 10)) 3 g1) 4 s1) 5 (tt % 10)))]) rfl dX4_layFor_115 ?_
  have hfa2 : ∀ k : Int, 0 ≤ k → k < 6 → (aup (aup (aup (aup (aup (aup fa0 0 num) 1 kd) 2 (n / 10)) 3 g1) 4 s1) 5 (tt % 10)) k = fbv num kd (n / 10) g1 s1 (tt % 10) k := by intro k k0 k1; unfold fbv; rcases (show k = 0 ∨ k = 1 ∨ k = 2 ∨ k = 3 ∨ k = 4 ∨ k = 5 by omega) with rfl | rfl | rfl | rfl | rfl | rfl <;> simp [aup]
  obtain ⟨fa2, hf2⟩ : ∃ z, z = (aup (aup (aup (aup (aup (aup fa0 0 num) 1 kd) 2 (n / 10)) 3 g1) 4 s1) 5 (tt % 10)) := ⟨_, rfl⟩
  rw [← hf2] at hfa2
  refine v_ws (ws2 := [(h, co 4 [ar fa, ai n, ai (10 * hn), ai ((-pv + tn (tt % 4) - 4) - (n / 2)), ai (kUns s1 g1), ai wi, ai m5]), (fa, cn 0 6 fa2)]) (by rw [hf2]) ?_
  have hbf : ∀ k : Int, 0 ≤ k → k < 6 → 0 ≤ fa2 k ∧ fa2 k ≤ 1000 := by intro k k0 k1; rw [hfa2 k k0 k1]; unfold fbv; (repeat' split) <;> omega
  refine v_aload_n (pc := 118) 1 rfl dX4_layFor_118 ?_
  refine v_aload (pc := 119) 0 rfl dX4_layFor_119 ?_
  refine v_iload_n (pc := 121) 4 rfl dX4_layFor_121 ?_
  refine v_aload_n (pc := 122) 1 rfl dX4_layFor_122 ?_
  refine v_get (pc := 123) (v := ar fa) 0 (Or.inr ⟨0, rfl⟩) fl_4_9_4 rfl dX4_layFor_123 ?_
  refine v_callV (pc := 126) [] [0, 1] [(h, co 4 [ar fa, ai n, ai (10 * hn), ai ((-pv + tn (tt % 4) - 4) - (n / 2)), ai (kUns s1 g1), ai wi, ai m5]), (fa, cn 0 6 fa2)] (As := [ai n, ar fa]) (rest := [ar h]) (c_X3_opensOf hq wi pa ns us sla ena cda n fa cd sl en fa2 (by first | omega | assumption) (by first | omega | assumption) (by assumption) (by exact fun m hm => hen fa2 m hm) (by exact hbf)) (c := 3) rfl (Or.inl r2) wl_X4_62 wi_X3_opensOf wv_X3_X3_opensOf_X3_opensOf wk_X3_opensOf wz_X3 md_X3_opensOf rfl (Nat.le_of_ble_eq_true rfl) ⟨Nat.le_of_ble_eq_true rfl, Nat.le_of_ble_eq_true rfl, Nat.le_of_ble_eq_true rfl, Nat.le_of_ble_eq_true rfl⟩ rfl rfl rfl rfl (by decide) (ro_cons (Or.inl r2) (ro_cons (Or.inl r3) (ro_cons (Or.inl r4) (ro_cons (Or.inl r5) (ro_cons (Or.inr ⟨1, rfl, by decide⟩) ro_nil))))) dX4_layFor_126 (fun u hu => ?_)
  show V x cX4_layFor RX4 7 (rmU 3 77 0 0) [(h, co 4 [ar fa, ai n, ai (10 * hn), ai ((-pv + tn (tt % 4) - 4) - (n / 2)), ai (kUns s1 g1), ai wi, ai m5]), (fa, cn 0 6 fa2)] 129 [(6, ar hq), (0, ar h), (1, ar wo), (2, ar pl), (3, ai n), (4, ai s1), (5, ai g1)] [ai (if 0 < opS fa2 cd sl en n ns.toNat then opS fa2 cd sl en n ns.toNat else 0), ar h] 0 0
  refine v_put (pc := 129) 6 0 rfl fl_4_66_4 ck_4 ft_4_6 (okV_i _) (Nat.le_of_ble_eq_true rfl) (ws2 := [(h, co 4 [ar fa, ai n, ai (10 * hn), ai ((-pv + tn (tt % 4) - 4) - (n / 2)), ai (kUns s1 g1), ai wi, ai (if 0 < opS fa2 cd sl en n ns.toNat then opS fa2 cd sl en n ns.toNat else 0)]), (fa, cn 0 6 fa2)]) rfl dX4_layFor_129 ?_
  exact hret fa2 _ _ _ _ _ (by exact hfa2) rfl rfl (Nat.le_of_ble_eq_true rfl) (Nat.le_of_ble_eq_true rfl) dX4_layFor_132
