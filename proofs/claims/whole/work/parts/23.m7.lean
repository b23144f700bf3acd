set_option maxHeartbeats 4000000 in
set_option maxRecDepth 100000 in
theorem c_X12_go {gS : sG} (ad : Nat → Nat) (v : Nat → Int) (h : Nat) (f : Int → Int) (by0 : Int → Int) (tr0 : Int → Int) (player : Int) (n : Int) (force : Int) (draw : Int) (hS : SOK f) (hb_player : -2147483648 ≤ player ∧ player < 2147483648) (hb_n : -2147483648 ≤ n ∧ n < 2147483648) (hb_force : -2147483648 ≤ force ∧ force < 2147483648) (hb_draw : -2147483648 ≤ draw ∧ draw < 2147483648) : Ct gS (S := Int × (Int → Int) × (Nat → Int) × (Int → Int) × (Int → Int)) yX12_go cX12_go 7 (some .int) 4 100 0 0 [ar h, ai player, ai n, ai force, ai draw] [((ad 1), cn 0 936 f), (h, co 12 (mO ad v)), ((ad 9), cn 0 6 by0), ((ad 10), cn 1 64 tr0)] (fun q => q ∈ ([] : aW)) (fun u => (u.1, u.2.1) = qGo f player n force draw ∧ vK v u.2.2.1) (fun u => some (ai u.1)) (fun u => [((ad 1), cn 0 936 u.2.1), (h, co 12 (mO ad u.2.2.1)), ((ad 9), cn 0 6 u.2.2.2.1), ((ad 10), cn 1 64 u.2.2.2.2)]) := by
  refine ct_I RX12 [(0, ar h), (1, ai player), (2, ai n), (3, ai force), (4, ai draw)] (by decide) rfl (Nat.le_of_ble_eq_true rfl) rfl (fun x hgS hro hret => ?_)
  subst hgS
  obtain ⟨hg, hSp, hSh, hSs, hSb, hSt, hwf⟩ := id hS
  obtain ⟨hg0, hg1, hg2, hg3, hg4, hg5, hg6, hg7⟩ := id hg
  show V x cX12_go RX12 7 (rmU 4 100 0 0) [((ad 1), cn 0 936 f), (h, co 12 (mO ad v)), ((ad 9), cn 0 6 by0), ((ad 10), cn 1 64 tr0)] 0 [(0, ar h), (1, ai player), (2, ai n), (3, ai force), (4, ai draw)] [] 0 0
  refine v_aload_n (pc := 0) 0 rfl dX12_go_0 ?_
  refine v_iload_n (pc := 1) 1 rfl dX12_go_1 ?_
  refine v_callV (pc := 2) [] [0, 1, 2, 3] [((ad 1), cn 0 936 f), (h, co 12 (mO ad v)), ((ad 9), cn 0 6 by0), ((ad 10), cn 1 64 tr0)] (As := [ai player]) (rest := []) (c_X12_isPlayer ad v h f player (by first | assumption | omega) (by first | assumption | omega)) (c := 12) rfl (Or.inr ⟨1, rfl⟩) wl_X12_136 wi_X12_isPlayer wv_X12_X12_isPlayer_X12_isPlayer wk_X12_isPlayer wz_X12 md_X12_isPlayer rfl (Nat.le_of_ble_eq_true rfl) ⟨Nat.le_of_ble_eq_true rfl, Nat.le_of_ble_eq_true rfl, Nat.le_of_ble_eq_true rfl, Nat.le_of_ble_eq_true rfl⟩ rfl rfl rfl rfl (by decide) (ro_cons (Or.inr ⟨1, rfl, by decide⟩) (ro_cons (Or.inr ⟨0, rfl, by decide⟩) ro_nil)) dX12_go_2 (fun u hu => ?_)
  show V x cX12_go RX12 7 (rmU 4 100 0 0) [((ad 1), cn 0 936 f), (h, co 12 (mO ad v)), ((ad 9), cn 0 6 by0), ((ad 10), cn 1 64 tr0)] 5 [(0, ar h), (1, ai player), (2, ai n), (3, ai force), (4, ai draw)] [ai (if 0 ≤ player ∧ player ≤ (f 0) - 1 then 1 else 0)] 0 0
  refine v_ifb_ne (pc := 5) 10 dX12_go_5 (by decide) (fun c_1 => ?_) (fun c_1 => ?_)
  · skip
    have hf := hSp player (by omega) (by omega)
    obtain ⟨hp, hf1, hf2, hf3, hf4, hf5, hf6, hf7, hf8⟩ := id hf
    refine v_iload_n (pc := 10) 2 rfl dX12_go_10 ?_
    refine v_iload_n (pc := 11) 3 rfl dX12_go_11 ?_
    refine v_callS (pc := 12) [] [0, 1, 2, 3] [((ad 1), cn 0 936 f), (h, co 12 (mO ad v)), ((ad 9), cn 0 6 by0), ((ad 10), cn 1 64 tr0)] (As := [ai n, ai force]) (rest := []) (c_X12_isPile n force (by first | assumption | omega) (by first | assumption | omega)) wl_X12_148 ws_X12_isPile wk_X12_isPile wz_X12 md_X12_isPile rfl (Nat.le_of_ble_eq_true rfl) ⟨Nat.le_of_ble_eq_true rfl, Nat.le_of_ble_eq_true rfl, Nat.le_of_ble_eq_true rfl, Nat.le_of_ble_eq_true rfl⟩ rfl rfl rfl rfl (by decide) ro_nil dX12_go_12 (fun u hu => ?_)
    show V x cX12_go RX12 7 (rmU 4 100 0 0) [((ad 1), cn 0 936 f), (h, co 12 (mO ad v)), ((ad 9), cn 0 6 by0), ((ad 10), cn 1 64 tr0)] 15 [(0, ar h), (1, ai player), (2, ai n), (3, ai force), (4, ai draw)] [ai (if (1 ≤ n ∧ n ≤ 99) ∧ (0 ≤ force ∧ force ≤ 20) then 1 else 0)] 0 0
    refine v_ifb_eq (pc := 15) 29 dX12_go_15 (by decide) (fun c_2 => ?_) (fun c_2 => ?_)
    · skip
      refine v_bipush (pc := 29) dX12_go_29 (by decide) ?_
      exact hret ((-2), f, v, by0, tr0) _ _ _ _ _ _ (by ((refine ⟨?_, ?_⟩); (unfold qGo; (repeat' split) <;> first | rfl | (exfalso; omega) | (dsimp only; (repeat' split) <;> first | rfl | (exfalso; omega) | (rw [hlr]))); (first | exact hkeep | exact vK_rf v))) (congrArg (fun z => some (ai z)) (by rfl)) rfl (Nat.le_of_ble_eq_true rfl) (Nat.le_of_ble_eq_true rfl) dX12_go_31
    · skip
      refine v_iload (pc := 18) 4 rfl dX12_go_18 ?_
      refine v_iconst (pc := 20) dX12_go_20 ?_
      refine v_bipush (pc := 21) dX12_go_21 (by decide) ?_
      refine v_callS (pc := 23) [] [0, 1, 2, 3] [((ad 1), cn 0 936 f), (h, co 12 (mO ad v)), ((ad 9), cn 0 6 by0), ((ad 10), cn 1 64 tr0)] (As := [ai draw, ai 0, ai 9]) (rest := []) (c_X12_in draw 0 9 (by first | assumption | omega) (by first | assumption | omega) (by first | assumption | omega)) wl_X12_41 ws_X12_in wk_X12_in wz_X12 md_X12_in rfl (Nat.le_of_ble_eq_true rfl) ⟨Nat.le_of_ble_eq_true rfl, Nat.le_of_ble_eq_true rfl, Nat.le_of_ble_eq_true rfl, Nat.le_of_ble_eq_true rfl⟩ rfl rfl rfl rfl (by decide) ro_nil dX12_go_23 (fun u hu => ?_)
      show V x cX12_go RX12 7 (rmU 4 100 0 0) [((ad 1), cn 0 936 f), (h, co 12 (mO ad v)), ((ad 9), cn 0 6 by0), ((ad 10), cn 1 64 tr0)] 26 [(0, ar h), (1, ai player), (2, ai n), (3, ai force), (4, ai draw)] [ai (if 0 ≤ draw ∧ draw ≤ 9 then 1 else 0)] 0 0
      refine v_ifb_ne (pc := 26) 32 dX12_go_26 (by decide) (fun c_3 => ?_) (fun c_3 => ?_)
      · skip
        refine v_aload_n (pc := 32) 0 rfl dX12_go_32 ?_
        refine v_get (pc := 33) (v := ar (ad 1)) 1 (Or.inr ⟨1, rfl⟩) fl_12_9_12 rfl dX12_go_33 ?_
        refine v_bipush (pc := 36) dX12_go_36 (by decide) ?_
        refine v_iald (pc := 38) (Or.inr ⟨0, rfl⟩) (by omega) (by omega) (by decide) dX12_go_38 ?_
        refine v_sipush (pc := 39) dX12_go_39 (by decide) ?_
        refine v_icmp_ne (pc := 42) 48 dX12_go_42 (by decide) (by unfold iB; omega) (by unfold iB; omega) (fun c_4 => ?_) (fun c_4 => ?_)
        · skip
          refine v_aload_n (pc := 48) 0 rfl dX12_go_48 ?_
          refine v_iload_n (pc := 49) 1 rfl dX12_go_49 ?_
          refine v_iload_n (pc := 50) 2 rfl dX12_go_50 ?_
          refine v_iload_n (pc := 51) 3 rfl dX12_go_51 ?_
          refine v_iload (pc := 52) 4 rfl dX12_go_52 ?_
          refine v_callV (pc := 54) [1, 2, 3] [0] [((ad 1), cn 0 936 f)] (As := [ai player, ai n, ai force, ai draw]) (rest := []) (c_X12_caught ad v h f by0 tr0 player n force draw (by first | assumption | omega) (by first | assumption | omega) (by first | assumption | omega) (by first | assumption | omega) (by first | assumption | omega) (by first | assumption | omega)) (c := 12) rfl (Or.inr ⟨1, rfl⟩) wl_X12_163 wi_X12_caught wv_X12_X12_caught_X12_caught wk_X12_caught wz_X12 md_X12_caught rfl (Nat.le_of_ble_eq_true rfl) ⟨Nat.le_of_ble_eq_true rfl, Nat.le_of_ble_eq_true rfl, Nat.le_of_ble_eq_true rfl, Nat.le_of_ble_eq_true rfl⟩ rfl rfl rfl rfl (by decide) (ro_cons (Or.inr ⟨0, rfl, by decide⟩) ro_nil) dX12_go_54 (fun u hu => ?_)
          obtain ⟨v2_5, by2_6, tr2_7⟩ := u
          have g_8 : vK v v2_5 ∧ v2_5 13 = v 13 ∧ v2_5 15 = v 15 := hu
          show V x cX12_go RX12 7 (rmU 4 100 0 0) [((ad 1), cn 0 936 f), (h, co 12 (mO ad v2_5)), ((ad 9), cn 0 6 by2_6), ((ad 10), cn 1 64 tr2_7)] 57 [(0, ar h), (1, ai player), (2, ai n), (3, ai force), (4, ai draw)] [ai (fCat f player n force draw (kOp f player n 0))] 0 0
          have hkeep := g_8.1
          have hcb : 0 ≤ fCat f player n force draw (kOp f player n 0) ∧ fCat f player n force draw (kOp f player n 0) ≤ n := kCat_b (by omega)
          refine v_istore (pc := 57) (L2 := [(5, ai (fCat f player n force draw (kOp f player n 0))), (0, ar h), (1, ai player), (2, ai n), (3, ai force), (4, ai draw)]) rfl (by decide) dX12_go_57 ?_
          refine v_aload_n (pc := 59) 1 rfl dX12_go_59 ?_
          refine v_get (pc := 60) (v := ar (ad 1)) 1 (Or.inr ⟨1, rfl⟩) fl_12_9_12 rfl dX12_go_60 ?_
          refine v_bipush (pc := 63) dX12_go_63 (by decide) ?_
          refine v_iload_n (pc := 65) 2 rfl dX12_go_65 ?_
          refine v_iadd (pc := 66) dX12_go_66 ?_
          refine v_iald (pc := 67) (Or.inr ⟨0, rfl⟩) (by omega) (by omega) (by decide) dX12_go_67 ?_
          refine v_aload_n (pc := 68) 1 rfl dX12_go_68 ?_
          refine v_sipush (pc := 69) dX12_go_69 (by decide) ?_
          refine v_iconst (pc := 72) dX12_go_72 ?_
          refine v_callV (pc := 73) [] [0, 1, 2, 3] [((ad 1), cn 0 936 f), (h, co 12 (mO ad v2_5)), ((ad 9), cn 0 6 by2_6), ((ad 10), cn 1 64 tr2_7)] (As := [ai 226, ai 1]) (rest := [ai (f (43 + player))]) (c_X12_tellsOf ad v2_5 h f 226 1 (by first | assumption | omega) (by first | assumption | omega)) (c := 12) rfl (Or.inr ⟨1, rfl⟩) wl_X12_129 wi_X12_tellsOf wv_X12_X12_tellsOf_X12_tellsOf wk_X12_tellsOf wz_X12 md_X12_tellsOf rfl (Nat.le_of_ble_eq_true rfl) ⟨Nat.le_of_ble_eq_true rfl, Nat.le_of_ble_eq_true rfl, Nat.le_of_ble_eq_true rfl, Nat.le_of_ble_eq_true rfl⟩ rfl rfl rfl rfl (by decide) (ro_cons (Or.inr ⟨1, rfl, by decide⟩) (ro_cons (Or.inr ⟨0, rfl, by decide⟩) ro_nil)) dX12_go_73 (fun u hu => ?_)
          show V x cX12_go RX12 7 (rmU 4 100 0 0) [((ad 1), cn 0 936 f), (h, co 12 (mO ad v2_5)), ((ad 9), cn 0 6 by2_6), ((ad 10), cn 1 64 tr2_7)] 76 [(5, ai (fCat f player n force draw (kOp f player n 0))), (0, ar h), (1, ai player), (2, ai n), (3, ai force), (4, ai draw)] [ai (if f 5 = -1 then 1 else f (226 + f 5)), ai (f (43 + player))] 0 0
          refine v_eqi (y := (kPay f)) (rfl) ?_
          have hml := mul_bnd (kPay_b hg) (a := kPay f) (b := n - fCat f player n force draw (kOp f player n 0)) (B := 99) (by omega)
          refine v_iload_n (pc := 76) 3 rfl dX12_go_76 ?_
          refine v_iload (pc := 77) 0 rfl dX12_go_77 ?_
          refine v_isub (pc := 79) dX12_go_79 ?_
          refine v_imul (pc := 80) dX12_go_80 ?_
          refine v_isub (pc := 81) dX12_go_81 ?_
          refine v_istore (pc := 82) (L2 := [(6, ai ((f (43 + player)) - ((kPay f) * (n - (fCat f player n force draw (kOp f player n 0)))))), (5, ai (fCat f player n force draw (kOp f player n 0))), (0, ar h), (1, ai player), (2, ai n), (3, ai force), (4, ai draw)]) rfl (by decide) dX12_go_82 ?_
          refine v_aload_n (pc := 84) 2 rfl dX12_go_84 ?_
          refine v_get (pc := 85) (v := ar (ad 1)) 1 (Or.inr ⟨1, rfl⟩) fl_12_9_12 rfl dX12_go_85 ?_
          refine v_bipush (pc := 88) dX12_go_88 (by decide) ?_
          refine v_iload_n (pc := 90) 3 rfl dX12_go_90 ?_
          refine v_iadd (pc := 91) dX12_go_91 ?_
          refine v_iload (pc := 92) 0 rfl dX12_go_92 ?_
          refine v_if_ge (pc := 94) 101 dX12_go_94 (by decide) (by unfold iB; omega) (fun c_9 => ?_) (fun c_9 => ?_)
          · skip
            refine v_iload (pc := 101) 0 rfl dX12_go_101 ?_
            refine v_iast (pc := 103) 0 rfl (by omega) (by omega) (by decide) (ws2 := [((ad 1), cn 0 936 (aup f (43 + player) ((f (43 + player)) - ((kPay f) * (n - (fCat f player n force draw (kOp f player n 0))))))), (h, co 12 (mO ad v2_5)), ((ad 9), cn 0 6 by2_6), ((ad 10), cn 1 64 tr2_7)]) rfl dX12_go_103 ?_
            refine v_iload (pc := 104) 1 rfl dX12_go_104 ?_
            refine v_iload_n (pc := 106) 4 rfl dX12_go_106 ?_
            refine v_icmp_ne (pc := 107) 116 dX12_go_107 (by decide) (by unfold iB; omega) (by unfold iB; omega) (fun c_10 => ?_) (fun c_10 => ?_)
            · skip
              refine v_aload_n (pc := 116) 2 rfl dX12_go_116 ?_
              refine v_get (pc := 117) (v := ar (ad 1)) 1 (Or.inr ⟨1, rfl⟩) fl_12_9_12 rfl dX12_go_117 ?_
              refine v_bipush (pc := 120) dX12_go_120 (by decide) ?_
              refine v_dup2 (pc := 122) rfl rfl dX12_go_122 ?_
              refine v_iald (pc := 123) (Or.inr ⟨0, rfl⟩) (by omega) (by omega) (by decide) dX12_go_123 ?_
              refine v_iconst (pc := 124) dX12_go_124 ?_
              refine v_iadd (pc := 125) dX12_go_125 ?_
              refine v_iast (pc := 126) 0 rfl (by omega) (by omega) (by decide) (ws2 := [((ad 1), cn 0 936 (aup (aup f (43 + player) ((f (43 + player)) - ((kPay f) * (n - (fCat f player n force draw (kOp f player n 0)))))) 6 (((aup f (43 + player) ((f (43 + player)) - ((kPay f) * (n - (fCat f player n force draw (kOp f player n 0)))))) 6) + 1))), (h, co 12 (mO ad v2_5)), ((ad 9), cn 0 6 by2_6), ((ad 10), cn 1 64 tr2_7)]) rfl dX12_go_126 ?_
              refine v_iload (pc := 127) 1 rfl dX12_go_127 ?_
              exact hret ((fCat f player n force draw (kOp f player n 0)), (aup (aup f (43 + player) ((f (43 + player)) - ((kPay f) * (n - (fCat f player n force draw (kOp f player n 0)))))) 6 (((aup f (43 + player) ((f (43 + player)) - ((kPay f) * (n - (fCat f player n force draw (kOp f player n 0)))))) 6) + 1)), v2_5, by2_6, tr2_7) _ _ _ _ _ _ (by ((refine ⟨?_, ?_⟩); (unfold qGo; (repeat' split) <;> first | rfl | (exfalso; omega) | (dsimp only; (repeat' split) <;> first | rfl | (exfalso; omega) | (rw [hlr]))); (first | exact hkeep | exact vK_rf v))) (congrArg (fun z => some (ai z)) (by rfl)) rfl (Nat.le_of_ble_eq_true rfl) (Nat.le_of_ble_eq_true rfl) dX12_go_129
            · skip
              refine v_aload_n (pc := 110) 2 rfl dX12_go_110 ?_
              refine v_iload_n (pc := 111) 3 rfl dX12_go_111 ?_
              refine v_iload_n (pc := 112) 4 rfl dX12_go_112 ?_
              refine v_callV (pc := 113) [0] [1, 2, 3] [(h, co 12 (mO ad v2_5)), ((ad 9), cn 0 6 by2_6), ((ad 10), cn 1 64 tr2_7)] (As := [ai player, ai n]) (rest := []) (c_X12_learnsBy ad v2_5 h (aup f (43 + player) ((f (43 + player)) - ((kPay f) * (n - (fCat f player n force draw (kOp f player n 0)))))) player n (by exact PF_up hf (Or.inr (by omega))) (by first | assumption | omega)) (c := 12) rfl (Or.inr ⟨1, rfl⟩) wl_X12_167 wi_X12_learnsBy wv_X12_X12_learnsBy_X12_learnsBy wk_X12_learnsBy wz_X12 md_X12_learnsBy rfl (Nat.le_of_ble_eq_true rfl) ⟨Nat.le_of_ble_eq_true rfl, Nat.le_of_ble_eq_true rfl, Nat.le_of_ble_eq_true rfl, Nat.le_of_ble_eq_true rfl⟩ rfl rfl rfl rfl (by decide) (ro_cons (Or.inr ⟨1, rfl, by decide⟩) ro_nil) dX12_go_113 (fun u hu => ?_)
              obtain ⟨f2_11, rfl⟩ : ∃ z, z = u := ⟨_, rfl⟩
              have g_12 : f2_11 = kLrn (aup f (43 + player) ((f (43 + player)) - ((kPay f) * (n - (fCat f player n force draw (kOp f player n 0)))))) player n := hu
              show V x cX12_go RX12 7 (rmU 4 100 0 0) [(h, co 12 (mO ad v2_5)), ((ad 9), cn 0 6 by2_6), ((ad 10), cn 1 64 tr2_7), ((ad 1), cn 0 936 f2_11)] 116 [(6, ai ((f (43 + player)) - ((kPay f) * (n - (fCat f player n force draw (kOp f player n 0)))))), (5, ai (fCat f player n force draw (kOp f player n 0))), (0, ar h), (1, ai player), (2, ai n), (3, ai force), (4, ai draw)] [] 0 0
              have hlr := g_12
              refine v_aload_n (pc := 116) 2 rfl dX12_go_116 ?_
              refine v_get (pc := 117) (v := ar (ad 1)) 1 (Or.inr ⟨0, rfl⟩) fl_12_9_12 rfl dX12_go_117 ?_
              refine v_bipush (pc := 120) dX12_go_120 (by decide) ?_
              refine v_dup2 (pc := 122) rfl rfl dX12_go_122 ?_
              refine v_iald (pc := 123) (Or.inr ⟨3, rfl⟩) (by omega) (by omega) (by decide) dX12_go_123 ?_
              refine v_iconst (pc := 124) dX12_go_124 ?_
              refine v_iadd (pc := 125) dX12_go_125 ?_
              refine v_iast (pc := 126) 3 rfl (by omega) (by omega) (by decide) (ws2 := [(h, co 12 (mO ad v2_5)), ((ad 9), cn 0 6 by2_6), ((ad 10), cn 1 64 tr2_7), ((ad 1), cn 0 936 (aup f2_11 6 ((f2_11 6) + 1)))]) rfl dX12_go_126 ?_
              refine v_iload (pc := 127) 1 rfl dX12_go_127 ?_
              refine v_wsub (ws2 := [((ad 1), cn 0 936 (aup f2_11 6 ((f2_11 6) + 1))), (h, co 12 (mO ad v2_5)), ((ad 9), cn 0 6 by2_6), ((ad 10), cn 1 64 tr2_7)]) [3, 0, 1, 2] rfl rfl ?_
              exact hret ((fCat f player n force draw (kOp f player n 0)), (aup f2_11 6 ((f2_11 6) + 1)), v2_5, by2_6, tr2_7) _ _ _ _ _ _ (by ((refine ⟨?_, ?_⟩); (unfold qGo; (repeat' split) <;> first | rfl | (exfalso; omega) | (dsimp only; (repeat' split) <;> first | rfl | (exfalso; omega) | (rw [hlr]))); (first | exact hkeep | exact vK_rf v))) (congrArg (fun z => some (ai z)) (by rfl)) rfl (Nat.le_of_ble_eq_true rfl) (Nat.le_of_ble_eq_true rfl) dX12_go_129
          · skip
            refine v_iconst (pc := 97) dX12_go_97 ?_
            refine v_goto (pc := 98) 103 dX12_go_98 (by decide) ?_
            refine v_iast (pc := 103) 0 rfl (by omega) (by omega) (by decide) (ws2 := [((ad 1), cn 0 936 (aup f (43 + player) 0)), (h, co 12 (mO ad v2_5)), ((ad 9), cn 0 6 by2_6), ((ad 10), cn 1 64 tr2_7)]) rfl dX12_go_103 ?_
            refine v_iload (pc := 104) 1 rfl dX12_go_104 ?_
            refine v_iload_n (pc := 106) 4 rfl dX12_go_106 ?_
            refine v_icmp_ne (pc := 107) 116 dX12_go_107 (by decide) (by unfold iB; omega) (by unfold iB; omega) (fun c_13 => ?_) (fun c_13 => ?_)
            · skip
              refine v_aload_n (pc := 116) 2 rfl dX12_go_116 ?_
              refine v_get (pc := 117) (v := ar (ad 1)) 1 (Or.inr ⟨1, rfl⟩) fl_12_9_12 rfl dX12_go_117 ?_
              refine v_bipush (pc := 120) dX12_go_120 (by decide) ?_
              refine v_dup2 (pc := 122) rfl rfl dX12_go_122 ?_
              refine v_iald (pc := 123) (Or.inr ⟨0, rfl⟩) (by omega) (by omega) (by decide) dX12_go_123 ?_
              refine v_iconst (pc := 124) dX12_go_124 ?_
              refine v_iadd (pc := 125) dX12_go_125 ?_
              refine v_iast (pc := 126) 0 rfl (by omega) (by omega) (by decide) (ws2 := [((ad 1), cn 0 936 (aup (aup f (43 + player) 0) 6 (((aup f (43 + player) 0) 6) + 1))), (h, co 12 (mO ad v2_5)), ((ad 9), cn 0 6 by2_6), ((ad 10), cn 1 64 tr2_7)]) rfl dX12_go_126 ?_
              refine v_iload (pc := 127) 1 rfl dX12_go_127 ?_
              exact hret ((fCat f player n force draw (kOp f player n 0)), (aup (aup f (43 + player) 0) 6 (((aup f (43 + player) 0) 6) + 1)), v2_5, by2_6, tr2_7) _ _ _ _ _ _ (by ((refine ⟨?_, ?_⟩); (unfold qGo; (repeat' split) <;> first | rfl | (exfalso; omega) | (dsimp only; (repeat' split) <;> first | rfl | (exfalso; omega) | (rw [hlr]))); (first | exact hkeep | exact vK_rf v))) (congrArg (fun z => some (ai z)) (by rfl)) rfl (Nat.le_of_ble_eq_true rfl) (Nat.le_of_ble_eq_true rfl) dX12_go_129
            · skip
              refine v_aload_n (pc := 110) 2 rfl dX12_go_110 ?_
              refine v_iload_n (pc := 111) 3 rfl dX12_go_111 ?_
              refine v_iload_n (pc := 112) 4 rfl dX12_go_112 ?_
              refine v_callV (pc := 113) [0] [1, 2, 3] [(h, co 12 (mO ad v2_5)), ((ad 9), cn 0 6 by2_6), ((ad 10), cn 1 64 tr2_7)] (As := [ai player, ai n]) (rest := []) (c_X12_learnsBy ad v2_5 h (aup f (43 + player) 0) player n (by exact PF_up hf (Or.inr (by omega))) (by first | assumption | omega)) (c := 12) rfl (Or.inr ⟨1, rfl⟩) wl_X12_167 wi_X12_learnsBy wv_X12_X12_learnsBy_X12_learnsBy wk_X12_learnsBy wz_X12 md_X12_learnsBy rfl (Nat.le_of_ble_eq_true rfl) ⟨Nat.le_of_ble_eq_true rfl, Nat.le_of_ble_eq_true rfl, Nat.le_of_ble_eq_true rfl, Nat.le_of_ble_eq_true rfl⟩ rfl rfl rfl rfl (by decide) (ro_cons (Or.inr ⟨1, rfl, by decide⟩) ro_nil) dX12_go_113 (fun u hu => ?_)
              obtain ⟨f2_14, rfl⟩ : ∃ z, z = u := ⟨_, rfl⟩
              have g_15 : f2_14 = kLrn (aup f (43 + player) 0) player n := hu
              show V x cX12_go RX12 7 (rmU 4 100 0 0) [(h, co 12 (mO ad v2_5)), ((ad 9), cn 0 6 by2_6), ((ad 10), cn 1 64 tr2_7), ((ad 1), cn 0 936 f2_14)] 116 [(6, ai ((f (43 + player)) - ((kPay f) * (n - (fCat f player n force draw (kOp f player n 0)))))), (5, ai (fCat f player n force draw (kOp f player n 0))), (0, ar h), (1, ai player), (2, ai n), (3, ai force), (4, ai draw)] [] 0 0
              have hlr := g_15
              refine v_aload_n (pc := 116) 2 rfl dX12_go_116 ?_
              refine v_get (pc := 117) (v := ar (ad 1)) 1 (Or.inr ⟨0, rfl⟩) fl_12_9_12 rfl dX12_go_117 ?_
              refine v_bipush (pc := 120) dX12_go_120 (by decide) ?_
              refine v_dup2 (pc := 122) rfl rfl dX12_go_122 ?_
              refine v_iald (pc := 123) (Or.inr ⟨3, rfl⟩) (by omega) (by omega) (by decide) dX12_go_123 ?_
              refine v_iconst (pc := 124) dX12_go_124 ?_
              refine v_iadd (pc := 125) dX12_go_125 ?_
              refine v_iast (pc := 126) 3 rfl (by omega) (by omega) (by decide) (ws2 := [(h, co 12 (mO ad v2_5)), ((ad 9), cn 0 6 by2_6), ((ad 10), cn 1 64 tr2_7), ((ad 1), cn 0 936 (aup f2_14 6 ((f2_14 6) + 1)))]) rfl dX12_go_126 ?_
              refine v_iload (pc := 127) 1 rfl dX12_go_127 ?_
              refine v_wsub (ws2 := [((ad 1), cn 0 936 (aup f2_14 6 ((f2_14 6) + 1))), (h, co 12 (mO ad v2_5)), ((ad 9), cn 0 6 by2_6), ((ad 10), cn 1 64 tr2_7)]) [3, 0, 1, 2] rfl rfl ?_
              exact hret ((fCat f player n force draw (kOp f player n 0)), (aup f2_14 6 ((f2_14 6) + 1)), v2_5, by2_6, tr2_7) _ _ _ _ _ _ (by ((refine ⟨?_, ?_⟩); (unfold qGo; (repeat' split) <;> first | rfl | (exfalso; omega) | (dsimp only; (repeat' split) <;> first | rfl | (exfalso; omega) | (rw [hlr]))); (first | exact hkeep | exact vK_rf v))) (congrArg (fun z => some (ai z)) (by rfl)) rfl (Nat.le_of_ble_eq_true rfl) (Nat.le_of_ble_eq_true rfl) dX12_go_129
        · skip
          refine v_bipush (pc := 45) dX12_go_45 (by decide) ?_
          exact hret ((-3), f, v, by0, tr0) _ _ _ _ _ _ (by ((refine ⟨?_, ?_⟩); (unfold qGo; (repeat' split) <;> first | rfl | (exfalso; omega) | (dsimp only; (repeat' split) <;> first | rfl | (exfalso; omega) | (rw [hlr]))); (first | exact hkeep | exact vK_rf v))) (congrArg (fun z => some (ai z)) (by rfl)) rfl (Nat.le_of_ble_eq_true rfl) (Nat.le_of_ble_eq_true rfl) dX12_go_47
      · skip
        refine v_bipush (pc := 29) dX12_go_29 (by decide) ?_
        exact hret ((-2), f, v, by0, tr0) _ _ _ _ _ _ (by ((refine ⟨?_, ?_⟩); (unfold qGo; (repeat' split) <;> first | rfl | (exfalso; omega) | (dsimp only; (repeat' split) <;> first | rfl | (exfalso; omega) | (rw [hlr]))); (first | exact hkeep | exact vK_rf v))) (congrArg (fun z => some (ai z)) (by rfl)) rfl (Nat.le_of_ble_eq_true rfl) (Nat.le_of_ble_eq_true rfl) dX12_go_31
  · skip
    refine v_iconst (pc := 8) dX12_go_8 ?_
    exact hret ((-1), f, v, by0, tr0) _ _ _ _ _ _ (by ((refine ⟨?_, ?_⟩); (unfold qGo; (repeat' split) <;> first | rfl | (exfalso; omega) | (dsimp only; (repeat' split) <;> first | rfl | (exfalso; omega) | (rw [hlr]))); (first | exact hkeep | exact vK_rf v))) (congrArg (fun z => some (ai z)) (by rfl)) rfl (Nat.le_of_ble_eq_true rfl) (Nat.le_of_ble_eq_true rfl) dX12_go_9
set_option maxHeartbeats 4000000 in
set_option maxRecDepth 100000 in
theorem c_X12_player {gS : sG} (ad : Nat → Nat) (v : Nat → Int) (h : Nat) (f : Int → Int) (kind : Int) (vv : Int) (skill : Int) (hand : Int) (purse : Int) (hS : SOK f) (hb_kind : -2147483648 ≤ kind ∧ kind < 2147483648) (hb_vv : -2147483648 ≤ vv ∧ vv < 2147483648) (hb_skill : -2147483648 ≤ skill ∧ skill < 2147483648) (hb_hand : -2147483648 ≤ hand ∧ hand < 2147483648) (hb_purse : -2147483648 ≤ purse ∧ purse < 2147483648) : Ct gS (S := Int × (Int → Int)) yX12_player cX12_player 8 (some .int) 1 22 0 0 [ar h, ai kind, ai vv, ai skill, ai hand, ai purse] [((ad 1), cn 0 936 f)] (fun q => q ∈ ([(h, co 12 (mO ad v))] : aW)) (fun u => (u.1, u.2) = qPlayer f kind vv skill hand purse) (fun u => some (ai u.1)) (fun u => [((ad 1), cn 0 936 u.2)]) := by
  refine ct_I RX12 [(0, ar h), (1, ai kind), (2, ai vv), (3, ai skill), (4, ai hand), (5, ai purse)] (by decide) rfl (Nat.le_of_ble_eq_true rfl) rfl (fun x hgS hro hret => ?_)
  subst hgS
  have r0 := hro _ (mem_at 0 rfl)
  obtain ⟨hg, hSp, hSh, hSs, hSb, hSt, hwf⟩ := id hS
  obtain ⟨hg0, hg1, hg2, hg3, hg4, hg5, hg6, hg7⟩ := id hg
  show V x cX12_player RX12 8 (rmU 1 22 0 0) [((ad 1), cn 0 936 f)] 0 [(0, ar h), (1, ai kind), (2, ai vv), (3, ai skill), (4, ai hand), (5, ai purse)] [] 0 0
  refine v_iload_n (pc := 0) 1 rfl dX12_player_0 ?_
  refine v_iconst (pc := 1) dX12_player_1 ?_
  refine v_bipush (pc := 2) dX12_player_2 (by decide) ?_
  refine v_callS (pc := 4) [] [0] [((ad 1), cn 0 936 f)] (As := [ai kind, ai 0, ai 6]) (rest := []) (c_X12_in kind 0 6 (by first | assumption | omega) (by first | assumption | omega) (by first | assumption | omega)) wl_X12_41 ws_X12_in wk_X12_in wz_X12 md_X12_in rfl (Nat.le_of_ble_eq_true rfl) ⟨Nat.le_of_ble_eq_true rfl, Nat.le_of_ble_eq_true rfl, Nat.le_of_ble_eq_true rfl, Nat.le_of_ble_eq_true rfl⟩ rfl rfl rfl rfl (by decide) ro_nil dX12_player_4 (fun u hu => ?_)
  show V x cX12_player RX12 8 (rmU 1 22 0 0) [((ad 1), cn 0 936 f)] 7 [(0, ar h), (1, ai kind), (2, ai vv), (3, ai skill), (4, ai hand), (5, ai purse)] [ai (if 0 ≤ kind ∧ kind ≤ 6 then 1 else 0)] 0 0
  refine v_ifb_ne (pc := 7) 12 dX12_player_7 (by decide) (fun c_1 => ?_) (fun c_1 => ?_)
  · skip
    refine v_iload_n (pc := 12) 2 rfl dX12_player_12 ?_
    refine v_iconst (pc := 13) dX12_player_13 ?_
    refine v_bipush (pc := 14) dX12_player_14 (by decide) ?_
    refine v_callS (pc := 16) [] [0] [((ad 1), cn 0 936 f)] (As := [ai vv, ai 0, ai 9]) (rest := []) (c_X12_in vv 0 9 (by first | assumption | omega) (by first | assumption | omega) (by first | assumption | omega)) wl_X12_41 ws_X12_in wk_X12_in wz_X12 md_X12_in rfl (Nat.le_of_ble_eq_true rfl) ⟨Nat.le_of_ble_eq_true rfl, Nat.le_of_ble_eq_true rfl, Nat.le_of_ble_eq_true rfl, Nat.le_of_ble_eq_true rfl⟩ rfl rfl rfl rfl (by decide) ro_nil dX12_player_16 (fun u hu => ?_)
    show V x cX12_player RX12 8 (rmU 1 22 0 0) [((ad 1), cn 0 936 f)] 19 [(0, ar h), (1, ai kind), (2, ai vv), (3, ai skill), (4, ai hand), (5, ai purse)] [ai (if 0 ≤ vv ∧ vv ≤ 9 then 1 else 0)] 0 0
    refine v_ifb_eq (pc := 19) 55 dX12_player_19 (by decide) (fun c_2 => ?_) (fun c_2 => ?_)
    · skip
      refine v_bipush (pc := 55) dX12_player_55 (by decide) ?_
      exact hret ((-2), f) _ _ _ _ _ _ (by (unfold qPlayer; (repeat' split) <;> first | rfl | (exfalso; omega) | (rw [hf1, show kk.toNat = 4 by omega]))) (congrArg (fun z => some (ai z)) (by rfl)) rfl (Nat.le_of_ble_eq_true rfl) (Nat.le_of_ble_eq_true rfl) dX12_player_57
    · skip
      refine v_iload_n (pc := 22) 3 rfl dX12_player_22 ?_
      refine v_iconst (pc := 23) dX12_player_23 ?_
      refine v_bipush (pc := 24) dX12_player_24 (by decide) ?_
      refine v_callS (pc := 26) [] [0] [((ad 1), cn 0 936 f)] (As := [ai skill, ai 0, ai 20]) (rest := []) (c_X12_in skill 0 20 (by first | assumption | omega) (by first | assumption | omega) (by first | assumption | omega)) wl_X12_41 ws_X12_in wk_X12_in wz_X12 md_X12_in rfl (Nat.le_of_ble_eq_true rfl) ⟨Nat.le_of_ble_eq_true rfl, Nat.le_of_ble_eq_true rfl, Nat.le_of_ble_eq_true rfl, Nat.le_of_ble_eq_true rfl⟩ rfl rfl rfl rfl (by decide) ro_nil dX12_player_26 (fun u hu => ?_)
      show V x cX12_player RX12 8 (rmU 1 22 0 0) [((ad 1), cn 0 936 f)] 29 [(0, ar h), (1, ai kind), (2, ai vv), (3, ai skill), (4, ai hand), (5, ai purse)] [ai (if 0 ≤ skill ∧ skill ≤ 20 then 1 else 0)] 0 0
      refine v_ifb_eq (pc := 29) 55 dX12_player_29 (by decide) (fun c_3 => ?_) (fun c_3 => ?_)
      · skip
        refine v_bipush (pc := 55) dX12_player_55 (by decide) ?_
        exact hret ((-2), f) _ _ _ _ _ _ (by (unfold qPlayer; (repeat' split) <;> first | rfl | (exfalso; omega) | (rw [hf1, show kk.toNat = 4 by omega]))) (congrArg (fun z => some (ai z)) (by rfl)) rfl (Nat.le_of_ble_eq_true rfl) (Nat.le_of_ble_eq_true rfl) dX12_player_57
      · skip
        refine v_iload (pc := 32) 4 rfl dX12_player_32 ?_
        refine v_iconst (pc := 34) dX12_player_34 ?_
        refine v_bipush (pc := 35) dX12_player_35 (by decide) ?_
        refine v_callS (pc := 37) [] [0] [((ad 1), cn 0 936 f)] (As := [ai hand, ai 1, ai 9]) (rest := []) (c_X12_in hand 1 9 (by first | assumption | omega) (by first | assumption | omega) (by first | assumption | omega)) wl_X12_41 ws_X12_in wk_X12_in wz_X12 md_X12_in rfl (Nat.le_of_ble_eq_true rfl) ⟨Nat.le_of_ble_eq_true rfl, Nat.le_of_ble_eq_true rfl, Nat.le_of_ble_eq_true rfl, Nat.le_of_ble_eq_true rfl⟩ rfl rfl rfl rfl (by decide) ro_nil dX12_player_37 (fun u hu => ?_)
        show V x cX12_player RX12 8 (rmU 1 22 0 0) [((ad 1), cn 0 936 f)] 40 [(0, ar h), (1, ai kind), (2, ai vv), (3, ai skill), (4, ai hand), (5, ai purse)] [ai (if 1 ≤ hand ∧ hand ≤ 9 then 1 else 0)] 0 0
        refine v_ifb_eq (pc := 40) 55 dX12_player_40 (by decide) (fun c_4 => ?_) (fun c_4 => ?_)
        · skip
          refine v_bipush (pc := 55) dX12_player_55 (by decide) ?_
          exact hret ((-2), f) _ _ _ _ _ _ (by (unfold qPlayer; (repeat' split) <;> first | rfl | (exfalso; omega) | (rw [hf1, show kk.toNat = 4 by omega]))) (congrArg (fun z => some (ai z)) (by rfl)) rfl (Nat.le_of_ble_eq_true rfl) (Nat.le_of_ble_eq_true rfl) dX12_player_57
        · skip
          refine v_iload (pc := 43) 5 rfl dX12_player_43 ?_
          refine v_iconst (pc := 45) dX12_player_45 ?_
          refine v_sipush (pc := 46) dX12_player_46 (by decide) ?_
          refine v_callS (pc := 49) [] [0] [((ad 1), cn 0 936 f)] (As := [ai purse, ai 0, ai 9999]) (rest := []) (c_X12_in purse 0 9999 (by first | assumption | omega) (by first | assumption | omega) (by first | assumption | omega)) wl_X12_41 ws_X12_in wk_X12_in wz_X12 md_X12_in rfl (Nat.le_of_ble_eq_true rfl) ⟨Nat.le_of_ble_eq_true rfl, Nat.le_of_ble_eq_true rfl, Nat.le_of_ble_eq_true rfl, Nat.le_of_ble_eq_true rfl⟩ rfl rfl rfl rfl (by decide) ro_nil dX12_player_49 (fun u hu => ?_)
          show V x cX12_player RX12 8 (rmU 1 22 0 0) [((ad 1), cn 0 936 f)] 52 [(0, ar h), (1, ai kind), (2, ai vv), (3, ai skill), (4, ai hand), (5, ai purse)] [ai (if 0 ≤ purse ∧ purse ≤ 9999 then 1 else 0)] 0 0
          refine v_ifb_ne (pc := 52) 58 dX12_player_52 (by decide) (fun c_5 => ?_) (fun c_5 => ?_)
          · skip
            refine v_aload_n (pc := 58) 0 rfl dX12_player_58 ?_
            refine v_get (pc := 59) (v := ar (ad 1)) 1 (Or.inl r0) fl_12_9_12 rfl dX12_player_59 ?_
            refine v_iconst (pc := 62) dX12_player_62 ?_
            refine v_iald (pc := 63) (Or.inr ⟨0, rfl⟩) (by omega) (by omega) (by decide) dX12_player_63 ?_
            refine v_bipush (pc := 64) dX12_player_64 (by decide) ?_
            refine v_icmp_ne (pc := 66) 72 dX12_player_66 (by decide) (by unfold iB; omega) (by unfold iB; omega) (fun c_6 => ?_) (fun c_6 => ?_)
            · skip
              refine v_aload_n (pc := 72) 0 rfl dX12_player_72 ?_
              refine v_get (pc := 73) (v := ar (ad 1)) 1 (Or.inl r0) fl_12_9_12 rfl dX12_player_73 ?_
              refine v_iconst (pc := 76) dX12_player_76 ?_
              refine v_iald (pc := 77) (Or.inr ⟨0, rfl⟩) (by omega) (by omega) (by decide) dX12_player_77 ?_
              refine v_istore (pc := 78) (L2 := [(6, ai (f 0)), (0, ar h), (1, ai kind), (2, ai vv), (3, ai skill), (4, ai hand), (5, ai purse)]) rfl (by decide) dX12_player_78 ?_
              refine v_aload_n (pc := 80) 1 rfl dX12_player_80 ?_
              refine v_get (pc := 81) (v := ar (ad 1)) 1 (Or.inl r0) fl_12_9_12 rfl dX12_player_81 ?_
              refine v_bipush (pc := 84) dX12_player_84 (by decide) ?_
              refine v_iload (pc := 86) 0 rfl dX12_player_86 ?_
              refine v_iadd (pc := 88) dX12_player_88 ?_
              refine v_iload_n (pc := 89) 2 rfl dX12_player_89 ?_
              refine v_iast (pc := 90) 0 rfl (by omega) (by omega) (by decide) (ws2 := [((ad 1), cn 0 936 (aup f (7 + (f 0)) kind))]) rfl dX12_player_90 ?_
              refine v_aload_n (pc := 91) 1 rfl dX12_player_91 ?_
              refine v_get (pc := 92) (v := ar (ad 1)) 1 (Or.inl r0) fl_12_9_12 rfl dX12_player_92 ?_
              refine v_bipush (pc := 95) dX12_player_95 (by decide) ?_
              refine v_iload (pc := 97) 0 rfl dX12_player_97 ?_
              refine v_iadd (pc := 99) dX12_player_99 ?_
              refine v_iload_n (pc := 100) 3 rfl dX12_player_100 ?_
              refine v_iast (pc := 101) 0 rfl (by omega) (by omega) (by decide) (ws2 := [((ad 1), cn 0 936 (aup (aup f (7 + (f 0)) kind) (13 + (f 0)) vv))]) rfl dX12_player_101 ?_
              refine v_aload_n (pc := 102) 1 rfl dX12_player_102 ?_
              refine v_get (pc := 103) (v := ar (ad 1)) 1 (Or.inl r0) fl_12_9_12 rfl dX12_player_103 ?_
              refine v_bipush (pc := 106) dX12_player_106 (by decide) ?_
              refine v_iload (pc := 108) 0 rfl dX12_player_108 ?_
              refine v_iadd (pc := 110) dX12_player_110 ?_
              refine v_iload_n (pc := 111) 4 rfl dX12_player_111 ?_
              refine v_iast (pc := 112) 0 rfl (by omega) (by omega) (by decide) (ws2 := [((ad 1), cn 0 936 (aup (aup (aup f (7 + (f 0)) kind) (13 + (f 0)) vv) (19 + (f 0)) skill))]) rfl dX12_player_112 ?_
              refine v_aload_n (pc := 113) 1 rfl dX12_player_113 ?_
              refine v_get (pc := 114) (v := ar (ad 1)) 1 (Or.inl r0) fl_12_9_12 rfl dX12_player_114 ?_
              refine v_bipush (pc := 117) dX12_player_117 (by decide) ?_
              refine v_iload (pc := 119) 0 rfl dX12_player_119 ?_
              refine v_iadd (pc := 121) dX12_player_121 ?_
              refine v_iload (pc := 122) 5 rfl dX12_player_122 ?_
              refine v_iast (pc := 124) 0 rfl (by omega) (by omega) (by decide) (ws2 := [((ad 1), cn 0 936 (aup (aup (aup (aup f (7 + (f 0)) kind) (13 + (f 0)) vv) (19 + (f 0)) skill) (25 + (f 0)) hand))]) rfl dX12_player_124 ?_
              refine v_aload_n (pc := 125) 1 rfl dX12_player_125 ?_
              refine v_get (pc := 126) (v := ar (ad 1)) 1 (Or.inl r0) fl_12_9_12 rfl dX12_player_126 ?_
              refine v_bipush (pc := 129) dX12_player_129 (by decide) ?_
              refine v_iload (pc := 131) 0 rfl dX12_player_131 ?_
              refine v_iadd (pc := 133) dX12_player_133 ?_
              refine v_iconst (pc := 134) dX12_player_134 ?_
              refine v_iast (pc := 135) 0 rfl (by omega) (by omega) (by decide) (ws2 := [((ad 1), cn 0 936 (aup (aup (aup (aup (aup f (7 + (f 0)) kind) (13 + (f 0)) vv) (19 + (f 0)) skill) (25 + (f 0)) hand) (31 + (f 0)) 0))]) rfl dX12_player_135 ?_
              refine v_aload_n (pc := 136) 1 rfl dX12_player_136 ?_
              refine v_get (pc := 137) (v := ar (ad 1)) 1 (Or.inl r0) fl_12_9_12 rfl dX12_player_137 ?_
              refine v_bipush (pc := 140) dX12_player_140 (by decide) ?_
              refine v_iload (pc := 142) 0 rfl dX12_player_142 ?_
              refine v_iadd (pc := 144) dX12_player_144 ?_
              refine v_iconst (pc := 145) dX12_player_145 ?_
              refine v_iast (pc := 146) 0 rfl (by omega) (by omega) (by decide) (ws2 := [((ad 1), cn 0 936 (aup (aup (aup (aup (aup (aup f (7 + (f 0)) kind) (13 + (f 0)) vv) (19 + (f 0)) skill) (25 + (f 0)) hand) (31 + (f 0)) 0) (37 + (f 0)) 0))]) rfl dX12_player_146 ?_
              refine v_aload_n (pc := 147) 1 rfl dX12_player_147 ?_
              refine v_get (pc := 148) (v := ar (ad 1)) 1 (Or.inl r0) fl_12_9_12 rfl dX12_player_148 ?_
              refine v_bipush (pc := 151) dX12_player_151 (by decide) ?_
              refine v_iload (pc := 153) 0 rfl dX12_player_153 ?_
              refine v_iadd (pc := 155) dX12_player_155 ?_
              refine v_iload (pc := 156) 6 rfl dX12_player_156 ?_
              refine v_iast (pc := 158) 0 rfl (by omega) (by omega) (by decide) (ws2 := [((ad 1), cn 0 936 (aup (aup (aup (aup (aup (aup (aup f (7 + (f 0)) kind) (13 + (f 0)) vv) (19 + (f 0)) skill) (25 + (f 0)) hand) (31 + (f 0)) 0) (37 + (f 0)) 0) (43 + (f 0)) purse))]) rfl dX12_player_158 ?_
              refine v_iconst (pc := 159) dX12_player_159 ?_
              refine v_istore (pc := 160) (L2 := [(7, ai 0), (6, ai (f 0)), (0, ar h), (1, ai kind), (2, ai vv), (3, ai skill), (4, ai hand), (5, ai purse)]) rfl (by decide) dX12_player_160 ?_
              have lp162 : ∀ (mm : Nat) (f1 : Int → Int) (kk : Int), (4 - kk).toNat = mm → (0 ≤ kk ∧ kk ≤ 4) → (f1 = plF (aup (aup (aup (aup (aup (aup (aup f (7 + f 0) kind) (13 + f 0) vv) (19 + f 0) skill) (25 + f 0) hand) (31 + f 0) 0) (37 + f 0) 0) (43 + f 0) purse) (f 0) kk.toNat) → V x cX12_player RX12 8 (rmU 1 22 0 0) [((ad 1), cn 0 936 f1)] 162 [(0, ar h), (6, ai (f 0)), (7, ai kk)] [] 0 0 := by
                intro mm
                induction mm using Nat.strongRecOn with
                | _ mm ih =>
                  intro f1 kk hmm hk hf1
                  refine v_iload (pc := 162) 2 rfl dX12_player_162 ?_
                  refine v_iconst (pc := 164) dX12_player_164 ?_
                  refine v_icmp_ge (pc := 165) 190 dX12_player_165 (by decide) (by unfold iB; omega) (by unfold iB; omega) (fun c_7 => ?_) (fun c_7 => ?_)
                  · skip
                    have e0 : f1 0 = f 0 := by rw [hf1, plF_n _ _ (by omega) (by omega), aup_n _ _ (by omega), aup_n _ _ (by omega), aup_n _ _ (by omega), aup_n _ _ (by omega), aup_n _ _ (by omega), aup_n _ _ (by omega), aup_n _ _ (by omega)]
                    refine v_aload_n (pc := 190) 0 rfl dX12_player_190 ?_
                    refine v_get (pc := 191) (v := ar (ad 1)) 1 (Or.inl r0) fl_12_9_12 rfl dX12_player_191 ?_
                    refine v_iconst (pc := 194) dX12_player_194 ?_
                    refine v_dup2 (pc := 195) rfl rfl dX12_player_195 ?_
                    refine v_iald (pc := 196) (Or.inr ⟨0, rfl⟩) (by omega) (by omega) (by decide) dX12_player_196 ?_
                    refine v_eqi (y := (f 0)) (e0) ?_
                    refine v_iconst (pc := 197) dX12_player_197 ?_
                    refine v_iadd (pc := 198) dX12_player_198 ?_
                    refine v_iast (pc := 199) 0 rfl (by omega) (by omega) (by decide) (ws2 := [((ad 1), cn 0 936 (aup f1 0 ((f 0) + 1)))]) rfl dX12_player_199 ?_
                    refine v_iload (pc := 200) 1 rfl dX12_player_200 ?_
                    exact hret ((f 0), (aup f1 0 ((f 0) + 1))) _ _ _ _ _ _ (by (unfold qPlayer; (repeat' split) <;> first | rfl | (exfalso; omega) | (rw [hf1, show kk.toNat = 4 by omega]))) (congrArg (fun z => some (ai z)) (by rfl)) rfl (Nat.le_of_ble_eq_true rfl) (Nat.le_of_ble_eq_true rfl) dX12_player_202
                  · skip
                    refine v_aload_n (pc := 168) 0 rfl dX12_player_168 ?_
                    refine v_get (pc := 169) (v := ar (ad 1)) 1 (Or.inl r0) fl_12_9_12 rfl dX12_player_169 ?_
                    refine v_bipush (pc := 172) dX12_player_172 (by decide) ?_
                    refine v_iconst (pc := 174) dX12_player_174 ?_
                    refine v_iload (pc := 175) 1 rfl dX12_player_175 ?_
                    refine v_imul (pc := 177) dX12_player_177 ?_
                    refine v_iadd (pc := 178) dX12_player_178 ?_
                    refine v_iload (pc := 179) 2 rfl dX12_player_179 ?_
                    refine v_iadd (pc := 181) dX12_player_181 ?_
                    refine v_iconst (pc := 182) dX12_player_182 ?_
                    refine v_iast (pc := 183) 0 rfl (by omega) (by omega) (by decide) (ws2 := [((ad 1), cn 0 936 (aup f1 ((49 + (4 * (f 0))) + kk) 4))]) rfl dX12_player_183 ?_
                    refine v_iinc (pc := 184) 2 (L2 := [(7, ai (kk + 1)), (0, ar h), (6, ai (f 0))]) rfl rfl (by decide) dX12_player_184 ?_
                    refine v_goto (pc := 187) 162 dX12_player_187 (by decide) ?_
                    refine v_sub (L2 := [(0, ar h), (6, ai (f 0)), (7, ai (kk + 1))]) [1, 2, 0] rfl ?_
                    exact ih _ (by omega) (aup f1 ((49 + (4 * (f 0))) + kk) 4) (kk + 1) rfl (by omega) (by rw [show (kk + 1).toNat = kk.toNat + 1 by omega]; unfold plF; rw [show ((kk.toNat : Nat) : Int) = kk by omega, ← hf1])
              refine v_sub (L2 := [(0, ar h), (6, ai (f 0)), (7, ai 0)]) [2, 1, 0] rfl ?_
              exact lp162 _ (aup (aup (aup (aup (aup (aup (aup f (7 + (f 0)) kind) (13 + (f 0)) vv) (19 + (f 0)) skill) (25 + (f 0)) hand) (31 + (f 0)) 0) (37 + (f 0)) 0) (43 + (f 0)) purse) 0 rfl (by omega) (by rfl)
            · skip
              refine v_bipush (pc := 69) dX12_player_69 (by decide) ?_
              exact hret ((-4), f) _ _ _ _ _ _ (by (unfold qPlayer; (repeat' split) <;> first | rfl | (exfalso; omega) | (rw [hf1, show kk.toNat = 4 by omega]))) (congrArg (fun z => some (ai z)) (by rfl)) rfl (Nat.le_of_ble_eq_true rfl) (Nat.le_of_ble_eq_true rfl) dX12_player_71
          · skip
            refine v_bipush (pc := 55) dX12_player_55 (by decide) ?_
            exact hret ((-2), f) _ _ _ _ _ _ (by (unfold qPlayer; (repeat' split) <;> first | rfl | (exfalso; omega) | (rw [hf1, show kk.toNat = 4 by omega]))) (congrArg (fun z => some (ai z)) (by rfl)) rfl (Nat.le_of_ble_eq_true rfl) (Nat.le_of_ble_eq_true rfl) dX12_player_57
  · skip
    refine v_iconst (pc := 10) dX12_player_10 ?_
    exact hret ((-1), f) _ _ _ _ _ _ (by (unfold qPlayer; (repeat' split) <;> first | rfl | (exfalso; omega) | (rw [hf1, show kk.toNat = 4 by omega]))) (congrArg (fun z => some (ai z)) (by rfl)) rfl (Nat.le_of_ble_eq_true rfl) (Nat.le_of_ble_eq_true rfl) dX12_player_11
set_option maxHeartbeats 4000000 in
set_option maxRecDepth 100000 in
theorem c_X12_more {gS : sG} (ad : Nat → Nat) (v : Nat → Int) (h : Nat) (f : Int → Int) (by0 : Int → Int) (tr0 : Int → Int) (one : Int) (other : Int) (tries : Int) (part : Int) (hS : SOK f) (hb_one : -2147483648 ≤ one ∧ one < 2147483648) (hb_other : -2147483648 ≤ other ∧ other < 2147483648) (hb_tries : -2147483648 ≤ tries ∧ tries < 2147483648) (hb_part : -2147483648 ≤ part ∧ part < 2147483648) : Ct gS (S := (Nat → Int) × (Int → Int) × (Int → Int)) yX12_more cX12_more 7 (some .long) 4 102 0 0 [ar h, ai one, ai other, ai tries, ai part] [(h, co 12 (mO ad v)), ((ad 9), cn 0 6 by0), ((ad 10), cn 1 64 tr0)] (fun q => q ∈ ([((ad 1), cn 0 936 f)] : aW)) (fun u => vK v u.1) (fun u => some (al (qMore f one other tries part))) (fun u => [(h, co 12 (mO ad u.1)), ((ad 9), cn 0 6 u.2.1), ((ad 10), cn 1 64 u.2.2)]) := by
  refine ct_L RX12 [(0, ar h), (1, ai one), (2, ai other), (3, ai tries), (4, ai part)] (by decide) rfl (Nat.le_of_ble_eq_true rfl) rfl (fun x hgS hro hret => ?_)
  subst hgS
  have r0 := hro _ (mem_at 0 rfl)
  obtain ⟨hg, hSp, hSh, hSs, hSb, hSt, hwf⟩ := id hS
  obtain ⟨hg0, hg1, hg2, hg3, hg4, hg5, hg6, hg7⟩ := id hg
  show V x cX12_more RX12 7 (rmU 4 102 0 0) [(h, co 12 (mO ad v)), ((ad 9), cn 0 6 by0), ((ad 10), cn 1 64 tr0)] 0 [(0, ar h), (1, ai one), (2, ai other), (3, ai tries), (4, ai part)] [] 0 0
  refine v_aload_n (pc := 0) 0 rfl dX12_more_0 ?_
  refine v_iload_n (pc := 1) 1 rfl dX12_more_1 ?_
  refine v_callV (pc := 2) [] [0, 1, 2] [(h, co 12 (mO ad v)), ((ad 9), cn 0 6 by0), ((ad 10), cn 1 64 tr0)] (As := [ai one]) (rest := []) (c_X12_isPlayer ad v h f one (by first | assumption | omega) (by first | assumption | omega)) (c := 12) rfl (Or.inr ⟨0, rfl⟩) wl_X12_136 wi_X12_isPlayer wv_X12_X12_isPlayer_X12_isPlayer wk_X12_isPlayer wz_X12 md_X12_isPlayer rfl (Nat.le_of_ble_eq_true rfl) ⟨Nat.le_of_ble_eq_true rfl, Nat.le_of_ble_eq_true rfl, Nat.le_of_ble_eq_true rfl, Nat.le_of_ble_eq_true rfl⟩ rfl rfl rfl rfl (by decide) (ro_cons (Or.inr ⟨0, rfl, by decide⟩) (ro_cons (Or.inl r0) ro_nil)) dX12_more_2 (fun u hu => ?_)
  show V x cX12_more RX12 7 (rmU 4 102 0 0) [(h, co 12 (mO ad v)), ((ad 9), cn 0 6 by0), ((ad 10), cn 1 64 tr0)] 5 [(0, ar h), (1, ai one), (2, ai other), (3, ai tries), (4, ai part)] [ai (if 0 ≤ one ∧ one ≤ (f 0) - 1 then 1 else 0)] 0 0
  refine v_ifb_eq (pc := 5) 41 dX12_more_5 (by decide) (fun c_1 => ?_) (fun c_1 => ?_)
  · skip
    refine v_ldc2 (pc := 41) (z := (-9223372036854775808)) (bw_mem 1281 (by decide +kernel) rfl) dX12_more_41 ?_
    exact hret (v, by0, tr0) _ _ _ _ _ _ (by exact vK_rf v) (congrArg (fun z => some (al z)) (by unfold qMore; (repeat' split) <;> first | rfl | (exfalso; omega))) rfl (Nat.le_of_ble_eq_true rfl) (Nat.le_of_ble_eq_true rfl) dX12_more_44
  · skip
    refine v_aload_n (pc := 8) 0 rfl dX12_more_8 ?_
    refine v_iload_n (pc := 9) 2 rfl dX12_more_9 ?_
    refine v_callV (pc := 10) [] [0, 1, 2] [(h, co 12 (mO ad v)), ((ad 9), cn 0 6 by0), ((ad 10), cn 1 64 tr0)] (As := [ai other]) (rest := []) (c_X12_isPlayer ad v h f other (by first | assumption | omega) (by first | assumption | omega)) (c := 12) rfl (Or.inr ⟨0, rfl⟩) wl_X12_136 wi_X12_isPlayer wv_X12_X12_isPlayer_X12_isPlayer wk_X12_isPlayer wz_X12 md_X12_isPlayer rfl (Nat.le_of_ble_eq_true rfl) ⟨Nat.le_of_ble_eq_true rfl, Nat.le_of_ble_eq_true rfl, Nat.le_of_ble_eq_true rfl, Nat.le_of_ble_eq_true rfl⟩ rfl rfl rfl rfl (by decide) (ro_cons (Or.inr ⟨0, rfl, by decide⟩) (ro_cons (Or.inl r0) ro_nil)) dX12_more_10 (fun u hu => ?_)
    show V x cX12_more RX12 7 (rmU 4 102 0 0) [(h, co 12 (mO ad v)), ((ad 9), cn 0 6 by0), ((ad 10), cn 1 64 tr0)] 13 [(0, ar h), (1, ai one), (2, ai other), (3, ai tries), (4, ai part)] [ai (if 0 ≤ other ∧ other ≤ (f 0) - 1 then 1 else 0)] 0 0
    refine v_ifb_eq (pc := 13) 41 dX12_more_13 (by decide) (fun c_2 => ?_) (fun c_2 => ?_)
    · skip
      refine v_ldc2 (pc := 41) (z := (-9223372036854775808)) (bw_mem 1281 (by decide +kernel) rfl) dX12_more_41 ?_
      exact hret (v, by0, tr0) _ _ _ _ _ _ (by exact vK_rf v) (congrArg (fun z => some (al z)) (by unfold qMore; (repeat' split) <;> first | rfl | (exfalso; omega))) rfl (Nat.le_of_ble_eq_true rfl) (Nat.le_of_ble_eq_true rfl) dX12_more_44
    · skip
      refine v_iload_n (pc := 16) 1 rfl dX12_more_16 ?_
      refine v_iload_n (pc := 17) 2 rfl dX12_more_17 ?_
      refine v_icmp_eq (pc := 18) 41 dX12_more_18 (by decide) (by unfold iB; omega) (by unfold iB; omega) (fun c_3 => ?_) (fun c_3 => ?_)
      · skip
        refine v_ldc2 (pc := 41) (z := (-9223372036854775808)) (bw_mem 1281 (by decide +kernel) rfl) dX12_more_41 ?_
        exact hret (v, by0, tr0) _ _ _ _ _ _ (by exact vK_rf v) (congrArg (fun z => some (al z)) (by unfold qMore; (repeat' split) <;> first | rfl | (exfalso; omega))) rfl (Nat.le_of_ble_eq_true rfl) (Nat.le_of_ble_eq_true rfl) dX12_more_44
      · skip
        refine v_iload_n (pc := 21) 3 rfl dX12_more_21 ?_
        refine v_iconst (pc := 22) dX12_more_22 ?_
        refine v_bipush (pc := 23) dX12_more_23 (by decide) ?_
        refine v_callS (pc := 25) [] [0, 1, 2] [(h, co 12 (mO ad v)), ((ad 9), cn 0 6 by0), ((ad 10), cn 1 64 tr0)] (As := [ai tries, ai 1, ai 6]) (rest := []) (c_X12_in tries 1 6 (by first | assumption | omega) (by first | assumption | omega) (by first | assumption | omega)) wl_X12_41 ws_X12_in wk_X12_in wz_X12 md_X12_in rfl (Nat.le_of_ble_eq_true rfl) ⟨Nat.le_of_ble_eq_true rfl, Nat.le_of_ble_eq_true rfl, Nat.le_of_ble_eq_true rfl, Nat.le_of_ble_eq_true rfl⟩ rfl rfl rfl rfl (by decide) ro_nil dX12_more_25 (fun u hu => ?_)
        show V x cX12_more RX12 7 (rmU 4 102 0 0) [(h, co 12 (mO ad v)), ((ad 9), cn 0 6 by0), ((ad 10), cn 1 64 tr0)] 28 [(0, ar h), (1, ai one), (2, ai other), (3, ai tries), (4, ai part)] [ai (if 1 ≤ tries ∧ tries ≤ 6 then 1 else 0)] 0 0
        refine v_ifb_eq (pc := 28) 41 dX12_more_28 (by decide) (fun c_4 => ?_) (fun c_4 => ?_)
        · skip
          refine v_ldc2 (pc := 41) (z := (-9223372036854775808)) (bw_mem 1281 (by decide +kernel) rfl) dX12_more_41 ?_
          exact hret (v, by0, tr0) _ _ _ _ _ _ (by exact vK_rf v) (congrArg (fun z => some (al z)) (by unfold qMore; (repeat' split) <;> first | rfl | (exfalso; omega))) rfl (Nat.le_of_ble_eq_true rfl) (Nat.le_of_ble_eq_true rfl) dX12_more_44
        · skip
          refine v_iload (pc := 31) 4 rfl dX12_more_31 ?_
          refine v_iconst (pc := 33) dX12_more_33 ?_
          refine v_iconst (pc := 34) dX12_more_34 ?_
          refine v_callS (pc := 35) [] [0, 1, 2] [(h, co 12 (mO ad v)), ((ad 9), cn 0 6 by0), ((ad 10), cn 1 64 tr0)] (As := [ai part, ai 0, ai 1]) (rest := []) (c_X12_in part 0 1 (by first | assumption | omega) (by first | assumption | omega) (by first | assumption | omega)) wl_X12_41 ws_X12_in wk_X12_in wz_X12 md_X12_in rfl (Nat.le_of_ble_eq_true rfl) ⟨Nat.le_of_ble_eq_true rfl, Nat.le_of_ble_eq_true rfl, Nat.le_of_ble_eq_true rfl, Nat.le_of_ble_eq_true rfl⟩ rfl rfl rfl rfl (by decide) ro_nil dX12_more_35 (fun u hu => ?_)
          show V x cX12_more RX12 7 (rmU 4 102 0 0) [(h, co 12 (mO ad v)), ((ad 9), cn 0 6 by0), ((ad 10), cn 1 64 tr0)] 38 [(0, ar h), (1, ai one), (2, ai other), (3, ai tries), (4, ai part)] [ai (if 0 ≤ part ∧ part ≤ 1 then 1 else 0)] 0 0
          refine v_ifb_ne (pc := 38) 45 dX12_more_38 (by decide) (fun c_5 => ?_) (fun c_5 => ?_)
          · skip
            have hf := hSp one (by omega) (by omega)
            have hfo := hSp other (by omega) (by omega)
            have hom := oneM_b hfo
            have hbb := fBest_b (f := f) (p := one) (n := oneM f other)
            have hpw := pow_10 tries.toNat (by omega)
            have hpb := pow_b (n := 10 - fBest f one (oneM f other)) (by omega) tries.toNat
            refine v_bipush (pc := 45) dX12_more_45 (by decide) ?_
            refine v_iload_n (pc := 47) 3 rfl dX12_more_47 ?_
            refine v_callS (pc := 48) [] [0, 1, 2] [(h, co 12 (mO ad v)), ((ad 9), cn 0 6 by0), ((ad 10), cn 1 64 tr0)] (As := [ai 10, ai tries]) (rest := []) (c_X12_power 10 tries (by first | assumption | omega) (by first | assumption | omega)) wl_X12_209 ws_X12_power wk_X12_power wz_X12 md_X12_power rfl (Nat.le_of_ble_eq_true rfl) ⟨Nat.le_of_ble_eq_true rfl, Nat.le_of_ble_eq_true rfl, Nat.le_of_ble_eq_true rfl, Nat.le_of_ble_eq_true rfl⟩ rfl rfl rfl rfl (by decide) ro_nil dX12_more_48 (fun u hu => ?_)
            show V x cX12_more RX12 7 (rmU 4 102 0 0) [(h, co 12 (mO ad v)), ((ad 9), cn 0 6 by0), ((ad 10), cn 1 64 tr0)] 51 [(0, ar h), (1, ai one), (2, ai other), (3, ai tries), (4, ai part)] [al (10 ^ tries.toNat)] 0 0
            refine v_lstore (pc := 51) (L2 := [(5, al (10 ^ tries.toNat)), (0, ar h), (1, ai one), (2, ai other), (3, ai tries), (4, ai part)]) rfl (by decide) dX12_more_51 ?_
            refine v_lload (pc := 53) 0 rfl dX12_more_53 ?_
            refine v_bipush (pc := 55) dX12_more_55 (by decide) ?_
            refine v_aload_n (pc := 57) 1 rfl dX12_more_57 ?_
            refine v_iload_n (pc := 58) 2 rfl dX12_more_58 ?_
            refine v_aload_n (pc := 59) 1 rfl dX12_more_59 ?_
            refine v_iload_n (pc := 60) 3 rfl dX12_more_60 ?_
            refine v_callV (pc := 61) [] [0, 1, 2] [(h, co 12 (mO ad v)), ((ad 9), cn 0 6 by0), ((ad 10), cn 1 64 tr0)] (As := [ai other]) (rest := [ai one, ar h, ai 10, al (10 ^ tries.toNat)]) (c_X12_oneMore ad v h f other (by first | assumption | omega)) (c := 12) rfl (Or.inr ⟨0, rfl⟩) wl_X12_213 wi_X12_oneMore wv_X12_X12_oneMore_X12_oneMore wk_X12_oneMore wz_X12 md_X12_oneMore rfl (Nat.le_of_ble_eq_true rfl) ⟨Nat.le_of_ble_eq_true rfl, Nat.le_of_ble_eq_true rfl, Nat.le_of_ble_eq_true rfl, Nat.le_of_ble_eq_true rfl⟩ rfl rfl rfl rfl (by decide) (ro_cons (Or.inr ⟨0, rfl, by decide⟩) (ro_cons (Or.inl r0) ro_nil)) dX12_more_61 (fun u hu => ?_)
            show V x cX12_more RX12 7 (rmU 4 102 0 0) [(h, co 12 (mO ad v)), ((ad 9), cn 0 6 by0), ((ad 10), cn 1 64 tr0)] 64 [(5, al (10 ^ tries.toNat)), (0, ar h), (1, ai one), (2, ai other), (3, ai tries), (4, ai part)] [ai (if f (37 + other) < 99 then f (37 + other) + 1 else 99), ai one, ar h, ai 10, al (10 ^ tries.toNat)] 0 0
            refine v_eqi (y := (oneM f other)) (rfl) ?_
            refine v_callV (pc := 64) [0, 1, 2] [] [] (As := [ai one, ai (oneM f other)]) (rest := [ai 10, al (10 ^ tries.toNat)]) (c_X12_bestOf ad v h f by0 tr0 one (oneM f other) (by first | assumption | omega) (by first | assumption | omega) (by first | assumption | omega) (by first | assumption | omega)) (c := 12) rfl (Or.inr ⟨0, rfl⟩) wl_X12_187 wi_X12_bestOf wv_X12_X12_bestOf_X12_bestOf wk_X12_bestOf wz_X12 md_X12_bestOf rfl (Nat.le_of_ble_eq_true rfl) ⟨Nat.le_of_ble_eq_true rfl, Nat.le_of_ble_eq_true rfl, Nat.le_of_ble_eq_true rfl, Nat.le_of_ble_eq_true rfl⟩ rfl rfl rfl rfl (by decide) (ro_cons (Or.inl r0) ro_nil) dX12_more_64 (fun u hu => ?_)
            obtain ⟨v2_6, by2_7, tr2_8⟩ := u
            have g_9 : vK v v2_6 ∧ v2_6 15 = v 15 ∧ v2_6 13 = (fBst f one (oneM f other) 21).2 := hu
            show V x cX12_more RX12 7 (rmU 4 102 0 0) [(h, co 12 (mO ad v2_6)), ((ad 9), cn 0 6 by2_7), ((ad 10), cn 1 64 tr2_8)] 67 [(5, al (10 ^ tries.toNat)), (0, ar h), (1, ai one), (2, ai other), (3, ai tries), (4, ai part)] [ai (fBest f one (oneM f other)), ai 10, al (10 ^ tries.toNat)] 0 0
            have hkeep := g_9.1
            refine v_isub (pc := 67) dX12_more_67 ?_
            refine v_iload_n (pc := 68) 4 rfl dX12_more_68 ?_
            refine v_callS (pc := 69) [] [0, 1, 2] [(h, co 12 (mO ad v2_6)), ((ad 9), cn 0 6 by2_7), ((ad 10), cn 1 64 tr2_8)] (As := [ai (10 - (fBest f one (oneM f other))), ai tries]) (rest := [al (10 ^ tries.toNat)]) (c_X12_power (10 - (fBest f one (oneM f other))) tries (by first | assumption | omega) (by first | assumption | omega)) wl_X12_209 ws_X12_power wk_X12_power wz_X12 md_X12_power rfl (Nat.le_of_ble_eq_true rfl) ⟨Nat.le_of_ble_eq_true rfl, Nat.le_of_ble_eq_true rfl, Nat.le_of_ble_eq_true rfl, Nat.le_of_ble_eq_true rfl⟩ rfl rfl rfl rfl (by decide) ro_nil dX12_more_69 (fun u hu => ?_)
            show V x cX12_more RX12 7 (rmU 4 102 0 0) [(h, co 12 (mO ad v2_6)), ((ad 9), cn 0 6 by2_7), ((ad 10), cn 1 64 tr2_8)] 72 [(5, al (10 ^ tries.toNat)), (0, ar h), (1, ai one), (2, ai other), (3, ai tries), (4, ai part)] [al ((10 - (fBest f one (oneM f other))) ^ tries.toNat), al (10 ^ tries.toNat)] 0 0
            refine v_lsub (pc := 72) dX12_more_72 ?_
            refine v_lload (pc := 73) 0 rfl dX12_more_73 ?_
            refine v_iload (pc := 75) 5 rfl dX12_more_75 ?_
            refine v_callS (pc := 77) [] [0, 1, 2] [(h, co 12 (mO ad v2_6)), ((ad 9), cn 0 6 by2_7), ((ad 10), cn 1 64 tr2_8)] (As := [al ((10 ^ tries.toNat) - ((10 - (fBest f one (oneM f other))) ^ tries.toNat)), al (10 ^ tries.toNat), ai part]) (rest := []) (c_X12_lowest ((10 ^ tries.toNat) - ((10 - (fBest f one (oneM f other))) ^ tries.toNat)) (10 ^ tries.toNat) part (by first | assumption | omega) (by first | assumption | omega) (by first | assumption | omega)) wl_X12_180 ws_X12_lowest wk_X12_lowest wz_X12 md_X12_lowest rfl (Nat.le_of_ble_eq_true rfl) ⟨Nat.le_of_ble_eq_true rfl, Nat.le_of_ble_eq_true rfl, Nat.le_of_ble_eq_true rfl, Nat.le_of_ble_eq_true rfl⟩ rfl rfl rfl rfl (by decide) ro_nil dX12_more_77 (fun u hu => ?_)
            show V x cX12_more RX12 7 (rmU 4 102 0 0) [(h, co 12 (mO ad v2_6)), ((ad 9), cn 0 6 by2_7), ((ad 10), cn 1 64 tr2_8)] 80 [(5, al (10 ^ tries.toNat)), (0, ar h), (1, ai one), (2, ai other), (3, ai tries), (4, ai part)] [al (kFr ((10 ^ tries.toNat) - ((10 - (fBest f one (oneM f other))) ^ tries.toNat)) (10 ^ tries.toNat) part)] 0 0
            exact hret (v2_6, by2_7, tr2_8) _ _ _ _ _ _ (by exact hkeep) (congrArg (fun z => some (al z)) (by unfold qMore; (repeat' split) <;> first | rfl | (exfalso; omega))) rfl (Nat.le_of_ble_eq_true rfl) (Nat.le_of_ble_eq_true rfl) dX12_more_80
          · skip
            refine v_ldc2 (pc := 41) (z := (-9223372036854775808)) (bw_mem 1281 (by decide +kernel) rfl) dX12_more_41 ?_
            exact hret (v, by0, tr0) _ _ _ _ _ _ (by exact vK_rf v) (congrArg (fun z => some (al z)) (by unfold qMore; (repeat' split) <;> first | rfl | (exfalso; omega))) rfl (Nat.le_of_ble_eq_true rfl) (Nat.le_of_ble_eq_true rfl) dX12_more_44
set_option maxHeartbeats 4000000 in
set_option maxRecDepth 100000 in
theorem c_X12_record {gS : sG} (ad : Nat → Nat) (v : Nat → Int) (h : Nat) (f : Int → Int) (by0 : Int → Int) (tr0 : Int → Int) (player : Int) (n : Int) (hS : SOK f) (hb_player : -2147483648 ≤ player ∧ player < 2147483648) (hb_n : -2147483648 ≤ n ∧ n < 2147483648) : Ct gS (S := (Nat → Int) × (Int → Int) × (Int → Int)) yX12_record cX12_record 5 (some .int) 4 102 0 0 [ar h, ai player, ai n] [(h, co 12 (mO ad v)), ((ad 9), cn 0 6 by0), ((ad 10), cn 1 64 tr0)] (fun q => q ∈ ([((ad 1), cn 0 936 f)] : aW)) (fun u => vK v u.1) (fun u => some (ai (qRecord f player n))) (fun u => [(h, co 12 (mO ad u.1)), ((ad 9), cn 0 6 u.2.1), ((ad 10), cn 1 64 u.2.2)]) := by
  refine ct_I RX12 [(0, ar h), (1, ai player), (2, ai n)] (by decide) rfl (Nat.le_of_ble_eq_true rfl) rfl (fun x hgS hro hret => ?_)
  subst hgS
  have r0 := hro _ (mem_at 0 rfl)
  obtain ⟨hg, hSp, hSh, hSs, hSb, hSt, hwf⟩ := id hS
  obtain ⟨hg0, hg1, hg2, hg3, hg4, hg5, hg6, hg7⟩ := id hg
  show V x cX12_record RX12 5 (rmU 4 102 0 0) [(h, co 12 (mO ad v)), ((ad 9), cn 0 6 by0), ((ad 10), cn 1 64 tr0)] 0 [(0, ar h), (1, ai player), (2, ai n)] [] 0 0
  refine v_aload_n (pc := 0) 0 rfl dX12_record_0 ?_
  refine v_iload_n (pc := 1) 1 rfl dX12_record_1 ?_
  refine v_callV (pc := 2) [] [0, 1, 2] [(h, co 12 (mO ad v)), ((ad 9), cn 0 6 by0), ((ad 10), cn 1 64 tr0)] (As := [ai player]) (rest := []) (c_X12_isPlayer ad v h f player (by first | assumption | omega) (by first | assumption | omega)) (c := 12) rfl (Or.inr ⟨0, rfl⟩) wl_X12_136 wi_X12_isPlayer wv_X12_X12_isPlayer_X12_isPlayer wk_X12_isPlayer wz_X12 md_X12_isPlayer rfl (Nat.le_of_ble_eq_true rfl) ⟨Nat.le_of_ble_eq_true rfl, Nat.le_of_ble_eq_true rfl, Nat.le_of_ble_eq_true rfl, Nat.le_of_ble_eq_true rfl⟩ rfl rfl rfl rfl (by decide) (ro_cons (Or.inr ⟨0, rfl, by decide⟩) (ro_cons (Or.inl r0) ro_nil)) dX12_record_2 (fun u hu => ?_)
  show V x cX12_record RX12 5 (rmU 4 102 0 0) [(h, co 12 (mO ad v)), ((ad 9), cn 0 6 by0), ((ad 10), cn 1 64 tr0)] 5 [(0, ar h), (1, ai player), (2, ai n)] [ai (if 0 ≤ player ∧ player ≤ (f 0) - 1 then 1 else 0)] 0 0
  refine v_ifb_ne (pc := 5) 10 dX12_record_5 (by decide) (fun c_1 => ?_) (fun c_1 => ?_)
  · skip
    have hf := hSp player (by omega) (by omega)
    obtain ⟨hp, hf1, hf2, hf3, hf4, hf5, hf6, hf7, hf8⟩ := id hf
    refine v_iload_n (pc := 10) 2 rfl dX12_record_10 ?_
    refine v_iconst (pc := 11) dX12_record_11 ?_
    refine v_bipush (pc := 12) dX12_record_12 (by decide) ?_
    refine v_callS (pc := 14) [] [0, 1, 2] [(h, co 12 (mO ad v)), ((ad 9), cn 0 6 by0), ((ad 10), cn 1 64 tr0)] (As := [ai n, ai 1, ai 99]) (rest := []) (c_X12_in n 1 99 (by first | assumption | omega) (by first | assumption | omega) (by first | assumption | omega)) wl_X12_41 ws_X12_in wk_X12_in wz_X12 md_X12_in rfl (Nat.le_of_ble_eq_true rfl) ⟨Nat.le_of_ble_eq_true rfl, Nat.le_of_ble_eq_true rfl, Nat.le_of_ble_eq_true rfl, Nat.le_of_ble_eq_true rfl⟩ rfl rfl rfl rfl (by decide) ro_nil dX12_record_14 (fun u hu => ?_)
    show V x cX12_record RX12 5 (rmU 4 102 0 0) [(h, co 12 (mO ad v)), ((ad 9), cn 0 6 by0), ((ad 10), cn 1 64 tr0)] 17 [(0, ar h), (1, ai player), (2, ai n)] [ai (if 1 ≤ n ∧ n ≤ 99 then 1 else 0)] 0 0
    refine v_ifb_ne (pc := 17) 23 dX12_record_17 (by decide) (fun c_2 => ?_) (fun c_2 => ?_)
    · skip
      refine v_aload_n (pc := 23) 0 rfl dX12_record_23 ?_
      refine v_iload_n (pc := 24) 1 rfl dX12_record_24 ?_
      refine v_iload_n (pc := 25) 2 rfl dX12_record_25 ?_
      refine v_callV (pc := 26) [0, 1, 2] [] [] (As := [ai player, ai n]) (rest := []) (c_X12_bestOf ad v h f by0 tr0 player n (by first | assumption | omega) (by first | assumption | omega) (by first | assumption | omega) (by first | assumption | omega)) (c := 12) rfl (Or.inr ⟨0, rfl⟩) wl_X12_187 wi_X12_bestOf wv_X12_X12_bestOf_X12_bestOf wk_X12_bestOf wz_X12 md_X12_bestOf rfl (Nat.le_of_ble_eq_true rfl) ⟨Nat.le_of_ble_eq_true rfl, Nat.le_of_ble_eq_true rfl, Nat.le_of_ble_eq_true rfl, Nat.le_of_ble_eq_true rfl⟩ rfl rfl rfl rfl (by decide) (ro_cons (Or.inl r0) ro_nil) dX12_record_26 (fun u hu => ?_)
      obtain ⟨v2_3, by2_4, tr2_5⟩ := u
      have g_6 : vK v v2_3 ∧ v2_3 15 = v 15 ∧ v2_3 13 = (fBst f player n 21).2 := hu
      show V x cX12_record RX12 5 (rmU 4 102 0 0) [(h, co 12 (mO ad v2_3)), ((ad 9), cn 0 6 by2_4), ((ad 10), cn 1 64 tr2_5)] 29 [(0, ar h), (1, ai player), (2, ai n)] [ai (fBest f player n)] 0 0
      have hkeep := g_6.1
      have hbb := fBest_b (f := f) (p := player) (n := n)
      refine v_istore_n (pc := 29) (L2 := [(3, ai (fBest f player n)), (0, ar h), (1, ai player), (2, ai n)]) rfl (by decide) dX12_record_29 ?_
      refine v_iload_n (pc := 30) 0 rfl dX12_record_30 ?_
      refine v_if_ne (pc := 31) 37 dX12_record_31 (by decide) (by unfold iB; omega) (fun c_7 => ?_) (fun c_7 => ?_)
      · skip
        refine v_iconst (pc := 37) dX12_record_37 ?_
        refine v_istore (pc := 38) (L2 := [(4, ai 1), (3, ai (fBest f player n)), (0, ar h), (1, ai player), (2, ai n)]) rfl (by decide) dX12_record_38 ?_
        have lp40 : ∀ (mm : Nat) (t : Int), (8 - t).toNat = mm → (1 ≤ t ∧ t ≤ 7) → (rcd (fBest f player n) 9 1 = rcd (fBest f player n) (10 - t.toNat) t.toNat) → V x cX12_record RX12 5 (rmU 4 102 0 0) [(h, co 12 (mO ad v2_3)), ((ad 9), cn 0 6 by2_4), ((ad 10), cn 1 64 tr2_5)] 40 [(0, ar h), (3, ai (fBest f player n)), (4, ai t)] [] 0 0 := by
          intro mm
          induction mm using Nat.strongRecOn with
          | _ mm ih =>
            intro t hmm ht hrc
            have hp1 := pow_10 t.toNat (by omega)
            have hp2 := pow_b (n := 10 - fBest f player n) (by omega) t.toNat
            have h7 : t = 7 → 2 * (10 - fBest f player n) ^ t.toNat ≤ 10 ^ t.toNat := (fun q => by rw [q]; exact rcd_7 (o := fBest f player n) (by omega) (by omega))
            refine v_ldc2 (pc := 40) (z := 2) (bw_mem 1347 (by decide +kernel) rfl) dX12_record_40 ?_
            refine v_bipush (pc := 43) dX12_record_43 (by decide) ?_
            refine v_iload_n (pc := 45) 1 rfl dX12_record_45 ?_
            refine v_isub (pc := 46) dX12_record_46 ?_
            refine v_iload (pc := 47) 2 rfl dX12_record_47 ?_
            refine v_callS (pc := 49) [] [0, 1, 2] [(h, co 12 (mO ad v2_3)), ((ad 9), cn 0 6 by2_4), ((ad 10), cn 1 64 tr2_5)] (As := [ai (10 - (fBest f player n)), ai t]) (rest := [al 2]) (c_X12_power (10 - (fBest f player n)) t (by first | assumption | omega) (by first | assumption | omega)) wl_X12_209 ws_X12_power wk_X12_power wz_X12 md_X12_power rfl (Nat.le_of_ble_eq_true rfl) ⟨Nat.le_of_ble_eq_true rfl, Nat.le_of_ble_eq_true rfl, Nat.le_of_ble_eq_true rfl, Nat.le_of_ble_eq_true rfl⟩ rfl rfl rfl rfl (by decide) ro_nil dX12_record_49 (fun u hu => ?_)
            show V x cX12_record RX12 5 (rmU 4 102 0 0) [(h, co 12 (mO ad v2_3)), ((ad 9), cn 0 6 by2_4), ((ad 10), cn 1 64 tr2_5)] 52 [(0, ar h), (3, ai (fBest f player n)), (4, ai t)] [al ((10 - (fBest f player n)) ^ t.toNat), al 2] 0 0
            refine v_lmul (pc := 52) dX12_record_52 ?_
            refine v_bipush (pc := 53) dX12_record_53 (by decide) ?_
            refine v_iload (pc := 55) 2 rfl dX12_record_55 ?_
            refine v_callS (pc := 57) [] [0, 1, 2] [(h, co 12 (mO ad v2_3)), ((ad 9), cn 0 6 by2_4), ((ad 10), cn 1 64 tr2_5)] (As := [ai 10, ai t]) (rest := [al (2 * ((10 - (fBest f player n)) ^ t.toNat))]) (c_X12_power 10 t (by first | assumption | omega) (by first | assumption | omega)) wl_X12_209 ws_X12_power wk_X12_power wz_X12 md_X12_power rfl (Nat.le_of_ble_eq_true rfl) ⟨Nat.le_of_ble_eq_true rfl, Nat.le_of_ble_eq_true rfl, Nat.le_of_ble_eq_true rfl, Nat.le_of_ble_eq_true rfl⟩ rfl rfl rfl rfl (by decide) ro_nil dX12_record_57 (fun u hu => ?_)
            show V x cX12_record RX12 5 (rmU 4 102 0 0) [(h, co 12 (mO ad v2_3)), ((ad 9), cn 0 6 by2_4), ((ad 10), cn 1 64 tr2_5)] 60 [(0, ar h), (3, ai (fBest f player n)), (4, ai t)] [al (10 ^ t.toNat), al (2 * ((10 - (fBest f player n)) ^ t.toNat))] 0 0
            refine v_lcmp (pc := 60) (by unfold lB; omega) (by unfold lB; omega) dX12_record_60 ?_
            refine v_if_le (pc := 61) 70 dX12_record_61 (by decide) (acmp_iB _ _) (fun c_8 => ?_) (fun c_8 => ?_)
            · skip
              have c_8 := acmp_le.mp c_8
              refine v_iload (pc := 70) 2 rfl dX12_record_70 ?_
              exact hret (v2_3, by2_4, tr2_5) _ _ _ _ _ _ (by exact hkeep) (congrArg (fun z => some (ai z)) (by unfold qRecord; rw [if_neg (by omega), if_neg (by omega), hrc, show 10 - t.toNat = (9 - t.toNat) + 1 by omega, rcd_hit (by omega)]; omega)) rfl (Nat.le_of_ble_eq_true rfl) (Nat.le_of_ble_eq_true rfl) dX12_record_72
            · skip
              have c_8 := acmp_gt.mp c_8
              refine v_iinc (pc := 64) 2 (L2 := [(4, ai (t + 1)), (0, ar h), (3, ai (fBest f player n))]) rfl rfl (by decide) dX12_record_64 ?_
              refine v_goto (pc := 67) 40 dX12_record_67 (by decide) ?_
              refine v_sub (L2 := [(0, ar h), (3, ai (fBest f player n)), (4, ai (t + 1))]) [1, 2, 0] rfl ?_
              exact ih _ (by omega) (t + 1) rfl (by omega) (by rw [hrc, show 10 - t.toNat = (9 - t.toNat) + 1 by omega, rcd_miss (by omega), show (t + 1).toNat = t.toNat + 1 by omega, show 10 - (t.toNat + 1) = 9 - t.toNat by omega])
        refine v_sub (L2 := [(0, ar h), (3, ai (fBest f player n)), (4, ai 1)]) [2, 1, 0] rfl ?_
        exact lp40 _ 1 rfl (by omega) (by rfl)
      · skip
        refine v_bipush (pc := 34) dX12_record_34 (by decide) ?_
        exact hret (v2_3, by2_4, tr2_5) _ _ _ _ _ _ (by exact hkeep) (congrArg (fun z => some (ai z)) (by unfold qRecord; rw [if_neg (by omega), if_neg (by omega), show fBest f player n = 0 by omega, rcd_0])) rfl (Nat.le_of_ble_eq_true rfl) (Nat.le_of_ble_eq_true rfl) dX12_record_36
    · skip
      refine v_bipush (pc := 20) dX12_record_20 (by decide) ?_
      exact hret (v, by0, tr0) _ _ _ _ _ _ (by exact vK_rf v) (congrArg (fun z => some (ai z)) (by unfold qRecord; (repeat' split) <;> first | rfl | omega | (exfalso; omega))) rfl (Nat.le_of_ble_eq_true rfl) (Nat.le_of_ble_eq_true rfl) dX12_record_22
  · skip
    refine v_iconst (pc := 8) dX12_record_8 ?_
    exact hret (v, by0, tr0) _ _ _ _ _ _ (by exact vK_rf v) (congrArg (fun z => some (ai z)) (by unfold qRecord; (repeat' split) <;> first | rfl | omega | (exfalso; omega))) rfl (Nat.le_of_ble_eq_true rfl) (Nat.le_of_ble_eq_true rfl) dX12_record_9
set_option maxHeartbeats 4000000 in
set_option maxRecDepth 100000 in
theorem c_X12_wager {gS : sG} (ad : Nat → Nat) (v : Nat → Int) (h : Nat) (f : Int → Int) (by0 : Int → Int) (tr0 : Int → Int) (one : Int) (other : Int) (stake : Int) (hS : SOK f) (hb_one : -2147483648 ≤ one ∧ one < 2147483648) (hb_other : -2147483648 ≤ other ∧ other < 2147483648) (hb_stake : -2147483648 ≤ stake ∧ stake < 2147483648) : Ct gS (S := (Nat → Int) × (Int → Int) × (Int → Int)) yX12_wager cX12_wager 4 (some .int) 4 102 0 0 [ar h, ai one, ai other, ai stake] [(h, co 12 (mO ad v)), ((ad 9), cn 0 6 by0), ((ad 10), cn 1 64 tr0)] (fun q => q ∈ ([((ad 1), cn 0 936 f)] : aW)) (fun u => vK v u.1) (fun u => some (ai (qWager f one other stake))) (fun u => [(h, co 12 (mO ad u.1)), ((ad 9), cn 0 6 u.2.1), ((ad 10), cn 1 64 u.2.2)]) := by
  refine ct_I RX12 [(0, ar h), (1, ai one), (2, ai other), (3, ai stake)] (by decide) rfl (Nat.le_of_ble_eq_true rfl) rfl (fun x hgS hro hret => ?_)
  subst hgS
  have r0 := hro _ (mem_at 0 rfl)
  obtain ⟨hg, hSp, hSh, hSs, hSb, hSt, hwf⟩ := id hS
  obtain ⟨hg0, hg1, hg2, hg3, hg4, hg5, hg6, hg7⟩ := id hg
  show V x cX12_wager RX12 4 (rmU 4 102 0 0) [(h, co 12 (mO ad v)), ((ad 9), cn 0 6 by0), ((ad 10), cn 1 64 tr0)] 0 [(0, ar h), (1, ai one), (2, ai other), (3, ai stake)] [] 0 0
  refine v_aload_n (pc := 0) 0 rfl dX12_wager_0 ?_
  refine v_iload_n (pc := 1) 1 rfl dX12_wager_1 ?_
  refine v_callV (pc := 2) [] [0, 1, 2] [(h, co 12 (mO ad v)), ((ad 9), cn 0 6 by0), ((ad 10), cn 1 64 tr0)] (As := [ai one]) (rest := []) (c_X12_isPlayer ad v h f one (by first | assumption | omega) (by first | assumption | omega)) (c := 12) rfl (Or.inr ⟨0, rfl⟩) wl_X12_136 wi_X12_isPlayer wv_X12_X12_isPlayer_X12_isPlayer wk_X12_isPlayer wz_X12 md_X12_isPlayer rfl (Nat.le_of_ble_eq_true rfl) ⟨Nat.le_of_ble_eq_true rfl, Nat.le_of_ble_eq_true rfl, Nat.le_of_ble_eq_true rfl, Nat.le_of_ble_eq_true rfl⟩ rfl rfl rfl rfl (by decide) (ro_cons (Or.inr ⟨0, rfl, by decide⟩) (ro_cons (Or.inl r0) ro_nil)) dX12_wager_2 (fun u hu => ?_)
  show V x cX12_wager RX12 4 (rmU 4 102 0 0) [(h, co 12 (mO ad v)), ((ad 9), cn 0 6 by0), ((ad 10), cn 1 64 tr0)] 5 [(0, ar h), (1, ai one), (2, ai other), (3, ai stake)] [ai (if 0 ≤ one ∧ one ≤ (f 0) - 1 then 1 else 0)] 0 0
  refine v_ifb_eq (pc := 5) 16 dX12_wager_5 (by decide) (fun c_1 => ?_) (fun c_1 => ?_)
  · skip
    refine v_iconst (pc := 16) dX12_wager_16 ?_
    exact hret (v, by0, tr0) _ _ _ _ _ _ (by exact vK_rf v) (congrArg (fun z => some (ai z)) (by unfold qWager; (repeat' split) <;> first | rfl | omega | (exfalso; omega))) rfl (Nat.le_of_ble_eq_true rfl) (Nat.le_of_ble_eq_true rfl) dX12_wager_17
  · skip
    refine v_aload_n (pc := 8) 0 rfl dX12_wager_8 ?_
    refine v_iload_n (pc := 9) 2 rfl dX12_wager_9 ?_
    refine v_callV (pc := 10) [] [0, 1, 2] [(h, co 12 (mO ad v)), ((ad 9), cn 0 6 by0), ((ad 10), cn 1 64 tr0)] (As := [ai other]) (rest := []) (c_X12_isPlayer ad v h f other (by first | assumption | omega) (by first | assumption | omega)) (c := 12) rfl (Or.inr ⟨0, rfl⟩) wl_X12_136 wi_X12_isPlayer wv_X12_X12_isPlayer_X12_isPlayer wk_X12_isPlayer wz_X12 md_X12_isPlayer rfl (Nat.le_of_ble_eq_true rfl) ⟨Nat.le_of_ble_eq_true rfl, Nat.le_of_ble_eq_true rfl, Nat.le_of_ble_eq_true rfl, Nat.le_of_ble_eq_true rfl⟩ rfl rfl rfl rfl (by decide) (ro_cons (Or.inr ⟨0, rfl, by decide⟩) (ro_cons (Or.inl r0) ro_nil)) dX12_wager_10 (fun u hu => ?_)
    show V x cX12_wager RX12 4 (rmU 4 102 0 0) [(h, co 12 (mO ad v)), ((ad 9), cn 0 6 by0), ((ad 10), cn 1 64 tr0)] 13 [(0, ar h), (1, ai one), (2, ai other), (3, ai stake)] [ai (if 0 ≤ other ∧ other ≤ (f 0) - 1 then 1 else 0)] 0 0
    refine v_ifb_ne (pc := 13) 18 dX12_wager_13 (by decide) (fun c_2 => ?_) (fun c_2 => ?_)
    · skip
      refine v_iload_n (pc := 18) 1 rfl dX12_wager_18 ?_
      refine v_iload_n (pc := 19) 2 rfl dX12_wager_19 ?_
      refine v_icmp_eq (pc := 20) 34 dX12_wager_20 (by decide) (by unfold iB; omega) (by unfold iB; omega) (fun c_3 => ?_) (fun c_3 => ?_)
      · skip
        refine v_bipush (pc := 34) dX12_wager_34 (by decide) ?_
        exact hret (v, by0, tr0) _ _ _ _ _ _ (by exact vK_rf v) (congrArg (fun z => some (ai z)) (by unfold qWager; (repeat' split) <;> first | rfl | omega | (exfalso; omega))) rfl (Nat.le_of_ble_eq_true rfl) (Nat.le_of_ble_eq_true rfl) dX12_wager_36
      · skip
        refine v_iload_n (pc := 23) 3 rfl dX12_wager_23 ?_
        refine v_iconst (pc := 24) dX12_wager_24 ?_
        refine v_sipush (pc := 25) dX12_wager_25 (by decide) ?_
        refine v_callS (pc := 28) [] [0, 1, 2] [(h, co 12 (mO ad v)), ((ad 9), cn 0 6 by0), ((ad 10), cn 1 64 tr0)] (As := [ai stake, ai 0, ai 999]) (rest := []) (c_X12_in stake 0 999 (by first | assumption | omega) (by first | assumption | omega) (by first | assumption | omega)) wl_X12_41 ws_X12_in wk_X12_in wz_X12 md_X12_in rfl (Nat.le_of_ble_eq_true rfl) ⟨Nat.le_of_ble_eq_true rfl, Nat.le_of_ble_eq_true rfl, Nat.le_of_ble_eq_true rfl, Nat.le_of_ble_eq_true rfl⟩ rfl rfl rfl rfl (by decide) ro_nil dX12_wager_28 (fun u hu => ?_)
        show V x cX12_wager RX12 4 (rmU 4 102 0 0) [(h, co 12 (mO ad v)), ((ad 9), cn 0 6 by0), ((ad 10), cn 1 64 tr0)] 31 [(0, ar h), (1, ai one), (2, ai other), (3, ai stake)] [ai (if 0 ≤ stake ∧ stake ≤ 999 then 1 else 0)] 0 0
        refine v_ifb_ne (pc := 31) 37 dX12_wager_31 (by decide) (fun c_4 => ?_) (fun c_4 => ?_)
        · skip
          have hf := hSp one (by omega) (by omega)
          have hfo := hSp other (by omega) (by omega)
          obtain ⟨hp, hf1, hf2, hf3, hf4, hf5, hf6, hf7, hf8⟩ := id hf
          have hom := oneM_b hfo
          have hbb := fBest_b (f := f) (p := one) (n := oneM f other)
          refine v_aload_n (pc := 37) 0 rfl dX12_wager_37 ?_
          refine v_get (pc := 38) (v := ar (ad 1)) 1 (Or.inr ⟨0, rfl⟩) fl_12_9_12 rfl dX12_wager_38 ?_
          refine v_bipush (pc := 41) dX12_wager_41 (by decide) ?_
          refine v_iload_n (pc := 43) 1 rfl dX12_wager_43 ?_
          refine v_iadd (pc := 44) dX12_wager_44 ?_
          refine v_iald (pc := 45) (Or.inl r0) (by omega) (by omega) (by decide) dX12_wager_45 ?_
          refine v_iload_n (pc := 46) 3 rfl dX12_wager_46 ?_
          refine v_icmp_lt (pc := 47) 72 dX12_wager_47 (by decide) (by unfold iB; omega) (by unfold iB; omega) (fun c_5 => ?_) (fun c_5 => ?_)
          · skip
            refine v_iconst (pc := 72) dX12_wager_72 ?_
            exact hret (v, by0, tr0) _ _ _ _ _ _ (by exact vK_rf v) (congrArg (fun z => some (ai z)) (by unfold qWager; (repeat' split) <;> first | rfl | omega | (exfalso; omega))) rfl (Nat.le_of_ble_eq_true rfl) (Nat.le_of_ble_eq_true rfl) dX12_wager_73
          · skip
            refine v_iload_n (pc := 50) 3 rfl dX12_wager_50 ?_
            refine v_if_le (pc := 51) 72 dX12_wager_51 (by decide) (by unfold iB; omega) (fun c_6 => ?_) (fun c_6 => ?_)
            · skip
              refine v_iconst (pc := 72) dX12_wager_72 ?_
              exact hret (v, by0, tr0) _ _ _ _ _ _ (by exact vK_rf v) (congrArg (fun z => some (ai z)) (by unfold qWager; (repeat' split) <;> first | rfl | omega | (exfalso; omega))) rfl (Nat.le_of_ble_eq_true rfl) (Nat.le_of_ble_eq_true rfl) dX12_wager_73
            · skip
              refine v_aload_n (pc := 54) 0 rfl dX12_wager_54 ?_
              refine v_iload_n (pc := 55) 1 rfl dX12_wager_55 ?_
              refine v_aload_n (pc := 56) 0 rfl dX12_wager_56 ?_
              refine v_iload_n (pc := 57) 2 rfl dX12_wager_57 ?_
              refine v_callV (pc := 58) [] [0, 1, 2] [(h, co 12 (mO ad v)), ((ad 9), cn 0 6 by0), ((ad 10), cn 1 64 tr0)] (As := [ai other]) (rest := [ai one, ar h]) (c_X12_oneMore ad v h f other (by first | assumption | omega)) (c := 12) rfl (Or.inr ⟨0, rfl⟩) wl_X12_213 wi_X12_oneMore wv_X12_X12_oneMore_X12_oneMore wk_X12_oneMore wz_X12 md_X12_oneMore rfl (Nat.le_of_ble_eq_true rfl) ⟨Nat.le_of_ble_eq_true rfl, Nat.le_of_ble_eq_true rfl, Nat.le_of_ble_eq_true rfl, Nat.le_of_ble_eq_true rfl⟩ rfl rfl rfl rfl (by decide) (ro_cons (Or.inr ⟨0, rfl, by decide⟩) (ro_cons (Or.inl r0) ro_nil)) dX12_wager_58 (fun u hu => ?_)
              show V x cX12_wager RX12 4 (rmU 4 102 0 0) [(h, co 12 (mO ad v)), ((ad 9), cn 0 6 by0), ((ad 10), cn 1 64 tr0)] 61 [(0, ar h), (1, ai one), (2, ai other), (3, ai stake)] [ai (if f (37 + other) < 99 then f (37 + other) + 1 else 99), ai one, ar h] 0 0
              refine v_eqi (y := (oneM f other)) (rfl) ?_
              refine v_callV (pc := 61) [0, 1, 2] [] [] (As := [ai one, ai (oneM f other)]) (rest := []) (c_X12_bestOf ad v h f by0 tr0 one (oneM f other) (by first | assumption | omega) (by first | assumption | omega) (by first | assumption | omega) (by first | assumption | omega)) (c := 12) rfl (Or.inr ⟨0, rfl⟩) wl_X12_187 wi_X12_bestOf wv_X12_X12_bestOf_X12_bestOf wk_X12_bestOf wz_X12 md_X12_bestOf rfl (Nat.le_of_ble_eq_true rfl) ⟨Nat.le_of_ble_eq_true rfl, Nat.le_of_ble_eq_true rfl, Nat.le_of_ble_eq_true rfl, Nat.le_of_ble_eq_true rfl⟩ rfl rfl rfl rfl (by decide) (ro_cons (Or.inl r0) ro_nil) dX12_wager_61 (fun u hu => ?_)
              obtain ⟨v2_7, by2_8, tr2_9⟩ := u
              have g_10 : vK v v2_7 ∧ v2_7 15 = v 15 ∧ v2_7 13 = (fBst f one (oneM f other) 21).2 := hu
              show V x cX12_wager RX12 4 (rmU 4 102 0 0) [(h, co 12 (mO ad v2_7)), ((ad 9), cn 0 6 by2_8), ((ad 10), cn 1 64 tr2_9)] 64 [(0, ar h), (1, ai one), (2, ai other), (3, ai stake)] [ai (fBest f one (oneM f other))] 0 0
              have hkeep := g_10.1
              refine v_iconst (pc := 64) dX12_wager_64 ?_
              refine v_icmp_le (pc := 65) 72 dX12_wager_65 (by decide) (by unfold iB; omega) (by unfold iB; omega) (fun c_11 => ?_) (fun c_11 => ?_)
              · skip
                refine v_iconst (pc := 72) dX12_wager_72 ?_
                exact hret (v2_7, by2_8, tr2_9) _ _ _ _ _ _ (by exact hkeep) (congrArg (fun z => some (ai z)) (by unfold qWager; (repeat' split) <;> first | rfl | omega | (exfalso; omega))) rfl (Nat.le_of_ble_eq_true rfl) (Nat.le_of_ble_eq_true rfl) dX12_wager_73
              · skip
                refine v_iconst (pc := 68) dX12_wager_68 ?_
                refine v_goto (pc := 69) 73 dX12_wager_69 (by decide) ?_
                exact hret (v2_7, by2_8, tr2_9) _ _ _ _ _ _ (by exact hkeep) (congrArg (fun z => some (ai z)) (by unfold qWager; (repeat' split) <;> first | rfl | omega | (exfalso; omega))) rfl (Nat.le_of_ble_eq_true rfl) (Nat.le_of_ble_eq_true rfl) dX12_wager_73
        · skip
          refine v_bipush (pc := 34) dX12_wager_34 (by decide) ?_
          exact hret (v, by0, tr0) _ _ _ _ _ _ (by exact vK_rf v) (congrArg (fun z => some (ai z)) (by unfold qWager; (repeat' split) <;> first | rfl | omega | (exfalso; omega))) rfl (Nat.le_of_ble_eq_true rfl) (Nat.le_of_ble_eq_true rfl) dX12_wager_36
    · skip
      refine v_iconst (pc := 16) dX12_wager_16 ?_
      exact hret (v, by0, tr0) _ _ _ _ _ _ (by exact vK_rf v) (congrArg (fun z => some (ai z)) (by unfold qWager; (repeat' split) <;> first | rfl | omega | (exfalso; omega))) rfl (Nat.le_of_ble_eq_true rfl) (Nat.le_of_ble_eq_true rfl) dX12_wager_17
