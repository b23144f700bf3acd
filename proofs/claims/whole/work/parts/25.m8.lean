set_option maxHeartbeats 4000000 in
set_option maxRecDepth 100000 in
theorem c_X12_raises {gS : sG} (ad : Nat → Nat) (v : Nat → Int) (h : Nat) (f : Int → Int) (by0 : Int → Int) (tr0 : Int → Int) (one : Int) (other : Int) (n : Int) (tries : Int) (hS : SOK f) (ho : 0 ≤ one ∧ one < f 0) (hq : 0 ≤ other ∧ other < f 0) (hn : 1 ≤ n ∧ n ≤ 99) (ht : 1 ≤ tries ∧ tries ≤ 8) : Ct gS (S := (Nat → Int) × (Int → Int) × (Int → Int)) yX12_raises cX12_raises 7 none 4 102 0 0 [ar h, ai one, ai other, ai n, ai tries] [(h, co 12 (mO ad v)), ((ad 9), cn 0 6 by0), ((ad 10), cn 1 64 tr0)] (fun q => q ∈ ([((ad 1), cn 0 936 f)] : aW)) (fun u => (u.1 3 = v 3 ∧ u.1 21 = v 21) ∧ u.1 16 = (rs (rsG f one other n) tries.toNat).1 ∧ u.1 17 = (rs (rsG f one other n) tries.toNat).2) (fun u => none) (fun u => [(h, co 12 (mO ad u.1)), ((ad 9), cn 0 6 u.2.1), ((ad 10), cn 1 64 u.2.2)]) := by
  refine ct_V RX12 [(0, ar h), (1, ai one), (2, ai other), (3, ai n), (4, ai tries)] (by decide) rfl (Nat.le_of_ble_eq_true rfl) rfl (fun x hgS hnm hro hret => ?_)
  subst hgS
  have r0 := hro _ (mem_at 0 rfl)
  obtain ⟨hg, hSp, hSh, hSs, hSb, hSt, hwf⟩ := id hS
  obtain ⟨hg0, hg1, hg2, hg3, hg4, hg5, hg6, hg7⟩ := id hg
  have hfa := hSp one (by omega) (by omega)
  have hfb := hSp other (by omega) (by omega)
  show V x cX12_raises RX12 7 (rmU 4 102 0 0) [(h, co 12 (mO ad v)), ((ad 9), cn 0 6 by0), ((ad 10), cn 1 64 tr0)] 0 [(0, ar h), (1, ai one), (2, ai other), (3, ai n), (4, ai tries)] [] 0 0
  refine v_aload_n (pc := 0) 0 rfl dX12_raises_0 ?_
  refine v_lconst0 (pc := 1) dX12_raises_1 ?_
  refine v_put (pc := 2) 16 0 rfl fl_12_218_12 ck_12 ft_12_16 (okV_l _) (Nat.le_of_ble_eq_true rfl) (ws2 := [(h, co 12 (mO ad (nup v 16 0))), ((ad 9), cn 0 6 by0), ((ad 10), cn 1 64 tr0)]) rfl dX12_raises_2 ?_
  refine v_aload_n (pc := 5) 0 rfl dX12_raises_5 ?_
  refine v_lconst1 (pc := 6) dX12_raises_6 ?_
  refine v_put (pc := 7) 17 0 rfl fl_12_222_12 ck_12 ft_12_17 (okV_l _) (Nat.le_of_ble_eq_true rfl) (ws2 := [(h, co 12 (mO ad (nup (nup v 16 0) 17 1))), ((ad 9), cn 0 6 by0), ((ad 10), cn 1 64 tr0)]) rfl dX12_raises_7 ?_
  refine v_iconst (pc := 10) dX12_raises_10 ?_
  refine v_istore (pc := 11) (L2 := [(5, ai 0), (0, ar h), (1, ai one), (2, ai other), (3, ai n), (4, ai tries)]) rfl (by decide) dX12_raises_11 ?_
  have lp13 : ∀ (mm : Nat) (j : Int) (v1 : Nat → Int) (by1 : Int → Int) (tr1 : Int → Int), (tries - j).toNat = mm → (0 ≤ j ∧ j ≤ tries) → (v1 3 = v 3 ∧ v1 21 = v 21) → (v1 16 = (rs (rsG f one other n) j.toNat).1) → (v1 17 = (rs (rsG f one other n) j.toNat).2) → V x cX12_raises RX12 7 (rmU 4 102 0 0) [(h, co 12 (mO ad v1)), ((ad 9), cn 0 6 by1), ((ad 10), cn 1 64 tr1)] 13 [(0, ar h), (1, ai one), (2, ai other), (3, ai n), (4, ai tries), (5, ai j)] [] 0 0 := by
    intro mm
    induction mm using Nat.strongRecOn with
    | _ mm ih =>
      intro j v1 by1 tr1 hmm hj h3 h16 h17
      have hrs := rs_at (G := rsG f one other n) hj.1
      have hrg := rsG_at (f := f) (a := one) (b := other) (n := n) hj.1
      refine v_iload (pc := 13) 5 rfl dX12_raises_13 ?_
      refine v_iload (pc := 15) 4 rfl dX12_raises_15 ?_
      refine v_icmp_ge (pc := 17) 110 dX12_raises_17 (by decide) (by unfold iB; omega) (by unfold iB; omega) (fun c_1 => ?_) (fun c_1 => ?_)
      · skip
        exact hret (v1, by1, tr1) _ _ _ _ _ (by exact ⟨h3, (show j = tries by omega) ▸ h16, (show j = tries by omega) ▸ h17⟩) rfl rfl (Nat.le_of_ble_eq_true rfl) (Nat.le_of_ble_eq_true rfl) dX12_raises_110
      · skip
        refine v_aload_n (pc := 20) 0 rfl dX12_raises_20 ?_
        refine v_iload (pc := 21) 5 rfl dX12_raises_21 ?_
        refine v_iconst (pc := 23) dX12_raises_23 ?_
        refine v_irem (pc := 24) (by omega) (by omega) (by unfold iB; omega) (by unfold iB; omega) dX12_raises_24 ?_
        refine v_if_ne (pc := 25) 32 dX12_raises_25 (by decide) (by unfold iB; omega) (fun c_2 => ?_) (fun c_2 => ?_)
        · skip
          refine v_iload_n (pc := 32) 2 rfl dX12_raises_32 ?_
          refine v_iload_n (pc := 33) 3 rfl dX12_raises_33 ?_
          refine v_iload (pc := 34) 5 rfl dX12_raises_34 ?_
          refine v_iadd (pc := 36) dX12_raises_36 ?_
          refine v_bipush (pc := 37) dX12_raises_37 (by decide) ?_
          refine v_icmp_ge (pc := 39) 49 dX12_raises_39 (by decide) (by unfold iB; omega) (by unfold iB; omega) (fun c_3 => ?_) (fun c_3 => ?_)
          · skip
            refine v_bipush (pc := 49) dX12_raises_49 (by decide) ?_
            refine v_callV (pc := 51) [0, 1, 2] [] [] (As := [ai other, ai 99]) (rest := []) (c_X12_bestOf ad v1 h f by1 tr1 other 99 (by first | exact hfa | exact hfb) (by first | assumption | omega) (by first | assumption | omega) (by first | assumption | omega)) (c := 12) rfl (Or.inr ⟨0, rfl⟩) wl_X12_187 wi_X12_bestOf wv_X12_X12_bestOf_X12_bestOf wk_X12_bestOf wz_X12 md_X12_bestOf rfl (Nat.le_of_ble_eq_true rfl) ⟨Nat.le_of_ble_eq_true rfl, Nat.le_of_ble_eq_true rfl, Nat.le_of_ble_eq_true rfl, Nat.le_of_ble_eq_true rfl⟩ rfl rfl rfl rfl (by decide) (ro_cons (Or.inl r0) ro_nil) dX12_raises_51 (fun u hu => ?_)
            obtain ⟨v2_4, by2_5, tr2_6⟩ := u
            have g_7 : vK v1 v2_4 ∧ v2_4 15 = v1 15 ∧ v2_4 13 = (fBst f other 99 21).2 := hu
            show V x cX12_raises RX12 7 (rmU 4 102 0 0) [(h, co 12 (mO ad v2_4)), ((ad 9), cn 0 6 by2_5), ((ad 10), cn 1 64 tr2_6)] 54 [(0, ar h), (1, ai one), (2, ai other), (3, ai n), (4, ai tries), (5, ai j)] [ai (fBest f other 99)] 0 0
            have hkeep := g_7.1
            have hbo : (fBest f other 99) = rsG f one other n j.toNat := by rw [hrg]; (first | rw [if_pos (by omega : j % 2 = 0)] | rw [if_neg (by omega : ¬ j % 2 = 0)]); (first | rw [if_pos (by omega)] | rw [if_neg (by omega)])
            have hbb := fBest_b (f := f) (p := other) (n := 99)
            refine v_istore (pc := 54) (L2 := [(6, ai (fBest f other 99)), (0, ar h), (1, ai one), (2, ai other), (3, ai n), (4, ai tries), (5, ai j)]) rfl (by decide) dX12_raises_54 ?_
            refine v_aload_n (pc := 56) 1 rfl dX12_raises_56 ?_
            refine v_ldc2 (pc := 57) (z := 10) (bw_mem 1286 (by decide +kernel) rfl) dX12_raises_57 ?_
            refine v_aload_n (pc := 60) 1 rfl dX12_raises_60 ?_
            refine v_get (pc := 61) (v := al (v2_4 16)) 16 (Or.inr ⟨0, rfl⟩) fl_12_218_12 rfl dX12_raises_61 ?_
            refine v_lmul (pc := 64) dX12_raises_64 ?_
            refine v_iload (pc := 65) 6 rfl dX12_raises_65 ?_
            refine v_iconst (pc := 67) dX12_raises_67 ?_
            refine v_irem (pc := 68) (by omega) (by omega) (by unfold iB; omega) (by unfold iB; omega) dX12_raises_68 ?_
            refine v_iconst (pc := 69) dX12_raises_69 ?_
            refine v_icmp_ne (pc := 70) 87 dX12_raises_70 (by decide) (by unfold iB; omega) (by unfold iB; omega) (fun c_8 => ?_) (fun c_8 => ?_)
            · skip
              refine v_lconst0 (pc := 87) dX12_raises_87 ?_
              refine v_ladd (pc := 88) dX12_raises_88 ?_
              refine v_put (pc := 89) 16 0 rfl fl_12_218_12 ck_12 ft_12_16 (okV_l _) (Nat.le_of_ble_eq_true rfl) (ws2 := [(h, co 12 (mO ad (nup v2_4 16 ((10 * (v2_4 16)) + 0)))), ((ad 9), cn 0 6 by2_5), ((ad 10), cn 1 64 tr2_6)]) rfl dX12_raises_89 ?_
              refine v_aload_n (pc := 92) 1 rfl dX12_raises_92 ?_
              refine v_dup (pc := 93) rfl dX12_raises_93 ?_
              refine v_get (pc := 94) (v := al (v2_4 17)) 17 (Or.inr ⟨0, rfl⟩) fl_12_222_12 rfl dX12_raises_94 ?_
              refine v_iload (pc := 97) 0 rfl dX12_raises_97 ?_
              refine v_i2l (pc := 99) (by unfold iB; omega) dX12_raises_99 ?_
              refine v_lmul (pc := 100) dX12_raises_100 ?_
              refine v_put (pc := 101) 17 0 rfl fl_12_222_12 ck_12 ft_12_17 (okV_l _) (Nat.le_of_ble_eq_true rfl) (ws2 := [(h, co 12 (mO ad (nup (nup v2_4 16 ((10 * (v2_4 16)) + 0)) 17 ((v2_4 17) * (fBest f other 99))))), ((ad 9), cn 0 6 by2_5), ((ad 10), cn 1 64 tr2_6)]) rfl dX12_raises_101 ?_
              refine v_iinc (pc := 104) 6 (L2 := [(5, ai (j + 1)), (6, ai (fBest f other 99)), (0, ar h), (1, ai one), (2, ai other), (3, ai n), (4, ai tries)]) rfl rfl (by decide) dX12_raises_104 ?_
              refine v_goto (pc := 107) 13 dX12_raises_107 (by decide) ?_
              refine v_sub (L2 := [(0, ar h), (1, ai one), (2, ai other), (3, ai n), (4, ai tries), (5, ai (j + 1))]) [2, 3, 4, 5, 6, 0] rfl ?_
              exact ih _ (by omega) (j + 1) (nup (nup v2_4 16 ((10 * (v2_4 16)) + 0)) 17 ((v2_4 17) * (fBest f other 99))) by2_5 tr2_6 rfl (by omega) (by exact ⟨hkeep.1.trans h3.1, hkeep.2.2.2.trans h3.2⟩) (by first | (exfalso; omega) | skip; rw [hrs]; show _ = 10 * _ + _; rw [nup_n _ _ (by decide), nup_s, hkeep.2.1, h16]; (first | rw [if_pos (by omega)] | rw [if_neg (by omega)]); (first | rw [hkeep.2.2.1, h17, ← hbo] | skip)) (by rw [hrs]; show _ = _ * _; rw [nup_s, hkeep.2.2.1, h17, ← hbo])
            · skip
              refine v_aload_n (pc := 73) 1 rfl dX12_raises_73 ?_
              refine v_get (pc := 74) (v := al (v2_4 17)) 17 (Or.inr ⟨0, rfl⟩) fl_12_222_12 rfl dX12_raises_74 ?_
              refine v_bipush (pc := 77) dX12_raises_77 (by decide) ?_
              refine v_iload (pc := 79) 0 rfl dX12_raises_79 ?_
              refine v_isub (pc := 81) dX12_raises_81 ?_
              refine v_i2l (pc := 82) (by unfold iB; omega) dX12_raises_82 ?_
              refine v_lmul (pc := 83) dX12_raises_83 ?_
              refine v_goto (pc := 84) 88 dX12_raises_84 (by decide) ?_
              refine v_ladd (pc := 88) dX12_raises_88 ?_
              refine v_put (pc := 89) 16 0 rfl fl_12_218_12 ck_12 ft_12_16 (okV_l _) (Nat.le_of_ble_eq_true rfl) (ws2 := [(h, co 12 (mO ad (nup v2_4 16 ((10 * (v2_4 16)) + ((v2_4 17) * (10 - (fBest f other 99))))))), ((ad 9), cn 0 6 by2_5), ((ad 10), cn 1 64 tr2_6)]) rfl dX12_raises_89 ?_
              refine v_aload_n (pc := 92) 1 rfl dX12_raises_92 ?_
              refine v_dup (pc := 93) rfl dX12_raises_93 ?_
              refine v_get (pc := 94) (v := al (v2_4 17)) 17 (Or.inr ⟨0, rfl⟩) fl_12_222_12 rfl dX12_raises_94 ?_
              refine v_iload (pc := 97) 0 rfl dX12_raises_97 ?_
              refine v_i2l (pc := 99) (by unfold iB; omega) dX12_raises_99 ?_
              refine v_lmul (pc := 100) dX12_raises_100 ?_
              refine v_put (pc := 101) 17 0 rfl fl_12_222_12 ck_12 ft_12_17 (okV_l _) (Nat.le_of_ble_eq_true rfl) (ws2 := [(h, co 12 (mO ad (nup (nup v2_4 16 ((10 * (v2_4 16)) + ((v2_4 17) * (10 - (fBest f other 99))))) 17 ((v2_4 17) * (fBest f other 99))))), ((ad 9), cn 0 6 by2_5), ((ad 10), cn 1 64 tr2_6)]) rfl dX12_raises_101 ?_
              refine v_iinc (pc := 104) 6 (L2 := [(5, ai (j + 1)), (6, ai (fBest f other 99)), (0, ar h), (1, ai one), (2, ai other), (3, ai n), (4, ai tries)]) rfl rfl (by decide) dX12_raises_104 ?_
              refine v_goto (pc := 107) 13 dX12_raises_107 (by decide) ?_
              refine v_sub (L2 := [(0, ar h), (1, ai one), (2, ai other), (3, ai n), (4, ai tries), (5, ai (j + 1))]) [2, 3, 4, 5, 6, 0] rfl ?_
              exact ih _ (by omega) (j + 1) (nup (nup v2_4 16 ((10 * (v2_4 16)) + ((v2_4 17) * (10 - (fBest f other 99))))) 17 ((v2_4 17) * (fBest f other 99))) by2_5 tr2_6 rfl (by omega) (by exact ⟨hkeep.1.trans h3.1, hkeep.2.2.2.trans h3.2⟩) (by first | (exfalso; omega) | skip; rw [hrs]; show _ = 10 * _ + _; rw [nup_n _ _ (by decide), nup_s, hkeep.2.1, h16]; (first | rw [if_pos (by omega)] | rw [if_neg (by omega)]); (first | rw [hkeep.2.2.1, h17, ← hbo] | skip)) (by rw [hrs]; show _ = _ * _; rw [nup_s, hkeep.2.2.1, h17, ← hbo])
          · skip
            refine v_iload_n (pc := 42) 3 rfl dX12_raises_42 ?_
            refine v_iload (pc := 43) 5 rfl dX12_raises_43 ?_
            refine v_iadd (pc := 45) dX12_raises_45 ?_
            refine v_goto (pc := 46) 51 dX12_raises_46 (by decide) ?_
            refine v_callV (pc := 51) [0, 1, 2] [] [] (As := [ai other, ai (n + j)]) (rest := []) (c_X12_bestOf ad v1 h f by1 tr1 other (n + j) (by first | exact hfa | exact hfb) (by first | assumption | omega) (by first | assumption | omega) (by first | assumption | omega)) (c := 12) rfl (Or.inr ⟨0, rfl⟩) wl_X12_187 wi_X12_bestOf wv_X12_X12_bestOf_X12_bestOf wk_X12_bestOf wz_X12 md_X12_bestOf rfl (Nat.le_of_ble_eq_true rfl) ⟨Nat.le_of_ble_eq_true rfl, Nat.le_of_ble_eq_true rfl, Nat.le_of_ble_eq_true rfl, Nat.le_of_ble_eq_true rfl⟩ rfl rfl rfl rfl (by decide) (ro_cons (Or.inl r0) ro_nil) dX12_raises_51 (fun u hu => ?_)
            obtain ⟨v2_9, by2_10, tr2_11⟩ := u
            have g_12 : vK v1 v2_9 ∧ v2_9 15 = v1 15 ∧ v2_9 13 = (fBst f other (n + j) 21).2 := hu
            show V x cX12_raises RX12 7 (rmU 4 102 0 0) [(h, co 12 (mO ad v2_9)), ((ad 9), cn 0 6 by2_10), ((ad 10), cn 1 64 tr2_11)] 54 [(0, ar h), (1, ai one), (2, ai other), (3, ai n), (4, ai tries), (5, ai j)] [ai (fBest f other (n + j))] 0 0
            have hkeep := g_12.1
            have hbo : (fBest f other (n + j)) = rsG f one other n j.toNat := by rw [hrg]; (first | rw [if_pos (by omega : j % 2 = 0)] | rw [if_neg (by omega : ¬ j % 2 = 0)]); (first | rw [if_pos (by omega)] | rw [if_neg (by omega)])
            have hbb := fBest_b (f := f) (p := other) (n := (n + j))
            refine v_istore (pc := 54) (L2 := [(6, ai (fBest f other (n + j))), (0, ar h), (1, ai one), (2, ai other), (3, ai n), (4, ai tries), (5, ai j)]) rfl (by decide) dX12_raises_54 ?_
            refine v_aload_n (pc := 56) 1 rfl dX12_raises_56 ?_
            refine v_ldc2 (pc := 57) (z := 10) (bw_mem 1286 (by decide +kernel) rfl) dX12_raises_57 ?_
            refine v_aload_n (pc := 60) 1 rfl dX12_raises_60 ?_
            refine v_get (pc := 61) (v := al (v2_9 16)) 16 (Or.inr ⟨0, rfl⟩) fl_12_218_12 rfl dX12_raises_61 ?_
            refine v_lmul (pc := 64) dX12_raises_64 ?_
            refine v_iload (pc := 65) 6 rfl dX12_raises_65 ?_
            refine v_iconst (pc := 67) dX12_raises_67 ?_
            refine v_irem (pc := 68) (by omega) (by omega) (by unfold iB; omega) (by unfold iB; omega) dX12_raises_68 ?_
            refine v_iconst (pc := 69) dX12_raises_69 ?_
            refine v_icmp_ne (pc := 70) 87 dX12_raises_70 (by decide) (by unfold iB; omega) (by unfold iB; omega) (fun c_13 => ?_) (fun c_13 => ?_)
            · skip
              refine v_lconst0 (pc := 87) dX12_raises_87 ?_
              refine v_ladd (pc := 88) dX12_raises_88 ?_
              refine v_put (pc := 89) 16 0 rfl fl_12_218_12 ck_12 ft_12_16 (okV_l _) (Nat.le_of_ble_eq_true rfl) (ws2 := [(h, co 12 (mO ad (nup v2_9 16 ((10 * (v2_9 16)) + 0)))), ((ad 9), cn 0 6 by2_10), ((ad 10), cn 1 64 tr2_11)]) rfl dX12_raises_89 ?_
              refine v_aload_n (pc := 92) 1 rfl dX12_raises_92 ?_
              refine v_dup (pc := 93) rfl dX12_raises_93 ?_
              refine v_get (pc := 94) (v := al (v2_9 17)) 17 (Or.inr ⟨0, rfl⟩) fl_12_222_12 rfl dX12_raises_94 ?_
              refine v_iload (pc := 97) 0 rfl dX12_raises_97 ?_
              refine v_i2l (pc := 99) (by unfold iB; omega) dX12_raises_99 ?_
              refine v_lmul (pc := 100) dX12_raises_100 ?_
              refine v_put (pc := 101) 17 0 rfl fl_12_222_12 ck_12 ft_12_17 (okV_l _) (Nat.le_of_ble_eq_true rfl) (ws2 := [(h, co 12 (mO ad (nup (nup v2_9 16 ((10 * (v2_9 16)) + 0)) 17 ((v2_9 17) * (fBest f other (n + j)))))), ((ad 9), cn 0 6 by2_10), ((ad 10), cn 1 64 tr2_11)]) rfl dX12_raises_101 ?_
              refine v_iinc (pc := 104) 6 (L2 := [(5, ai (j + 1)), (6, ai (fBest f other (n + j))), (0, ar h), (1, ai one), (2, ai other), (3, ai n), (4, ai tries)]) rfl rfl (by decide) dX12_raises_104 ?_
              refine v_goto (pc := 107) 13 dX12_raises_107 (by decide) ?_
              refine v_sub (L2 := [(0, ar h), (1, ai one), (2, ai other), (3, ai n), (4, ai tries), (5, ai (j + 1))]) [2, 3, 4, 5, 6, 0] rfl ?_
              exact ih _ (by omega) (j + 1) (nup (nup v2_9 16 ((10 * (v2_9 16)) + 0)) 17 ((v2_9 17) * (fBest f other (n + j)))) by2_10 tr2_11 rfl (by omega) (by exact ⟨hkeep.1.trans h3.1, hkeep.2.2.2.trans h3.2⟩) (by first | (exfalso; omega) | skip; rw [hrs]; show _ = 10 * _ + _; rw [nup_n _ _ (by decide), nup_s, hkeep.2.1, h16]; (first | rw [if_pos (by omega)] | rw [if_neg (by omega)]); (first | rw [hkeep.2.2.1, h17, ← hbo] | skip)) (by rw [hrs]; show _ = _ * _; rw [nup_s, hkeep.2.2.1, h17, ← hbo])
            · skip
              refine v_aload_n (pc := 73) 1 rfl dX12_raises_73 ?_
              refine v_get (pc := 74) (v := al (v2_9 17)) 17 (Or.inr ⟨0, rfl⟩) fl_12_222_12 rfl dX12_raises_74 ?_
              refine v_bipush (pc := 77) dX12_raises_77 (by decide) ?_
              refine v_iload (pc := 79) 0 rfl dX12_raises_79 ?_
              refine v_isub (pc := 81) dX12_raises_81 ?_
              refine v_i2l (pc := 82) (by unfold iB; omega) dX12_raises_82 ?_
              refine v_lmul (pc := 83) dX12_raises_83 ?_
              refine v_goto (pc := 84) 88 dX12_raises_84 (by decide) ?_
              refine v_ladd (pc := 88) dX12_raises_88 ?_
              refine v_put (pc := 89) 16 0 rfl fl_12_218_12 ck_12 ft_12_16 (okV_l _) (Nat.le_of_ble_eq_true rfl) (ws2 := [(h, co 12 (mO ad (nup v2_9 16 ((10 * (v2_9 16)) + ((v2_9 17) * (10 - (fBest f other (n + j)))))))), ((ad 9), cn 0 6 by2_10), ((ad 10), cn 1 64 tr2_11)]) rfl dX12_raises_89 ?_
              refine v_aload_n (pc := 92) 1 rfl dX12_raises_92 ?_
              refine v_dup (pc := 93) rfl dX12_raises_93 ?_
              refine v_get (pc := 94) (v := al (v2_9 17)) 17 (Or.inr ⟨0, rfl⟩) fl_12_222_12 rfl dX12_raises_94 ?_
              refine v_iload (pc := 97) 0 rfl dX12_raises_97 ?_
              refine v_i2l (pc := 99) (by unfold iB; omega) dX12_raises_99 ?_
              refine v_lmul (pc := 100) dX12_raises_100 ?_
              refine v_put (pc := 101) 17 0 rfl fl_12_222_12 ck_12 ft_12_17 (okV_l _) (Nat.le_of_ble_eq_true rfl) (ws2 := [(h, co 12 (mO ad (nup (nup v2_9 16 ((10 * (v2_9 16)) + ((v2_9 17) * (10 - (fBest f other (n + j)))))) 17 ((v2_9 17) * (fBest f other (n + j)))))), ((ad 9), cn 0 6 by2_10), ((ad 10), cn 1 64 tr2_11)]) rfl dX12_raises_101 ?_
              refine v_iinc (pc := 104) 6 (L2 := [(5, ai (j + 1)), (6, ai (fBest f other (n + j))), (0, ar h), (1, ai one), (2, ai other), (3, ai n), (4, ai tries)]) rfl rfl (by decide) dX12_raises_104 ?_
              refine v_goto (pc := 107) 13 dX12_raises_107 (by decide) ?_
              refine v_sub (L2 := [(0, ar h), (1, ai one), (2, ai other), (3, ai n), (4, ai tries), (5, ai (j + 1))]) [2, 3, 4, 5, 6, 0] rfl ?_
              exact ih _ (by omega) (j + 1) (nup (nup v2_9 16 ((10 * (v2_9 16)) + ((v2_9 17) * (10 - (fBest f other (n + j)))))) 17 ((v2_9 17) * (fBest f other (n + j)))) by2_10 tr2_11 rfl (by omega) (by exact ⟨hkeep.1.trans h3.1, hkeep.2.2.2.trans h3.2⟩) (by first | (exfalso; omega) | skip; rw [hrs]; show _ = 10 * _ + _; rw [nup_n _ _ (by decide), nup_s, hkeep.2.1, h16]; (first | rw [if_pos (by omega)] | rw [if_neg (by omega)]); (first | rw [hkeep.2.2.1, h17, ← hbo] | skip)) (by rw [hrs]; show _ = _ * _; rw [nup_s, hkeep.2.2.1, h17, ← hbo])
        · skip
          refine v_iload_n (pc := 28) 1 rfl dX12_raises_28 ?_
          refine v_goto (pc := 29) 33 dX12_raises_29 (by decide) ?_
          refine v_iload_n (pc := 33) 3 rfl dX12_raises_33 ?_
          refine v_iload (pc := 34) 5 rfl dX12_raises_34 ?_
          refine v_iadd (pc := 36) dX12_raises_36 ?_
          refine v_bipush (pc := 37) dX12_raises_37 (by decide) ?_
          refine v_icmp_ge (pc := 39) 49 dX12_raises_39 (by decide) (by unfold iB; omega) (by unfold iB; omega) (fun c_14 => ?_) (fun c_14 => ?_)
          · skip
            refine v_bipush (pc := 49) dX12_raises_49 (by decide) ?_
            refine v_callV (pc := 51) [0, 1, 2] [] [] (As := [ai one, ai 99]) (rest := []) (c_X12_bestOf ad v1 h f by1 tr1 one 99 (by first | exact hfa | exact hfb) (by first | assumption | omega) (by first | assumption | omega) (by first | assumption | omega)) (c := 12) rfl (Or.inr ⟨0, rfl⟩) wl_X12_187 wi_X12_bestOf wv_X12_X12_bestOf_X12_bestOf wk_X12_bestOf wz_X12 md_X12_bestOf rfl (Nat.le_of_ble_eq_true rfl) ⟨Nat.le_of_ble_eq_true rfl, Nat.le_of_ble_eq_true rfl, Nat.le_of_ble_eq_true rfl, Nat.le_of_ble_eq_true rfl⟩ rfl rfl rfl rfl (by decide) (ro_cons (Or.inl r0) ro_nil) dX12_raises_51 (fun u hu => ?_)
            obtain ⟨v2_15, by2_16, tr2_17⟩ := u
            have g_18 : vK v1 v2_15 ∧ v2_15 15 = v1 15 ∧ v2_15 13 = (fBst f one 99 21).2 := hu
            show V x cX12_raises RX12 7 (rmU 4 102 0 0) [(h, co 12 (mO ad v2_15)), ((ad 9), cn 0 6 by2_16), ((ad 10), cn 1 64 tr2_17)] 54 [(0, ar h), (1, ai one), (2, ai other), (3, ai n), (4, ai tries), (5, ai j)] [ai (fBest f one 99)] 0 0
            have hkeep := g_18.1
            have hbo : (fBest f one 99) = rsG f one other n j.toNat := by rw [hrg]; (first | rw [if_pos (by omega : j % 2 = 0)] | rw [if_neg (by omega : ¬ j % 2 = 0)]); (first | rw [if_pos (by omega)] | rw [if_neg (by omega)])
            have hbb := fBest_b (f := f) (p := one) (n := 99)
            refine v_istore (pc := 54) (L2 := [(6, ai (fBest f one 99)), (0, ar h), (1, ai one), (2, ai other), (3, ai n), (4, ai tries), (5, ai j)]) rfl (by decide) dX12_raises_54 ?_
            refine v_aload_n (pc := 56) 1 rfl dX12_raises_56 ?_
            refine v_ldc2 (pc := 57) (z := 10) (bw_mem 1286 (by decide +kernel) rfl) dX12_raises_57 ?_
            refine v_aload_n (pc := 60) 1 rfl dX12_raises_60 ?_
            refine v_get (pc := 61) (v := al (v2_15 16)) 16 (Or.inr ⟨0, rfl⟩) fl_12_218_12 rfl dX12_raises_61 ?_
            refine v_lmul (pc := 64) dX12_raises_64 ?_
            refine v_iload (pc := 65) 6 rfl dX12_raises_65 ?_
            refine v_iconst (pc := 67) dX12_raises_67 ?_
            refine v_irem (pc := 68) (by omega) (by omega) (by unfold iB; omega) (by unfold iB; omega) dX12_raises_68 ?_
            refine v_iconst (pc := 69) dX12_raises_69 ?_
            refine v_icmp_ne (pc := 70) 87 dX12_raises_70 (by decide) (by unfold iB; omega) (by unfold iB; omega) (fun c_19 => ?_) (fun c_19 => ?_)
            · skip
              refine v_lconst0 (pc := 87) dX12_raises_87 ?_
              refine v_ladd (pc := 88) dX12_raises_88 ?_
              refine v_put (pc := 89) 16 0 rfl fl_12_218_12 ck_12 ft_12_16 (okV_l _) (Nat.le_of_ble_eq_true rfl) (ws2 := [(h, co 12 (mO ad (nup v2_15 16 ((10 * (v2_15 16)) + 0)))), ((ad 9), cn 0 6 by2_16), ((ad 10), cn 1 64 tr2_17)]) rfl dX12_raises_89 ?_
              refine v_aload_n (pc := 92) 1 rfl dX12_raises_92 ?_
              refine v_dup (pc := 93) rfl dX12_raises_93 ?_
              refine v_get (pc := 94) (v := al (v2_15 17)) 17 (Or.inr ⟨0, rfl⟩) fl_12_222_12 rfl dX12_raises_94 ?_
              refine v_iload (pc := 97) 0 rfl dX12_raises_97 ?_
              refine v_i2l (pc := 99) (by unfold iB; omega) dX12_raises_99 ?_
              refine v_lmul (pc := 100) dX12_raises_100 ?_
              refine v_put (pc := 101) 17 0 rfl fl_12_222_12 ck_12 ft_12_17 (okV_l _) (Nat.le_of_ble_eq_true rfl) (ws2 := [(h, co 12 (mO ad (nup (nup v2_15 16 ((10 * (v2_15 16)) + 0)) 17 ((v2_15 17) * (fBest f one 99))))), ((ad 9), cn 0 6 by2_16), ((ad 10), cn 1 64 tr2_17)]) rfl dX12_raises_101 ?_
              refine v_iinc (pc := 104) 6 (L2 := [(5, ai (j + 1)), (6, ai (fBest f one 99)), (0, ar h), (1, ai one), (2, ai other), (3, ai n), (4, ai tries)]) rfl rfl (by decide) dX12_raises_104 ?_
              refine v_goto (pc := 107) 13 dX12_raises_107 (by decide) ?_
              refine v_sub (L2 := [(0, ar h), (1, ai one), (2, ai other), (3, ai n), (4, ai tries), (5, ai (j + 1))]) [2, 3, 4, 5, 6, 0] rfl ?_
              exact ih _ (by omega) (j + 1) (nup (nup v2_15 16 ((10 * (v2_15 16)) + 0)) 17 ((v2_15 17) * (fBest f one 99))) by2_16 tr2_17 rfl (by omega) (by exact ⟨hkeep.1.trans h3.1, hkeep.2.2.2.trans h3.2⟩) (by first | (exfalso; omega) | skip; rw [hrs]; show _ = 10 * _ + _; rw [nup_n _ _ (by decide), nup_s, hkeep.2.1, h16]; (first | rw [if_pos (by omega)] | rw [if_neg (by omega)]); (first | rw [hkeep.2.2.1, h17, ← hbo] | skip)) (by rw [hrs]; show _ = _ * _; rw [nup_s, hkeep.2.2.1, h17, ← hbo])
            · skip
              refine v_aload_n (pc := 73) 1 rfl dX12_raises_73 ?_
              refine v_get (pc := 74) (v := al (v2_15 17)) 17 (Or.inr ⟨0, rfl⟩) fl_12_222_12 rfl dX12_raises_74 ?_
              refine v_bipush (pc := 77) dX12_raises_77 (by decide) ?_
              refine v_iload (pc := 79) 0 rfl dX12_raises_79 ?_
              refine v_isub (pc := 81) dX12_raises_81 ?_
              refine v_i2l (pc := 82) (by unfold iB; omega) dX12_raises_82 ?_
              refine v_lmul (pc := 83) dX12_raises_83 ?_
              refine v_goto (pc := 84) 88 dX12_raises_84 (by decide) ?_
              refine v_ladd (pc := 88) dX12_raises_88 ?_
              refine v_put (pc := 89) 16 0 rfl fl_12_218_12 ck_12 ft_12_16 (okV_l _) (Nat.le_of_ble_eq_true rfl) (ws2 := [(h, co 12 (mO ad (nup v2_15 16 ((10 * (v2_15 16)) + ((v2_15 17) * (10 - (fBest f one 99))))))), ((ad 9), cn 0 6 by2_16), ((ad 10), cn 1 64 tr2_17)]) rfl dX12_raises_89 ?_
              refine v_aload_n (pc := 92) 1 rfl dX12_raises_92 ?_
              refine v_dup (pc := 93) rfl dX12_raises_93 ?_
              refine v_get (pc := 94) (v := al (v2_15 17)) 17 (Or.inr ⟨0, rfl⟩) fl_12_222_12 rfl dX12_raises_94 ?_
              refine v_iload (pc := 97) 0 rfl dX12_raises_97 ?_
              refine v_i2l (pc := 99) (by unfold iB; omega) dX12_raises_99 ?_
              refine v_lmul (pc := 100) dX12_raises_100 ?_
              refine v_put (pc := 101) 17 0 rfl fl_12_222_12 ck_12 ft_12_17 (okV_l _) (Nat.le_of_ble_eq_true rfl) (ws2 := [(h, co 12 (mO ad (nup (nup v2_15 16 ((10 * (v2_15 16)) + ((v2_15 17) * (10 - (fBest f one 99))))) 17 ((v2_15 17) * (fBest f one 99))))), ((ad 9), cn 0 6 by2_16), ((ad 10), cn 1 64 tr2_17)]) rfl dX12_raises_101 ?_
              refine v_iinc (pc := 104) 6 (L2 := [(5, ai (j + 1)), (6, ai (fBest f one 99)), (0, ar h), (1, ai one), (2, ai other), (3, ai n), (4, ai tries)]) rfl rfl (by decide) dX12_raises_104 ?_
              refine v_goto (pc := 107) 13 dX12_raises_107 (by decide) ?_
              refine v_sub (L2 := [(0, ar h), (1, ai one), (2, ai other), (3, ai n), (4, ai tries), (5, ai (j + 1))]) [2, 3, 4, 5, 6, 0] rfl ?_
              exact ih _ (by omega) (j + 1) (nup (nup v2_15 16 ((10 * (v2_15 16)) + ((v2_15 17) * (10 - (fBest f one 99))))) 17 ((v2_15 17) * (fBest f one 99))) by2_16 tr2_17 rfl (by omega) (by exact ⟨hkeep.1.trans h3.1, hkeep.2.2.2.trans h3.2⟩) (by first | (exfalso; omega) | skip; rw [hrs]; show _ = 10 * _ + _; rw [nup_n _ _ (by decide), nup_s, hkeep.2.1, h16]; (first | rw [if_pos (by omega)] | rw [if_neg (by omega)]); (first | rw [hkeep.2.2.1, h17, ← hbo] | skip)) (by rw [hrs]; show _ = _ * _; rw [nup_s, hkeep.2.2.1, h17, ← hbo])
          · skip
            refine v_iload_n (pc := 42) 3 rfl dX12_raises_42 ?_
            refine v_iload (pc := 43) 5 rfl dX12_raises_43 ?_
            refine v_iadd (pc := 45) dX12_raises_45 ?_
            refine v_goto (pc := 46) 51 dX12_raises_46 (by decide) ?_
            refine v_callV (pc := 51) [0, 1, 2] [] [] (As := [ai one, ai (n + j)]) (rest := []) (c_X12_bestOf ad v1 h f by1 tr1 one (n + j) (by first | exact hfa | exact hfb) (by first | assumption | omega) (by first | assumption | omega) (by first | assumption | omega)) (c := 12) rfl (Or.inr ⟨0, rfl⟩) wl_X12_187 wi_X12_bestOf wv_X12_X12_bestOf_X12_bestOf wk_X12_bestOf wz_X12 md_X12_bestOf rfl (Nat.le_of_ble_eq_true rfl) ⟨Nat.le_of_ble_eq_true rfl, Nat.le_of_ble_eq_true rfl, Nat.le_of_ble_eq_true rfl, Nat.le_of_ble_eq_true rfl⟩ rfl rfl rfl rfl (by decide) (ro_cons (Or.inl r0) ro_nil) dX12_raises_51 (fun u hu => ?_)
            obtain ⟨v2_20, by2_21, tr2_22⟩ := u
            have g_23 : vK v1 v2_20 ∧ v2_20 15 = v1 15 ∧ v2_20 13 = (fBst f one (n + j) 21).2 := hu
            show V x cX12_raises RX12 7 (rmU 4 102 0 0) [(h, co 12 (mO ad v2_20)), ((ad 9), cn 0 6 by2_21), ((ad 10), cn 1 64 tr2_22)] 54 [(0, ar h), (1, ai one), (2, ai other), (3, ai n), (4, ai tries), (5, ai j)] [ai (fBest f one (n + j))] 0 0
            have hkeep := g_23.1
            have hbo : (fBest f one (n + j)) = rsG f one other n j.toNat := by rw [hrg]; (first | rw [if_pos (by omega : j % 2 = 0)] | rw [if_neg (by omega : ¬ j % 2 = 0)]); (first | rw [if_pos (by omega)] | rw [if_neg (by omega)])
            have hbb := fBest_b (f := f) (p := one) (n := (n + j))
            refine v_istore (pc := 54) (L2 := [(6, ai (fBest f one (n + j))), (0, ar h), (1, ai one), (2, ai other), (3, ai n), (4, ai tries), (5, ai j)]) rfl (by decide) dX12_raises_54 ?_
            refine v_aload_n (pc := 56) 1 rfl dX12_raises_56 ?_
            refine v_ldc2 (pc := 57) (z := 10) (bw_mem 1286 (by decide +kernel) rfl) dX12_raises_57 ?_
            refine v_aload_n (pc := 60) 1 rfl dX12_raises_60 ?_
            refine v_get (pc := 61) (v := al (v2_20 16)) 16 (Or.inr ⟨0, rfl⟩) fl_12_218_12 rfl dX12_raises_61 ?_
            refine v_lmul (pc := 64) dX12_raises_64 ?_
            refine v_iload (pc := 65) 6 rfl dX12_raises_65 ?_
            refine v_iconst (pc := 67) dX12_raises_67 ?_
            refine v_irem (pc := 68) (by omega) (by omega) (by unfold iB; omega) (by unfold iB; omega) dX12_raises_68 ?_
            refine v_iconst (pc := 69) dX12_raises_69 ?_
            refine v_icmp_ne (pc := 70) 87 dX12_raises_70 (by decide) (by unfold iB; omega) (by unfold iB; omega) (fun c_24 => ?_) (fun c_24 => ?_)
            · skip
              refine v_lconst0 (pc := 87) dX12_raises_87 ?_
              refine v_ladd (pc := 88) dX12_raises_88 ?_
              refine v_put (pc := 89) 16 0 rfl fl_12_218_12 ck_12 ft_12_16 (okV_l _) (Nat.le_of_ble_eq_true rfl) (ws2 := [(h, co 12 (mO ad (nup v2_20 16 ((10 * (v2_20 16)) + 0)))), ((ad 9), cn 0 6 by2_21), ((ad 10), cn 1 64 tr2_22)]) rfl dX12_raises_89 ?_
              refine v_aload_n (pc := 92) 1 rfl dX12_raises_92 ?_
              refine v_dup (pc := 93) rfl dX12_raises_93 ?_
              refine v_get (pc := 94) (v := al (v2_20 17)) 17 (Or.inr ⟨0, rfl⟩) fl_12_222_12 rfl dX12_raises_94 ?_
              refine v_iload (pc := 97) 0 rfl dX12_raises_97 ?_
              refine v_i2l (pc := 99) (by unfold iB; omega) dX12_raises_99 ?_
              refine v_lmul (pc := 100) dX12_raises_100 ?_
              refine v_put (pc := 101) 17 0 rfl fl_12_222_12 ck_12 ft_12_17 (okV_l _) (Nat.le_of_ble_eq_true rfl) (ws2 := [(h, co 12 (mO ad (nup (nup v2_20 16 ((10 * (v2_20 16)) + 0)) 17 ((v2_20 17) * (fBest f one (n + j)))))), ((ad 9), cn 0 6 by2_21), ((ad 10), cn 1 64 tr2_22)]) rfl dX12_raises_101 ?_
              refine v_iinc (pc := 104) 6 (L2 := [(5, ai (j + 1)), (6, ai (fBest f one (n + j))), (0, ar h), (1, ai one), (2, ai other), (3, ai n), (4, ai tries)]) rfl rfl (by decide) dX12_raises_104 ?_
              refine v_goto (pc := 107) 13 dX12_raises_107 (by decide) ?_
              refine v_sub (L2 := [(0, ar h), (1, ai one), (2, ai other), (3, ai n), (4, ai tries), (5, ai (j + 1))]) [2, 3, 4, 5, 6, 0] rfl ?_
              exact ih _ (by omega) (j + 1) (nup (nup v2_20 16 ((10 * (v2_20 16)) + 0)) 17 ((v2_20 17) * (fBest f one (n + j)))) by2_21 tr2_22 rfl (by omega) (by exact ⟨hkeep.1.trans h3.1, hkeep.2.2.2.trans h3.2⟩) (by first | (exfalso; omega) | skip; rw [hrs]; show _ = 10 * _ + _; rw [nup_n _ _ (by decide), nup_s, hkeep.2.1, h16]; (first | rw [if_pos (by omega)] | rw [if_neg (by omega)]); (first | rw [hkeep.2.2.1, h17, ← hbo] | skip)) (by rw [hrs]; show _ = _ * _; rw [nup_s, hkeep.2.2.1, h17, ← hbo])
            · skip
              refine v_aload_n (pc := 73) 1 rfl dX12_raises_73 ?_
              refine v_get (pc := 74) (v := al (v2_20 17)) 17 (Or.inr ⟨0, rfl⟩) fl_12_222_12 rfl dX12_raises_74 ?_
              refine v_bipush (pc := 77) dX12_raises_77 (by decide) ?_
              refine v_iload (pc := 79) 0 rfl dX12_raises_79 ?_
              refine v_isub (pc := 81) dX12_raises_81 ?_
              refine v_i2l (pc := 82) (by unfold iB; omega) dX12_raises_82 ?_
              refine v_lmul (pc := 83) dX12_raises_83 ?_
              refine v_goto (pc := 84) 88 dX12_raises_84 (by decide) ?_
              refine v_ladd (pc := 88) dX12_raises_88 ?_
              refine v_put (pc := 89) 16 0 rfl fl_12_218_12 ck_12 ft_12_16 (okV_l _) (Nat.le_of_ble_eq_true rfl) (ws2 := [(h, co 12 (mO ad (nup v2_20 16 ((10 * (v2_20 16)) + ((v2_20 17) * (10 - (fBest f one (n + j)))))))), ((ad 9), cn 0 6 by2_21), ((ad 10), cn 1 64 tr2_22)]) rfl dX12_raises_89 ?_
              refine v_aload_n (pc := 92) 1 rfl dX12_raises_92 ?_
              refine v_dup (pc := 93) rfl dX12_raises_93 ?_
              refine v_get (pc := 94) (v := al (v2_20 17)) 17 (Or.inr ⟨0, rfl⟩) fl_12_222_12 rfl dX12_raises_94 ?_
              refine v_iload (pc := 97) 0 rfl dX12_raises_97 ?_
              refine v_i2l (pc := 99) (by unfold iB; omega) dX12_raises_99 ?_
              refine v_lmul (pc := 100) dX12_raises_100 ?_
              refine v_put (pc := 101) 17 0 rfl fl_12_222_12 ck_12 ft_12_17 (okV_l _) (Nat.le_of_ble_eq_true rfl) (ws2 := [(h, co 12 (mO ad (nup (nup v2_20 16 ((10 * (v2_20 16)) + ((v2_20 17) * (10 - (fBest f one (n + j)))))) 17 ((v2_20 17) * (fBest f one (n + j)))))), ((ad 9), cn 0 6 by2_21), ((ad 10), cn 1 64 tr2_22)]) rfl dX12_raises_101 ?_
              refine v_iinc (pc := 104) 6 (L2 := [(5, ai (j + 1)), (6, ai (fBest f one (n + j))), (0, ar h), (1, ai one), (2, ai other), (3, ai n), (4, ai tries)]) rfl rfl (by decide) dX12_raises_104 ?_
              refine v_goto (pc := 107) 13 dX12_raises_107 (by decide) ?_
              refine v_sub (L2 := [(0, ar h), (1, ai one), (2, ai other), (3, ai n), (4, ai tries), (5, ai (j + 1))]) [2, 3, 4, 5, 6, 0] rfl ?_
              exact ih _ (by omega) (j + 1) (nup (nup v2_20 16 ((10 * (v2_20 16)) + ((v2_20 17) * (10 - (fBest f one (n + j)))))) 17 ((v2_20 17) * (fBest f one (n + j)))) by2_21 tr2_22 rfl (by omega) (by exact ⟨hkeep.1.trans h3.1, hkeep.2.2.2.trans h3.2⟩) (by first | (exfalso; omega) | skip; rw [hrs]; show _ = 10 * _ + _; rw [nup_n _ _ (by decide), nup_s, hkeep.2.1, h16]; (first | rw [if_pos (by omega)] | rw [if_neg (by omega)]); (first | rw [hkeep.2.2.1, h17, ← hbo] | skip)) (by rw [hrs]; show _ = _ * _; rw [nup_s, hkeep.2.2.1, h17, ← hbo])
  refine v_sub (L2 := [(0, ar h), (1, ai one), (2, ai other), (3, ai n), (4, ai tries), (5, ai 0)]) [1, 2, 3, 4, 5, 0] rfl ?_
  exact lp13 _ 0 (nup (nup v 16 0) 17 1) by0 tr0 rfl (by omega) (by exact ⟨rfl, rfl⟩) (by rfl) (by rfl)
set_option maxHeartbeats 4000000 in
set_option maxRecDepth 100000 in
theorem c_X12_raise {gS : sG} (ad : Nat → Nat) (v : Nat → Int) (h : Nat) (f : Int → Int) (by0 : Int → Int) (tr0 : Int → Int) (one : Int) (other : Int) (n : Int) (tries : Int) (what : Int) (part : Int) (hS : SOK f) (hb_one : -2147483648 ≤ one ∧ one < 2147483648) (hb_other : -2147483648 ≤ other ∧ other < 2147483648) (hb_n : -2147483648 ≤ n ∧ n < 2147483648) (hb_tries : -2147483648 ≤ tries ∧ tries < 2147483648) (hb_what : -2147483648 ≤ what ∧ what < 2147483648) (hb_part : -2147483648 ≤ part ∧ part < 2147483648) : Ct gS (S := (Nat → Int) × (Int → Int) × (Int → Int)) yX12_raise cX12_raise 7 (some .long) 5 128 0 0 [ar h, ai one, ai other, ai n, ai tries, ai what, ai part] [(h, co 12 (mO ad v)), ((ad 9), cn 0 6 by0), ((ad 10), cn 1 64 tr0)] (fun q => q ∈ ([((ad 1), cn 0 936 f)] : aW)) (fun u => u.1 3 = v 3 ∧ u.1 21 = v 21) (fun u => some (al (qRaise f one other n tries what part))) (fun u => [(h, co 12 (mO ad u.1)), ((ad 9), cn 0 6 u.2.1), ((ad 10), cn 1 64 u.2.2)]) := by
  refine ct_L RX12 [(0, ar h), (1, ai one), (2, ai other), (3, ai n), (4, ai tries), (5, ai what), (6, ai part)] (by decide) rfl (Nat.le_of_ble_eq_true rfl) rfl (fun x hgS hro hret => ?_)
  subst hgS
  have r0 := hro _ (mem_at 0 rfl)
  obtain ⟨hg, hSp, hSh, hSs, hSb, hSt, hwf⟩ := id hS
  obtain ⟨hg0, hg1, hg2, hg3, hg4, hg5, hg6, hg7⟩ := id hg
  show V x cX12_raise RX12 7 (rmU 5 128 0 0) [(h, co 12 (mO ad v)), ((ad 9), cn 0 6 by0), ((ad 10), cn 1 64 tr0)] 0 [(0, ar h), (1, ai one), (2, ai other), (3, ai n), (4, ai tries), (5, ai what), (6, ai part)] [] 0 0
  refine v_aload_n (pc := 0) 0 rfl dX12_raise_0 ?_
  refine v_iload_n (pc := 1) 1 rfl dX12_raise_1 ?_
  refine v_callV (pc := 2) [] [0, 1, 2] [(h, co 12 (mO ad v)), ((ad 9), cn 0 6 by0), ((ad 10), cn 1 64 tr0)] (As := [ai one]) (rest := []) (c_X12_isPlayer ad v h f one (by first | assumption | omega) (by first | assumption | omega)) (c := 12) rfl (Or.inr ⟨0, rfl⟩) wl_X12_136 wi_X12_isPlayer wv_X12_X12_isPlayer_X12_isPlayer wk_X12_isPlayer wz_X12 md_X12_isPlayer rfl (Nat.le_of_ble_eq_true rfl) ⟨Nat.le_of_ble_eq_true rfl, Nat.le_of_ble_eq_true rfl, Nat.le_of_ble_eq_true rfl, Nat.le_of_ble_eq_true rfl⟩ rfl rfl rfl rfl (by decide) (ro_cons (Or.inr ⟨0, rfl, by decide⟩) (ro_cons (Or.inl r0) ro_nil)) dX12_raise_2 (fun u hu => ?_)
  show V x cX12_raise RX12 7 (rmU 5 128 0 0) [(h, co 12 (mO ad v)), ((ad 9), cn 0 6 by0), ((ad 10), cn 1 64 tr0)] 5 [(0, ar h), (1, ai one), (2, ai other), (3, ai n), (4, ai tries), (5, ai what), (6, ai part)] [ai (if 0 ≤ one ∧ one ≤ (f 0) - 1 then 1 else 0)] 0 0
  refine v_ifb_eq (pc := 5) 62 dX12_raise_5 (by decide) (fun c_1 => ?_) (fun c_1 => ?_)
  · skip
    refine v_ldc2 (pc := 62) (z := (-9223372036854775808)) (bw_mem 1281 (by decide +kernel) rfl) dX12_raise_62 ?_
    exact hret (v, by0, tr0) _ _ _ _ _ _ (by exact ⟨rfl, rfl⟩) (congrArg (fun z => some (al z)) (by unfold qRaise; (repeat' split) <;> first | rfl | (exfalso; omega) | (rw [h16]) | (rw [h17]))) rfl (Nat.le_of_ble_eq_true rfl) (Nat.le_of_ble_eq_true rfl) dX12_raise_65
  · skip
    refine v_aload_n (pc := 8) 0 rfl dX12_raise_8 ?_
    refine v_iload_n (pc := 9) 2 rfl dX12_raise_9 ?_
    refine v_callV (pc := 10) [] [0, 1, 2] [(h, co 12 (mO ad v)), ((ad 9), cn 0 6 by0), ((ad 10), cn 1 64 tr0)] (As := [ai other]) (rest := []) (c_X12_isPlayer ad v h f other (by first | assumption | omega) (by first | assumption | omega)) (c := 12) rfl (Or.inr ⟨0, rfl⟩) wl_X12_136 wi_X12_isPlayer wv_X12_X12_isPlayer_X12_isPlayer wk_X12_isPlayer wz_X12 md_X12_isPlayer rfl (Nat.le_of_ble_eq_true rfl) ⟨Nat.le_of_ble_eq_true rfl, Nat.le_of_ble_eq_true rfl, Nat.le_of_ble_eq_true rfl, Nat.le_of_ble_eq_true rfl⟩ rfl rfl rfl rfl (by decide) (ro_cons (Or.inr ⟨0, rfl, by decide⟩) (ro_cons (Or.inl r0) ro_nil)) dX12_raise_10 (fun u hu => ?_)
    show V x cX12_raise RX12 7 (rmU 5 128 0 0) [(h, co 12 (mO ad v)), ((ad 9), cn 0 6 by0), ((ad 10), cn 1 64 tr0)] 13 [(0, ar h), (1, ai one), (2, ai other), (3, ai n), (4, ai tries), (5, ai what), (6, ai part)] [ai (if 0 ≤ other ∧ other ≤ (f 0) - 1 then 1 else 0)] 0 0
    refine v_ifb_eq (pc := 13) 62 dX12_raise_13 (by decide) (fun c_2 => ?_) (fun c_2 => ?_)
    · skip
      refine v_ldc2 (pc := 62) (z := (-9223372036854775808)) (bw_mem 1281 (by decide +kernel) rfl) dX12_raise_62 ?_
      exact hret (v, by0, tr0) _ _ _ _ _ _ (by exact ⟨rfl, rfl⟩) (congrArg (fun z => some (al z)) (by unfold qRaise; (repeat' split) <;> first | rfl | (exfalso; omega) | (rw [h16]) | (rw [h17]))) rfl (Nat.le_of_ble_eq_true rfl) (Nat.le_of_ble_eq_true rfl) dX12_raise_65
    · skip
      refine v_iload_n (pc := 16) 1 rfl dX12_raise_16 ?_
      refine v_iload_n (pc := 17) 2 rfl dX12_raise_17 ?_
      refine v_icmp_eq (pc := 18) 62 dX12_raise_18 (by decide) (by unfold iB; omega) (by unfold iB; omega) (fun c_3 => ?_) (fun c_3 => ?_)
      · skip
        refine v_ldc2 (pc := 62) (z := (-9223372036854775808)) (bw_mem 1281 (by decide +kernel) rfl) dX12_raise_62 ?_
        exact hret (v, by0, tr0) _ _ _ _ _ _ (by exact ⟨rfl, rfl⟩) (congrArg (fun z => some (al z)) (by unfold qRaise; (repeat' split) <;> first | rfl | (exfalso; omega) | (rw [h16]) | (rw [h17]))) rfl (Nat.le_of_ble_eq_true rfl) (Nat.le_of_ble_eq_true rfl) dX12_raise_65
      · skip
        refine v_iload_n (pc := 21) 3 rfl dX12_raise_21 ?_
        refine v_iconst (pc := 22) dX12_raise_22 ?_
        refine v_bipush (pc := 23) dX12_raise_23 (by decide) ?_
        refine v_callS (pc := 25) [] [0, 1, 2] [(h, co 12 (mO ad v)), ((ad 9), cn 0 6 by0), ((ad 10), cn 1 64 tr0)] (As := [ai n, ai 1, ai 99]) (rest := []) (c_X12_in n 1 99 (by first | assumption | omega) (by first | assumption | omega) (by first | assumption | omega)) wl_X12_41 ws_X12_in wk_X12_in wz_X12 md_X12_in rfl (Nat.le_of_ble_eq_true rfl) ⟨Nat.le_of_ble_eq_true rfl, Nat.le_of_ble_eq_true rfl, Nat.le_of_ble_eq_true rfl, Nat.le_of_ble_eq_true rfl⟩ rfl rfl rfl rfl (by decide) ro_nil dX12_raise_25 (fun u hu => ?_)
        show V x cX12_raise RX12 7 (rmU 5 128 0 0) [(h, co 12 (mO ad v)), ((ad 9), cn 0 6 by0), ((ad 10), cn 1 64 tr0)] 28 [(0, ar h), (1, ai one), (2, ai other), (3, ai n), (4, ai tries), (5, ai what), (6, ai part)] [ai (if 1 ≤ n ∧ n ≤ 99 then 1 else 0)] 0 0
        refine v_ifb_eq (pc := 28) 62 dX12_raise_28 (by decide) (fun c_4 => ?_) (fun c_4 => ?_)
        · skip
          refine v_ldc2 (pc := 62) (z := (-9223372036854775808)) (bw_mem 1281 (by decide +kernel) rfl) dX12_raise_62 ?_
          exact hret (v, by0, tr0) _ _ _ _ _ _ (by exact ⟨rfl, rfl⟩) (congrArg (fun z => some (al z)) (by unfold qRaise; (repeat' split) <;> first | rfl | (exfalso; omega) | (rw [h16]) | (rw [h17]))) rfl (Nat.le_of_ble_eq_true rfl) (Nat.le_of_ble_eq_true rfl) dX12_raise_65
        · skip
          refine v_iload (pc := 31) 4 rfl dX12_raise_31 ?_
          refine v_iconst (pc := 33) dX12_raise_33 ?_
          refine v_bipush (pc := 34) dX12_raise_34 (by decide) ?_
          refine v_callS (pc := 36) [] [0, 1, 2] [(h, co 12 (mO ad v)), ((ad 9), cn 0 6 by0), ((ad 10), cn 1 64 tr0)] (As := [ai tries, ai 1, ai 8]) (rest := []) (c_X12_in tries 1 8 (by first | assumption | omega) (by first | assumption | omega) (by first | assumption | omega)) wl_X12_41 ws_X12_in wk_X12_in wz_X12 md_X12_in rfl (Nat.le_of_ble_eq_true rfl) ⟨Nat.le_of_ble_eq_true rfl, Nat.le_of_ble_eq_true rfl, Nat.le_of_ble_eq_true rfl, Nat.le_of_ble_eq_true rfl⟩ rfl rfl rfl rfl (by decide) ro_nil dX12_raise_36 (fun u hu => ?_)
          show V x cX12_raise RX12 7 (rmU 5 128 0 0) [(h, co 12 (mO ad v)), ((ad 9), cn 0 6 by0), ((ad 10), cn 1 64 tr0)] 39 [(0, ar h), (1, ai one), (2, ai other), (3, ai n), (4, ai tries), (5, ai what), (6, ai part)] [ai (if 1 ≤ tries ∧ tries ≤ 8 then 1 else 0)] 0 0
          refine v_ifb_eq (pc := 39) 62 dX12_raise_39 (by decide) (fun c_5 => ?_) (fun c_5 => ?_)
          · skip
            refine v_ldc2 (pc := 62) (z := (-9223372036854775808)) (bw_mem 1281 (by decide +kernel) rfl) dX12_raise_62 ?_
            exact hret (v, by0, tr0) _ _ _ _ _ _ (by exact ⟨rfl, rfl⟩) (congrArg (fun z => some (al z)) (by unfold qRaise; (repeat' split) <;> first | rfl | (exfalso; omega) | (rw [h16]) | (rw [h17]))) rfl (Nat.le_of_ble_eq_true rfl) (Nat.le_of_ble_eq_true rfl) dX12_raise_65
          · skip
            refine v_iload (pc := 42) 5 rfl dX12_raise_42 ?_
            refine v_iconst (pc := 44) dX12_raise_44 ?_
            refine v_iconst (pc := 45) dX12_raise_45 ?_
            refine v_callS (pc := 46) [] [0, 1, 2] [(h, co 12 (mO ad v)), ((ad 9), cn 0 6 by0), ((ad 10), cn 1 64 tr0)] (As := [ai what, ai 0, ai 1]) (rest := []) (c_X12_in what 0 1 (by first | assumption | omega) (by first | assumption | omega) (by first | assumption | omega)) wl_X12_41 ws_X12_in wk_X12_in wz_X12 md_X12_in rfl (Nat.le_of_ble_eq_true rfl) ⟨Nat.le_of_ble_eq_true rfl, Nat.le_of_ble_eq_true rfl, Nat.le_of_ble_eq_true rfl, Nat.le_of_ble_eq_true rfl⟩ rfl rfl rfl rfl (by decide) ro_nil dX12_raise_46 (fun u hu => ?_)
            show V x cX12_raise RX12 7 (rmU 5 128 0 0) [(h, co 12 (mO ad v)), ((ad 9), cn 0 6 by0), ((ad 10), cn 1 64 tr0)] 49 [(0, ar h), (1, ai one), (2, ai other), (3, ai n), (4, ai tries), (5, ai what), (6, ai part)] [ai (if 0 ≤ what ∧ what ≤ 1 then 1 else 0)] 0 0
            refine v_ifb_eq (pc := 49) 62 dX12_raise_49 (by decide) (fun c_6 => ?_) (fun c_6 => ?_)
            · skip
              refine v_ldc2 (pc := 62) (z := (-9223372036854775808)) (bw_mem 1281 (by decide +kernel) rfl) dX12_raise_62 ?_
              exact hret (v, by0, tr0) _ _ _ _ _ _ (by exact ⟨rfl, rfl⟩) (congrArg (fun z => some (al z)) (by unfold qRaise; (repeat' split) <;> first | rfl | (exfalso; omega) | (rw [h16]) | (rw [h17]))) rfl (Nat.le_of_ble_eq_true rfl) (Nat.le_of_ble_eq_true rfl) dX12_raise_65
            · skip
              refine v_iload (pc := 52) 6 rfl dX12_raise_52 ?_
              refine v_iconst (pc := 54) dX12_raise_54 ?_
              refine v_iconst (pc := 55) dX12_raise_55 ?_
              refine v_callS (pc := 56) [] [0, 1, 2] [(h, co 12 (mO ad v)), ((ad 9), cn 0 6 by0), ((ad 10), cn 1 64 tr0)] (As := [ai part, ai 0, ai 1]) (rest := []) (c_X12_in part 0 1 (by first | assumption | omega) (by first | assumption | omega) (by first | assumption | omega)) wl_X12_41 ws_X12_in wk_X12_in wz_X12 md_X12_in rfl (Nat.le_of_ble_eq_true rfl) ⟨Nat.le_of_ble_eq_true rfl, Nat.le_of_ble_eq_true rfl, Nat.le_of_ble_eq_true rfl, Nat.le_of_ble_eq_true rfl⟩ rfl rfl rfl rfl (by decide) ro_nil dX12_raise_56 (fun u hu => ?_)
              show V x cX12_raise RX12 7 (rmU 5 128 0 0) [(h, co 12 (mO ad v)), ((ad 9), cn 0 6 by0), ((ad 10), cn 1 64 tr0)] 59 [(0, ar h), (1, ai one), (2, ai other), (3, ai n), (4, ai tries), (5, ai what), (6, ai part)] [ai (if 0 ≤ part ∧ part ≤ 1 then 1 else 0)] 0 0
              refine v_ifb_ne (pc := 59) 66 dX12_raise_59 (by decide) (fun c_7 => ?_) (fun c_7 => ?_)
              · skip
                have hpw := pow_10 tries.toNat (by omega)
                have hrb := rs_b (G := rsG f one other n) (fun _ => fBest_b) tries.toNat
                refine v_aload_n (pc := 66) 0 rfl dX12_raise_66 ?_
                refine v_iload_n (pc := 67) 1 rfl dX12_raise_67 ?_
                refine v_iload_n (pc := 68) 2 rfl dX12_raise_68 ?_
                refine v_iload_n (pc := 69) 3 rfl dX12_raise_69 ?_
                refine v_iload (pc := 70) 4 rfl dX12_raise_70 ?_
                refine v_callV (pc := 72) [0, 1, 2] [] [] (As := [ai one, ai other, ai n, ai tries]) (rest := []) (c_X12_raises ad v h f by0 tr0 one other n tries (by first | assumption | omega) (by first | assumption | omega) (by first | assumption | omega) (by first | assumption | omega) (by first | assumption | omega)) (c := 12) rfl (Or.inr ⟨0, rfl⟩) wl_X12_225 wi_X12_raises wv_X12_X12_raises_X12_raises wk_X12_raises wz_X12 md_X12_raises rfl (Nat.le_of_ble_eq_true rfl) ⟨Nat.le_of_ble_eq_true rfl, Nat.le_of_ble_eq_true rfl, Nat.le_of_ble_eq_true rfl, Nat.le_of_ble_eq_true rfl⟩ rfl rfl rfl rfl (by decide) (ro_cons (Or.inl r0) ro_nil) dX12_raise_72 (fun u hu => ?_)
                obtain ⟨v2_8, by2_9, tr2_10⟩ := u
                have g_11 : (v2_8 3 = v 3 ∧ v2_8 21 = v 21) ∧ v2_8 16 = (rs (rsG f one other n) tries.toNat).1 ∧ v2_8 17 = (rs (rsG f one other n) tries.toNat).2 := hu
                show V x cX12_raise RX12 7 (rmU 5 128 0 0) [(h, co 12 (mO ad v2_8)), ((ad 9), cn 0 6 by2_9), ((ad 10), cn 1 64 tr2_10)] 75 [(0, ar h), (1, ai one), (2, ai other), (3, ai n), (4, ai tries), (5, ai what), (6, ai part)] [] 0 0
                have hkeep := g_11.1
                have h16 := g_11.2.1
                have h17 := g_11.2.2
                refine v_iload (pc := 75) 5 rfl dX12_raise_75 ?_
                refine v_if_ne (pc := 77) 87 dX12_raise_77 (by decide) (by unfold iB; omega) (fun c_12 => ?_) (fun c_12 => ?_)
                · skip
                  refine v_aload_n (pc := 87) 0 rfl dX12_raise_87 ?_
                  refine v_get (pc := 88) (v := al (v2_8 17)) 17 (Or.inr ⟨0, rfl⟩) fl_12_222_12 rfl dX12_raise_88 ?_
                  refine v_bipush (pc := 91) dX12_raise_91 (by decide) ?_
                  refine v_iload (pc := 93) 4 rfl dX12_raise_93 ?_
                  refine v_callS (pc := 95) [] [0, 1, 2] [(h, co 12 (mO ad v2_8)), ((ad 9), cn 0 6 by2_9), ((ad 10), cn 1 64 tr2_10)] (As := [ai 10, ai tries]) (rest := [al (v2_8 17)]) (c_X12_power 10 tries (by first | assumption | omega) (by first | assumption | omega)) wl_X12_209 ws_X12_power wk_X12_power wz_X12 md_X12_power rfl (Nat.le_of_ble_eq_true rfl) ⟨Nat.le_of_ble_eq_true rfl, Nat.le_of_ble_eq_true rfl, Nat.le_of_ble_eq_true rfl, Nat.le_of_ble_eq_true rfl⟩ rfl rfl rfl rfl (by decide) ro_nil dX12_raise_95 (fun u hu => ?_)
                  show V x cX12_raise RX12 7 (rmU 5 128 0 0) [(h, co 12 (mO ad v2_8)), ((ad 9), cn 0 6 by2_9), ((ad 10), cn 1 64 tr2_10)] 98 [(0, ar h), (1, ai one), (2, ai other), (3, ai n), (4, ai tries), (5, ai what), (6, ai part)] [al (10 ^ tries.toNat), al (v2_8 17)] 0 0
                  refine v_iload (pc := 98) 6 rfl dX12_raise_98 ?_
                  refine v_callS (pc := 100) [] [0, 1, 2] [(h, co 12 (mO ad v2_8)), ((ad 9), cn 0 6 by2_9), ((ad 10), cn 1 64 tr2_10)] (As := [al (v2_8 17), al (10 ^ tries.toNat), ai part]) (rest := []) (c_X12_lowest (v2_8 17) (10 ^ tries.toNat) part (by first | assumption | omega) (by first | assumption | omega) (by first | assumption | omega)) wl_X12_180 ws_X12_lowest wk_X12_lowest wz_X12 md_X12_lowest rfl (Nat.le_of_ble_eq_true rfl) ⟨Nat.le_of_ble_eq_true rfl, Nat.le_of_ble_eq_true rfl, Nat.le_of_ble_eq_true rfl, Nat.le_of_ble_eq_true rfl⟩ rfl rfl rfl rfl (by decide) ro_nil dX12_raise_100 (fun u hu => ?_)
                  show V x cX12_raise RX12 7 (rmU 5 128 0 0) [(h, co 12 (mO ad v2_8)), ((ad 9), cn 0 6 by2_9), ((ad 10), cn 1 64 tr2_10)] 103 [(0, ar h), (1, ai one), (2, ai other), (3, ai n), (4, ai tries), (5, ai what), (6, ai part)] [al (kFr (v2_8 17) (10 ^ tries.toNat) part)] 0 0
                  exact hret (v2_8, by2_9, tr2_10) _ _ _ _ _ _ (by exact hkeep) (congrArg (fun z => some (al z)) (by unfold qRaise; (repeat' split) <;> first | rfl | (exfalso; omega) | (rw [h16]) | (rw [h17]))) rfl (Nat.le_of_ble_eq_true rfl) (Nat.le_of_ble_eq_true rfl) dX12_raise_103
                · skip
                  refine v_aload_n (pc := 80) 0 rfl dX12_raise_80 ?_
                  refine v_get (pc := 81) (v := al (v2_8 16)) 16 (Or.inr ⟨0, rfl⟩) fl_12_218_12 rfl dX12_raise_81 ?_
                  refine v_goto (pc := 84) 91 dX12_raise_84 (by decide) ?_
                  refine v_bipush (pc := 91) dX12_raise_91 (by decide) ?_
                  refine v_iload (pc := 93) 4 rfl dX12_raise_93 ?_
                  refine v_callS (pc := 95) [] [0, 1, 2] [(h, co 12 (mO ad v2_8)), ((ad 9), cn 0 6 by2_9), ((ad 10), cn 1 64 tr2_10)] (As := [ai 10, ai tries]) (rest := [al (v2_8 16)]) (c_X12_power 10 tries (by first | assumption | omega) (by first | assumption | omega)) wl_X12_209 ws_X12_power wk_X12_power wz_X12 md_X12_power rfl (Nat.le_of_ble_eq_true rfl) ⟨Nat.le_of_ble_eq_true rfl, Nat.le_of_ble_eq_true rfl, Nat.le_of_ble_eq_true rfl, Nat.le_of_ble_eq_true rfl⟩ rfl rfl rfl rfl (by decide) ro_nil dX12_raise_95 (fun u hu => ?_)
                  show V x cX12_raise RX12 7 (rmU 5 128 0 0) [(h, co 12 (mO ad v2_8)), ((ad 9), cn 0 6 by2_9), ((ad 10), cn 1 64 tr2_10)] 98 [(0, ar h), (1, ai one), (2, ai other), (3, ai n), (4, ai tries), (5, ai what), (6, ai part)] [al (10 ^ tries.toNat), al (v2_8 16)] 0 0
                  refine v_iload (pc := 98) 6 rfl dX12_raise_98 ?_
                  refine v_callS (pc := 100) [] [0, 1, 2] [(h, co 12 (mO ad v2_8)), ((ad 9), cn 0 6 by2_9), ((ad 10), cn 1 64 tr2_10)] (As := [al (v2_8 16), al (10 ^ tries.toNat), ai part]) (rest := []) (c_X12_lowest (v2_8 16) (10 ^ tries.toNat) part (by first | assumption | omega) (by first | assumption | omega) (by first | assumption | omega)) wl_X12_180 ws_X12_lowest wk_X12_lowest wz_X12 md_X12_lowest rfl (Nat.le_of_ble_eq_true rfl) ⟨Nat.le_of_ble_eq_true rfl, Nat.le_of_ble_eq_true rfl, Nat.le_of_ble_eq_true rfl, Nat.le_of_ble_eq_true rfl⟩ rfl rfl rfl rfl (by decide) ro_nil dX12_raise_100 (fun u hu => ?_)
                  show V x cX12_raise RX12 7 (rmU 5 128 0 0) [(h, co 12 (mO ad v2_8)), ((ad 9), cn 0 6 by2_9), ((ad 10), cn 1 64 tr2_10)] 103 [(0, ar h), (1, ai one), (2, ai other), (3, ai n), (4, ai tries), (5, ai what), (6, ai part)] [al (kFr (v2_8 16) (10 ^ tries.toNat) part)] 0 0
                  exact hret (v2_8, by2_9, tr2_10) _ _ _ _ _ _ (by exact hkeep) (congrArg (fun z => some (al z)) (by unfold qRaise; (repeat' split) <;> first | rfl | (exfalso; omega) | (rw [h16]) | (rw [h17]))) rfl (Nat.le_of_ble_eq_true rfl) (Nat.le_of_ble_eq_true rfl) dX12_raise_103
              · skip
                refine v_ldc2 (pc := 62) (z := (-9223372036854775808)) (bw_mem 1281 (by decide +kernel) rfl) dX12_raise_62 ?_
                exact hret (v, by0, tr0) _ _ _ _ _ _ (by exact ⟨rfl, rfl⟩) (congrArg (fun z => some (al z)) (by unfold qRaise; (repeat' split) <;> first | rfl | (exfalso; omega) | (rw [h16]) | (rw [h17]))) rfl (Nat.le_of_ble_eq_true rfl) (Nat.le_of_ble_eq_true rfl) dX12_raise_65
set_option maxHeartbeats 4000000 in
set_option maxRecDepth 100000 in
theorem c_X12_stuck {gS : sG} (ad : Nat → Nat) (v : Nat → Int) (h : Nat) (f : Int → Int) (by0 : Int → Int) (tr0 : Int → Int) (player : Int) (n : Int) (hS : SOK f) (hb_player : -2147483648 ≤ player ∧ player < 2147483648) (hb_n : -2147483648 ≤ n ∧ n < 2147483648) : Ct gS (S := (Nat → Int) × (Int → Int) × (Int → Int)) yX12_stuck cX12_stuck 4 (some .int) 3 76 0 0 [ar h, ai player, ai n] [(h, co 12 (mO ad v)), ((ad 9), cn 0 6 by0), ((ad 10), cn 1 64 tr0)] (fun q => q ∈ ([((ad 1), cn 0 936 f)] : aW)) (fun u => vK v u.1) (fun u => some (ai (qStuck f player n))) (fun u => [(h, co 12 (mO ad u.1)), ((ad 9), cn 0 6 u.2.1), ((ad 10), cn 1 64 u.2.2)]) := by
  refine ct_I RX12 [(0, ar h), (1, ai player), (2, ai n)] (by decide) rfl (Nat.le_of_ble_eq_true rfl) rfl (fun x hgS hro hret => ?_)
  subst hgS
  have r0 := hro _ (mem_at 0 rfl)
  obtain ⟨hg, hSp, hSh, hSs, hSb, hSt, hwf⟩ := id hS
  obtain ⟨hg0, hg1, hg2, hg3, hg4, hg5, hg6, hg7⟩ := id hg
  show V x cX12_stuck RX12 4 (rmU 3 76 0 0) [(h, co 12 (mO ad v)), ((ad 9), cn 0 6 by0), ((ad 10), cn 1 64 tr0)] 0 [(0, ar h), (1, ai player), (2, ai n)] [] 0 0
  refine v_aload_n (pc := 0) 0 rfl dX12_stuck_0 ?_
  refine v_iload_n (pc := 1) 1 rfl dX12_stuck_1 ?_
  refine v_callV (pc := 2) [] [0, 1, 2] [(h, co 12 (mO ad v)), ((ad 9), cn 0 6 by0), ((ad 10), cn 1 64 tr0)] (As := [ai player]) (rest := []) (c_X12_isPlayer ad v h f player (by first | assumption | omega) (by first | assumption | omega)) (c := 12) rfl (Or.inr ⟨0, rfl⟩) wl_X12_136 wi_X12_isPlayer wv_X12_X12_isPlayer_X12_isPlayer wk_X12_isPlayer wz_X12 md_X12_isPlayer rfl (Nat.le_of_ble_eq_true rfl) ⟨Nat.le_of_ble_eq_true rfl, Nat.le_of_ble_eq_true rfl, Nat.le_of_ble_eq_true rfl, Nat.le_of_ble_eq_true rfl⟩ rfl rfl rfl rfl (by decide) (ro_cons (Or.inr ⟨0, rfl, by decide⟩) (ro_cons (Or.inl r0) ro_nil)) dX12_stuck_2 (fun u hu => ?_)
  show V x cX12_stuck RX12 4 (rmU 3 76 0 0) [(h, co 12 (mO ad v)), ((ad 9), cn 0 6 by0), ((ad 10), cn 1 64 tr0)] 5 [(0, ar h), (1, ai player), (2, ai n)] [ai (if 0 ≤ player ∧ player ≤ (f 0) - 1 then 1 else 0)] 0 0
  refine v_ifb_ne (pc := 5) 10 dX12_stuck_5 (by decide) (fun c_1 => ?_) (fun c_1 => ?_)
  · skip
    have hf := hSp player (by omega) (by omega)
    obtain ⟨hp, hf1, hf2, hf3, hf4, hf5, hf6, hf7, hf8⟩ := id hf
    refine v_iload_n (pc := 10) 2 rfl dX12_stuck_10 ?_
    refine v_iconst (pc := 11) dX12_stuck_11 ?_
    refine v_bipush (pc := 12) dX12_stuck_12 (by decide) ?_
    refine v_callS (pc := 14) [] [0, 1, 2] [(h, co 12 (mO ad v)), ((ad 9), cn 0 6 by0), ((ad 10), cn 1 64 tr0)] (As := [ai n, ai 1, ai 99]) (rest := []) (c_X12_in n 1 99 (by first | assumption | omega) (by first | assumption | omega) (by first | assumption | omega)) wl_X12_41 ws_X12_in wk_X12_in wz_X12 md_X12_in rfl (Nat.le_of_ble_eq_true rfl) ⟨Nat.le_of_ble_eq_true rfl, Nat.le_of_ble_eq_true rfl, Nat.le_of_ble_eq_true rfl, Nat.le_of_ble_eq_true rfl⟩ rfl rfl rfl rfl (by decide) ro_nil dX12_stuck_14 (fun u hu => ?_)
    show V x cX12_stuck RX12 4 (rmU 3 76 0 0) [(h, co 12 (mO ad v)), ((ad 9), cn 0 6 by0), ((ad 10), cn 1 64 tr0)] 17 [(0, ar h), (1, ai player), (2, ai n)] [ai (if 1 ≤ n ∧ n ≤ 99 then 1 else 0)] 0 0
    refine v_ifb_ne (pc := 17) 23 dX12_stuck_17 (by decide) (fun c_2 => ?_) (fun c_2 => ?_)
    · skip
      refine v_iconst (pc := 23) dX12_stuck_23 ?_
      refine v_istore_n (pc := 24) (L2 := [(3, ai 0), (0, ar h), (1, ai player), (2, ai n)]) rfl (by decide) dX12_stuck_24 ?_
      have lp25 : ∀ (mm : Nat) (m : Int) (v1 : Nat → Int) (by1 : Int → Int) (tr1 : Int → Int), (100 - m).toNat = mm → (0 ≤ m ∧ m ≤ 100) → (m = 0 ∨ 10 * f (25 + player) + m ≤ n + kSl f player n - kGl f player n) → (vK v v1) → V x cX12_stuck RX12 4 (rmU 3 76 0 0) [(h, co 12 (mO ad v1)), ((ad 9), cn 0 6 by1), ((ad 10), cn 1 64 tr1)] 25 [(0, ar h), (1, ai player), (2, ai n), (3, ai m)] [] 0 0 := by
        intro mm
        induction mm using Nat.strongRecOn with
        | _ mm ih =>
          intro m v1 by1 tr1 hmm hm hx hvk
          have hk0 := kOp_c f player n 0
          refine v_iload_n (pc := 25) 3 rfl dX12_stuck_25 ?_
          refine v_bipush (pc := 26) dX12_stuck_26 (by decide) ?_
          refine v_icmp_ge (pc := 28) 61 dX12_stuck_28 (by decide) (by unfold iB; omega) (by unfold iB; omega) (fun c_3 => ?_) (fun c_3 => ?_)
          · skip
            refine v_bipush (pc := 61) dX12_stuck_61 (by decide) ?_
            exact hret (v1, by1, tr1) _ _ _ _ _ _ (by exact hvk) (congrArg (fun z => some (ai z)) (by unfold qStuck; (repeat' split) <;> first | rfl | omega | (exfalso; omega))) rfl (Nat.le_of_ble_eq_true rfl) (Nat.le_of_ble_eq_true rfl) dX12_stuck_63
          · skip
            refine v_aload_n (pc := 31) 0 rfl dX12_stuck_31 ?_
            refine v_iload_n (pc := 32) 1 rfl dX12_stuck_32 ?_
            refine v_iload_n (pc := 33) 2 rfl dX12_stuck_33 ?_
            refine v_iload_n (pc := 34) 3 rfl dX12_stuck_34 ?_
            refine v_callV (pc := 35) [0, 1, 2] [] [] (As := [ai player, ai n, ai m]) (rest := []) (c_X12_opensBy ad v1 h f by1 tr1 player n m (by first | assumption | omega) (by first | assumption | omega) (by first | assumption | omega) (by first | assumption | omega) (by first | assumption | omega)) (c := 12) rfl (Or.inr ⟨0, rfl⟩) wl_X12_156 wi_X12_opensBy wv_X12_X12_opensBy_X12_opensBy wk_X12_opensBy wz_X12 md_X12_opensBy rfl (Nat.le_of_ble_eq_true rfl) ⟨Nat.le_of_ble_eq_true rfl, Nat.le_of_ble_eq_true rfl, Nat.le_of_ble_eq_true rfl, Nat.le_of_ble_eq_true rfl⟩ rfl rfl rfl rfl (by decide) (ro_cons (Or.inl r0) ro_nil) dX12_stuck_35 (fun u hu => ?_)
            obtain ⟨v2_4, by2_5, tr2_6⟩ := u
            have g_7 : vK v1 v2_4 ∧ v2_4 13 = v1 13 ∧ v2_4 15 = v1 15 := hu
            show V x cX12_stuck RX12 4 (rmU 3 76 0 0) [(h, co 12 (mO ad v2_4)), ((ad 9), cn 0 6 by2_5), ((ad 10), cn 1 64 tr2_6)] 38 [(0, ar h), (1, ai player), (2, ai n), (3, ai m)] [ai (kOp f player n m)] 0 0
            have hkeep := g_7.1
            have hob := kOp_b (p := player) (n := n) (more := m) hwf hg (by omega) (by omega)
            have hkm := kOp_c f player n m
            refine v_bipush (pc := 38) dX12_stuck_38 (by decide) ?_
            refine v_aload_n (pc := 40) 0 rfl dX12_stuck_40 ?_
            refine v_get (pc := 41) (v := ar (ad 1)) 1 (Or.inr ⟨0, rfl⟩) fl_12_9_12 rfl dX12_stuck_41 ?_
            refine v_bipush (pc := 44) dX12_stuck_44 (by decide) ?_
            refine v_iload_n (pc := 46) 1 rfl dX12_stuck_46 ?_
            refine v_iadd (pc := 47) dX12_stuck_47 ?_
            refine v_iald (pc := 48) (Or.inl r0) (by omega) (by omega) (by decide) dX12_stuck_48 ?_
            refine v_imul (pc := 49) dX12_stuck_49 ?_
            refine v_icmp_gt (pc := 50) 55 dX12_stuck_50 (by decide) (by unfold iB; omega) (by unfold iB; omega) (fun c_8 => ?_) (fun c_8 => ?_)
            · skip
              refine v_iinc (pc := 55) 3 (L2 := [(3, ai (m + 1)), (0, ar h), (1, ai player), (2, ai n)]) rfl rfl (by decide) dX12_stuck_55 ?_
              refine v_goto (pc := 58) 25 dX12_stuck_58 (by decide) ?_
              refine v_sub (L2 := [(0, ar h), (1, ai player), (2, ai n), (3, ai (m + 1))]) [1, 2, 3, 0] rfl ?_
              exact ih _ (by omega) (m + 1) v2_4 by2_5 tr2_6 rfl (by omega) (by omega) (by exact vK_tr hvk hkeep)
            · skip
              refine v_iload_n (pc := 53) 3 rfl dX12_stuck_53 ?_
              exact hret (v2_4, by2_5, tr2_6) _ _ _ _ _ _ (by exact vK_tr hvk hkeep) (congrArg (fun z => some (ai z)) (by unfold qStuck; (repeat' split) <;> first | rfl | omega | (exfalso; omega))) rfl (Nat.le_of_ble_eq_true rfl) (Nat.le_of_ble_eq_true rfl) dX12_stuck_54
      refine v_sub (L2 := [(0, ar h), (1, ai player), (2, ai n), (3, ai 0)]) [1, 2, 3, 0] rfl ?_
      exact lp25 _ 0 v by0 tr0 rfl (by omega) (by omega) (by exact vK_rf v)
    · skip
      refine v_bipush (pc := 20) dX12_stuck_20 (by decide) ?_
      exact hret (v, by0, tr0) _ _ _ _ _ _ (by exact vK_rf v) (congrArg (fun z => some (ai z)) (by unfold qStuck; (repeat' split) <;> first | rfl | omega | (exfalso; omega))) rfl (Nat.le_of_ble_eq_true rfl) (Nat.le_of_ble_eq_true rfl) dX12_stuck_22
  · skip
    refine v_iconst (pc := 8) dX12_stuck_8 ?_
    exact hret (v, by0, tr0) _ _ _ _ _ _ (by exact vK_rf v) (congrArg (fun z => some (ai z)) (by unfold qStuck; (repeat' split) <;> first | rfl | omega | (exfalso; omega))) rfl (Nat.le_of_ble_eq_true rfl) (Nat.le_of_ble_eq_true rfl) dX12_stuck_9
set_option maxHeartbeats 4000000 in
set_option maxRecDepth 100000 in
theorem c_X12_floor {gS : sG} (ad : Nat → Nat) (v : Nat → Int) (h : Nat) (f : Int → Int) (by0 : Int → Int) (tr0 : Int → Int) (player : Int) (n : Int) (force : Int) (part : Int) (hS : SOK f) (hb_player : -2147483648 ≤ player ∧ player < 2147483648) (hb_n : -2147483648 ≤ n ∧ n < 2147483648) (hb_force : -2147483648 ≤ force ∧ force < 2147483648) (hb_part : -2147483648 ≤ part ∧ part < 2147483648) : Ct gS (S := (Nat → Int) × (Int → Int) × (Int → Int)) yX12_floor cX12_floor 5 (some .long) 4 102 0 0 [ar h, ai player, ai n, ai force, ai part] [(h, co 12 (mO ad v)), ((ad 9), cn 0 6 by0), ((ad 10), cn 1 64 tr0)] (fun q => q ∈ ([((ad 1), cn 0 936 f)] : aW)) (fun u => vK v u.1) (fun u => some (al (qFloor f player n force part))) (fun u => [(h, co 12 (mO ad u.1)), ((ad 9), cn 0 6 u.2.1), ((ad 10), cn 1 64 u.2.2)]) := by
  refine ct_L RX12 [(0, ar h), (1, ai player), (2, ai n), (3, ai force), (4, ai part)] (by decide) rfl (Nat.le_of_ble_eq_true rfl) rfl (fun x hgS hro hret => ?_)
  subst hgS
  have r0 := hro _ (mem_at 0 rfl)
  obtain ⟨hg, hSp, hSh, hSs, hSb, hSt, hwf⟩ := id hS
  obtain ⟨hg0, hg1, hg2, hg3, hg4, hg5, hg6, hg7⟩ := id hg
  show V x cX12_floor RX12 5 (rmU 4 102 0 0) [(h, co 12 (mO ad v)), ((ad 9), cn 0 6 by0), ((ad 10), cn 1 64 tr0)] 0 [(0, ar h), (1, ai player), (2, ai n), (3, ai force), (4, ai part)] [] 0 0
  refine v_aload_n (pc := 0) 0 rfl dX12_floor_0 ?_
  refine v_iload_n (pc := 1) 1 rfl dX12_floor_1 ?_
  refine v_callV (pc := 2) [] [0, 1, 2] [(h, co 12 (mO ad v)), ((ad 9), cn 0 6 by0), ((ad 10), cn 1 64 tr0)] (As := [ai player]) (rest := []) (c_X12_isPlayer ad v h f player (by first | assumption | omega) (by first | assumption | omega)) (c := 12) rfl (Or.inr ⟨0, rfl⟩) wl_X12_136 wi_X12_isPlayer wv_X12_X12_isPlayer_X12_isPlayer wk_X12_isPlayer wz_X12 md_X12_isPlayer rfl (Nat.le_of_ble_eq_true rfl) ⟨Nat.le_of_ble_eq_true rfl, Nat.le_of_ble_eq_true rfl, Nat.le_of_ble_eq_true rfl, Nat.le_of_ble_eq_true rfl⟩ rfl rfl rfl rfl (by decide) (ro_cons (Or.inr ⟨0, rfl, by decide⟩) (ro_cons (Or.inl r0) ro_nil)) dX12_floor_2 (fun u hu => ?_)
  show V x cX12_floor RX12 5 (rmU 4 102 0 0) [(h, co 12 (mO ad v)), ((ad 9), cn 0 6 by0), ((ad 10), cn 1 64 tr0)] 5 [(0, ar h), (1, ai player), (2, ai n), (3, ai force), (4, ai part)] [ai (if 0 ≤ player ∧ player ≤ (f 0) - 1 then 1 else 0)] 0 0
  refine v_ifb_eq (pc := 5) 26 dX12_floor_5 (by decide) (fun c_1 => ?_) (fun c_1 => ?_)
  · skip
    refine v_ldc2 (pc := 26) (z := (-9223372036854775808)) (bw_mem 1281 (by decide +kernel) rfl) dX12_floor_26 ?_
    exact hret (v, by0, tr0) _ _ _ _ _ _ (by exact vK_rf v) (congrArg (fun z => some (al z)) (by unfold qFloor; (repeat' split) <;> first | rfl | (exfalso; omega))) rfl (Nat.le_of_ble_eq_true rfl) (Nat.le_of_ble_eq_true rfl) dX12_floor_29
  · skip
    refine v_iload_n (pc := 8) 2 rfl dX12_floor_8 ?_
    refine v_iload_n (pc := 9) 3 rfl dX12_floor_9 ?_
    refine v_callS (pc := 10) [] [0, 1, 2] [(h, co 12 (mO ad v)), ((ad 9), cn 0 6 by0), ((ad 10), cn 1 64 tr0)] (As := [ai n, ai force]) (rest := []) (c_X12_isPile n force (by first | assumption | omega) (by first | assumption | omega)) wl_X12_148 ws_X12_isPile wk_X12_isPile wz_X12 md_X12_isPile rfl (Nat.le_of_ble_eq_true rfl) ⟨Nat.le_of_ble_eq_true rfl, Nat.le_of_ble_eq_true rfl, Nat.le_of_ble_eq_true rfl, Nat.le_of_ble_eq_true rfl⟩ rfl rfl rfl rfl (by decide) ro_nil dX12_floor_10 (fun u hu => ?_)
    show V x cX12_floor RX12 5 (rmU 4 102 0 0) [(h, co 12 (mO ad v)), ((ad 9), cn 0 6 by0), ((ad 10), cn 1 64 tr0)] 13 [(0, ar h), (1, ai player), (2, ai n), (3, ai force), (4, ai part)] [ai (if (1 ≤ n ∧ n ≤ 99) ∧ (0 ≤ force ∧ force ≤ 20) then 1 else 0)] 0 0
    refine v_ifb_eq (pc := 13) 26 dX12_floor_13 (by decide) (fun c_2 => ?_) (fun c_2 => ?_)
    · skip
      refine v_ldc2 (pc := 26) (z := (-9223372036854775808)) (bw_mem 1281 (by decide +kernel) rfl) dX12_floor_26 ?_
      exact hret (v, by0, tr0) _ _ _ _ _ _ (by exact vK_rf v) (congrArg (fun z => some (al z)) (by unfold qFloor; (repeat' split) <;> first | rfl | (exfalso; omega))) rfl (Nat.le_of_ble_eq_true rfl) (Nat.le_of_ble_eq_true rfl) dX12_floor_29
    · skip
      refine v_iload (pc := 16) 4 rfl dX12_floor_16 ?_
      refine v_iconst (pc := 18) dX12_floor_18 ?_
      refine v_iconst (pc := 19) dX12_floor_19 ?_
      refine v_callS (pc := 20) [] [0, 1, 2] [(h, co 12 (mO ad v)), ((ad 9), cn 0 6 by0), ((ad 10), cn 1 64 tr0)] (As := [ai part, ai 0, ai 1]) (rest := []) (c_X12_in part 0 1 (by first | assumption | omega) (by first | assumption | omega) (by first | assumption | omega)) wl_X12_41 ws_X12_in wk_X12_in wz_X12 md_X12_in rfl (Nat.le_of_ble_eq_true rfl) ⟨Nat.le_of_ble_eq_true rfl, Nat.le_of_ble_eq_true rfl, Nat.le_of_ble_eq_true rfl, Nat.le_of_ble_eq_true rfl⟩ rfl rfl rfl rfl (by decide) ro_nil dX12_floor_20 (fun u hu => ?_)
      show V x cX12_floor RX12 5 (rmU 4 102 0 0) [(h, co 12 (mO ad v)), ((ad 9), cn 0 6 by0), ((ad 10), cn 1 64 tr0)] 23 [(0, ar h), (1, ai player), (2, ai n), (3, ai force), (4, ai part)] [ai (if 0 ≤ part ∧ part ≤ 1 then 1 else 0)] 0 0
      refine v_ifb_ne (pc := 23) 30 dX12_floor_23 (by decide) (fun c_3 => ?_) (fun c_3 => ?_)
      · skip
        have hf := hSp player (by omega) (by omega)
        have hsb := fSum_b (f := f) (p := player) (n := n) (force := force) (by omega) 10
        have hpb := kPay_b hg
        have hml := mul_bnd (kPay_b hg) (a := kPay f) (b := 10 * n - fSum f player n force 10) (B := 990) (by omega)
        refine v_aload_n (pc := 30) 0 rfl dX12_floor_30 ?_
        refine v_sipush (pc := 31) dX12_floor_31 (by decide) ?_
        refine v_iconst (pc := 34) dX12_floor_34 ?_
        refine v_callV (pc := 35) [] [0, 1, 2] [(h, co 12 (mO ad v)), ((ad 9), cn 0 6 by0), ((ad 10), cn 1 64 tr0)] (As := [ai 226, ai 1]) (rest := []) (c_X12_tellsOf ad v h f 226 1 (by first | assumption | omega) (by first | assumption | omega)) (c := 12) rfl (Or.inr ⟨0, rfl⟩) wl_X12_129 wi_X12_tellsOf wv_X12_X12_tellsOf_X12_tellsOf wk_X12_tellsOf wz_X12 md_X12_tellsOf rfl (Nat.le_of_ble_eq_true rfl) ⟨Nat.le_of_ble_eq_true rfl, Nat.le_of_ble_eq_true rfl, Nat.le_of_ble_eq_true rfl, Nat.le_of_ble_eq_true rfl⟩ rfl rfl rfl rfl (by decide) (ro_cons (Or.inr ⟨0, rfl, by decide⟩) (ro_cons (Or.inl r0) ro_nil)) dX12_floor_35 (fun u hu => ?_)
        show V x cX12_floor RX12 5 (rmU 4 102 0 0) [(h, co 12 (mO ad v)), ((ad 9), cn 0 6 by0), ((ad 10), cn 1 64 tr0)] 38 [(0, ar h), (1, ai player), (2, ai n), (3, ai force), (4, ai part)] [ai (if f 5 = -1 then 1 else f (226 + f 5))] 0 0
        refine v_eqi (y := (kPay f)) (rfl) ?_
        refine v_i2l (pc := 38) (by unfold iB; omega) dX12_floor_38 ?_
        refine v_bipush (pc := 39) dX12_floor_39 (by decide) ?_
        refine v_iload_n (pc := 41) 2 rfl dX12_floor_41 ?_
        refine v_imul (pc := 42) dX12_floor_42 ?_
        refine v_aload_n (pc := 43) 0 rfl dX12_floor_43 ?_
        refine v_iload_n (pc := 44) 1 rfl dX12_floor_44 ?_
        refine v_iload_n (pc := 45) 2 rfl dX12_floor_45 ?_
        refine v_iload_n (pc := 46) 3 rfl dX12_floor_46 ?_
        refine v_callV (pc := 47) [0, 1, 2] [] [] (As := [ai player, ai n, ai force]) (rest := [ai (10 * n), al (kPay f)]) (c_X12_sumBy ad v h f by0 tr0 player n force (by first | assumption | omega) (by first | assumption | omega) (by first | assumption | omega) (by first | assumption | omega) (by first | assumption | omega)) (c := 12) rfl (Or.inr ⟨0, rfl⟩) wl_X12_175 wi_X12_sumBy wv_X12_X12_sumBy_X12_sumBy wk_X12_sumBy wz_X12 md_X12_sumBy rfl (Nat.le_of_ble_eq_true rfl) ⟨Nat.le_of_ble_eq_true rfl, Nat.le_of_ble_eq_true rfl, Nat.le_of_ble_eq_true rfl, Nat.le_of_ble_eq_true rfl⟩ rfl rfl rfl rfl (by decide) (ro_cons (Or.inl r0) ro_nil) dX12_floor_47 (fun u hu => ?_)
        obtain ⟨v2_4, by2_5, tr2_6⟩ := u
        have g_7 : vK v v2_4 := hu
        show V x cX12_floor RX12 5 (rmU 4 102 0 0) [(h, co 12 (mO ad v2_4)), ((ad 9), cn 0 6 by2_5), ((ad 10), cn 1 64 tr2_6)] 50 [(0, ar h), (1, ai player), (2, ai n), (3, ai force), (4, ai part)] [ai (fSum f player n force 10), ai (10 * n), al (kPay f)] 0 0
        have hkeep := g_7
        refine v_isub (pc := 50) dX12_floor_50 ?_
        refine v_i2l (pc := 51) (by unfold iB; omega) dX12_floor_51 ?_
        refine v_lmul (pc := 52) dX12_floor_52 ?_
        refine v_ldc2 (pc := 53) (z := 10) (bw_mem 1286 (by decide +kernel) rfl) dX12_floor_53 ?_
        refine v_iload (pc := 56) 4 rfl dX12_floor_56 ?_
        refine v_callS (pc := 58) [] [0, 1, 2] [(h, co 12 (mO ad v2_4)), ((ad 9), cn 0 6 by2_5), ((ad 10), cn 1 64 tr2_6)] (As := [al ((kPay f) * ((10 * n) - (fSum f player n force 10))), al 10, ai part]) (rest := []) (c_X12_lowest ((kPay f) * ((10 * n) - (fSum f player n force 10))) 10 part (by first | assumption | omega) (by first | assumption | omega) (by first | assumption | omega)) wl_X12_180 ws_X12_lowest wk_X12_lowest wz_X12 md_X12_lowest rfl (Nat.le_of_ble_eq_true rfl) ⟨Nat.le_of_ble_eq_true rfl, Nat.le_of_ble_eq_true rfl, Nat.le_of_ble_eq_true rfl, Nat.le_of_ble_eq_true rfl⟩ rfl rfl rfl rfl (by decide) ro_nil dX12_floor_58 (fun u hu => ?_)
        show V x cX12_floor RX12 5 (rmU 4 102 0 0) [(h, co 12 (mO ad v2_4)), ((ad 9), cn 0 6 by2_5), ((ad 10), cn 1 64 tr2_6)] 61 [(0, ar h), (1, ai player), (2, ai n), (3, ai force), (4, ai part)] [al (kFr ((kPay f) * ((10 * n) - (fSum f player n force 10))) 10 part)] 0 0
        exact hret (v2_4, by2_5, tr2_6) _ _ _ _ _ _ (by exact hkeep) (congrArg (fun z => some (al z)) (by unfold qFloor; (repeat' split) <;> first | rfl | (exfalso; omega))) rfl (Nat.le_of_ble_eq_true rfl) (Nat.le_of_ble_eq_true rfl) dX12_floor_61
      · skip
        refine v_ldc2 (pc := 26) (z := (-9223372036854775808)) (bw_mem 1281 (by decide +kernel) rfl) dX12_floor_26 ?_
        exact hret (v, by0, tr0) _ _ _ _ _ _ (by exact vK_rf v) (congrArg (fun z => some (al z)) (by unfold qFloor; (repeat' split) <;> first | rfl | (exfalso; omega))) rfl (Nat.le_of_ble_eq_true rfl) (Nat.le_of_ble_eq_true rfl) dX12_floor_29
set_option maxHeartbeats 4000000 in
set_option maxRecDepth 100000 in
theorem c_X12_drawsOf {gS : sG} (ad : Nat → Nat) (v : Nat → Int) (h : Nat) (f : Int → Int) (by0 : Int → Int) (tr0 : Int → Int) (i : Int) (hS : SOK f) (hi : 0 ≤ i ∧ i < f 2) : Ct gS (S := (Nat → Int) × (Int → Int) × (Int → Int)) yX12_drawsOf cX12_drawsOf 4 (some .int) 4 100 0 0 [ar h, ai i] [(h, co 12 (mO ad v)), ((ad 9), cn 0 6 by0), ((ad 10), cn 1 64 tr0)] (fun q => q ∈ ([((ad 1), cn 0 936 f)] : aW)) (fun u => vK v u.1) (fun u => some (ai (kSee f i))) (fun u => [(h, co 12 (mO ad u.1)), ((ad 9), cn 0 6 u.2.1), ((ad 10), cn 1 64 u.2.2)]) := by
  refine ct_I RX12 [(0, ar h), (1, ai i)] (by decide) rfl (Nat.le_of_ble_eq_true rfl) rfl (fun x hgS hro hret => ?_)
  subst hgS
  have r0 := hro _ (mem_at 0 rfl)
  obtain ⟨hg, hSp, hSh, hSs, hSb, hSt, hwf⟩ := id hS
  obtain ⟨hg0, hg1, hg2, hg3, hg4, hg5, hg6, hg7⟩ := id hg
  obtain ⟨hs1, hs2, hs3, hs4⟩ := hSs i hi.1 hi.2
  have hf := hSp (f (73 + i)) (by omega) (by omega)
  show V x cX12_drawsOf RX12 4 (rmU 4 100 0 0) [(h, co 12 (mO ad v)), ((ad 9), cn 0 6 by0), ((ad 10), cn 1 64 tr0)] 0 [(0, ar h), (1, ai i)] [] 0 0
  refine v_iconst (pc := 0) dX12_drawsOf_0 ?_
  refine v_istore_n (pc := 1) (L2 := [(2, ai 0), (0, ar h), (1, ai i)]) rfl (by decide) dX12_drawsOf_1 ?_
  refine v_iconst (pc := 2) dX12_drawsOf_2 ?_
  refine v_istore_n (pc := 3) (L2 := [(3, ai 0), (2, ai 0), (0, ar h), (1, ai i)]) rfl (by decide) dX12_drawsOf_3 ?_
  have lp4 : ∀ (mm : Nat) (st : Int) (d : Int) (v1 : Nat → Int) (by1 : Int → Int) (tr1 : Int → Int), (10 - d).toNat = mm → (0 ≤ d ∧ d ≤ 10) → (st = bts (fun d => decide (fCat f (f (73 + i)) (f (81 + i)) (f (89 + i)) (d : Int) (kOp f (f (73 + i)) (f (81 + i)) 0) = f (97 + i))) d.toNat) → (vK v v1) → V x cX12_drawsOf RX12 4 (rmU 4 100 0 0) [(h, co 12 (mO ad v1)), ((ad 9), cn 0 6 by1), ((ad 10), cn 1 64 tr1)] 4 [(0, ar h), (1, ai i), (2, ai st), (3, ai d)] [] 0 0 := by
    intro mm
    induction mm using Nat.strongRecOn with
    | _ mm ih =>
      intro st d v1 by1 tr1 hmm hd hst hvk
      refine v_iload_n (pc := 4) 3 rfl dX12_drawsOf_4 ?_
      refine v_bipush (pc := 5) dX12_drawsOf_5 (by decide) ?_
      refine v_icmp_ge (pc := 7) 70 dX12_drawsOf_7 (by decide) (by unfold iB; omega) (by unfold iB; omega) (fun c_1 => ?_) (fun c_1 => ?_)
      · skip
        refine v_iload_n (pc := 70) 2 rfl dX12_drawsOf_70 ?_
        exact hret (v1, by1, tr1) _ _ _ _ _ _ (by exact hvk) (congrArg (fun z => some (ai z)) (by unfold kSee; rw [hst, show d.toNat = 10 by omega])) rfl (Nat.le_of_ble_eq_true rfl) (Nat.le_of_ble_eq_true rfl) dX12_drawsOf_71
      · skip
        refine v_iload_n (pc := 10) 2 rfl dX12_drawsOf_10 ?_
        refine v_aload_n (pc := 11) 0 rfl dX12_drawsOf_11 ?_
        refine v_aload_n (pc := 12) 0 rfl dX12_drawsOf_12 ?_
        refine v_get (pc := 13) (v := ar (ad 1)) 1 (Or.inr ⟨0, rfl⟩) fl_12_9_12 rfl dX12_drawsOf_13 ?_
        refine v_bipush (pc := 16) dX12_drawsOf_16 (by decide) ?_
        refine v_iload_n (pc := 18) 1 rfl dX12_drawsOf_18 ?_
        refine v_iadd (pc := 19) dX12_drawsOf_19 ?_
        refine v_iald (pc := 20) (Or.inl r0) (by omega) (by omega) (by decide) dX12_drawsOf_20 ?_
        refine v_aload_n (pc := 21) 0 rfl dX12_drawsOf_21 ?_
        refine v_get (pc := 22) (v := ar (ad 1)) 1 (Or.inr ⟨0, rfl⟩) fl_12_9_12 rfl dX12_drawsOf_22 ?_
        refine v_bipush (pc := 25) dX12_drawsOf_25 (by decide) ?_
        refine v_iload_n (pc := 27) 1 rfl dX12_drawsOf_27 ?_
        refine v_iadd (pc := 28) dX12_drawsOf_28 ?_
        refine v_iald (pc := 29) (Or.inl r0) (by omega) (by omega) (by decide) dX12_drawsOf_29 ?_
        refine v_aload_n (pc := 30) 0 rfl dX12_drawsOf_30 ?_
        refine v_get (pc := 31) (v := ar (ad 1)) 1 (Or.inr ⟨0, rfl⟩) fl_12_9_12 rfl dX12_drawsOf_31 ?_
        refine v_bipush (pc := 34) dX12_drawsOf_34 (by decide) ?_
        refine v_iload_n (pc := 36) 1 rfl dX12_drawsOf_36 ?_
        refine v_iadd (pc := 37) dX12_drawsOf_37 ?_
        refine v_iald (pc := 38) (Or.inl r0) (by omega) (by omega) (by decide) dX12_drawsOf_38 ?_
        refine v_iload_n (pc := 39) 3 rfl dX12_drawsOf_39 ?_
        refine v_callV (pc := 40) [0, 1, 2] [] [] (As := [ai (f (73 + i)), ai (f (81 + i)), ai (f (89 + i)), ai d]) (rest := [ai st]) (c_X12_caught ad v1 h f by1 tr1 (f (73 + i)) (f (81 + i)) (f (89 + i)) d (by first | assumption | omega) (by first | assumption | omega) (by first | assumption | omega) (by first | assumption | omega) (by first | assumption | omega) (by first | assumption | omega)) (c := 12) rfl (Or.inr ⟨0, rfl⟩) wl_X12_163 wi_X12_caught wv_X12_X12_caught_X12_caught wk_X12_caught wz_X12 md_X12_caught rfl (Nat.le_of_ble_eq_true rfl) ⟨Nat.le_of_ble_eq_true rfl, Nat.le_of_ble_eq_true rfl, Nat.le_of_ble_eq_true rfl, Nat.le_of_ble_eq_true rfl⟩ rfl rfl rfl rfl (by decide) (ro_cons (Or.inl r0) ro_nil) dX12_drawsOf_40 (fun u hu => ?_)
        obtain ⟨v2_2, by2_3, tr2_4⟩ := u
        have g_5 : vK v1 v2_2 ∧ v2_2 13 = v1 13 ∧ v2_2 15 = v1 15 := hu
        show V x cX12_drawsOf RX12 4 (rmU 4 100 0 0) [(h, co 12 (mO ad v2_2)), ((ad 9), cn 0 6 by2_3), ((ad 10), cn 1 64 tr2_4)] 43 [(0, ar h), (1, ai i), (2, ai st), (3, ai d)] [ai (fCat f (f (73 + i)) (f (81 + i)) (f (89 + i)) d (kOp f (f (73 + i)) (f (81 + i)) 0)), ai st] 0 0
        have hkeep := g_5.1
        have hcb : 0 ≤ fCat f (f (73 + i)) (f (81 + i)) (f (89 + i)) d (kOp f (f (73 + i)) (f (81 + i)) 0) ∧ fCat f (f (73 + i)) (f (81 + i)) (f (89 + i)) d (kOp f (f (73 + i)) (f (81 + i)) 0) ≤ f (81 + i) := kCat_b (by omega)
        refine v_aload_n (pc := 43) 0 rfl dX12_drawsOf_43 ?_
        refine v_get (pc := 44) (v := ar (ad 1)) 1 (Or.inr ⟨0, rfl⟩) fl_12_9_12 rfl dX12_drawsOf_44 ?_
        refine v_bipush (pc := 47) dX12_drawsOf_47 (by decide) ?_
        refine v_iload_n (pc := 49) 1 rfl dX12_drawsOf_49 ?_
        refine v_iadd (pc := 50) dX12_drawsOf_50 ?_
        refine v_iald (pc := 51) (Or.inl r0) (by omega) (by omega) (by decide) dX12_drawsOf_51 ?_
        refine v_icmp_ne (pc := 52) 61 dX12_drawsOf_52 (by decide) (by unfold iB; omega) (by unfold iB; omega) (fun c_6 => ?_) (fun c_6 => ?_)
        · skip
          refine v_iconst (pc := 61) dX12_drawsOf_61 ?_
          refine v_ior (pc := 62) (c := (st + 0)) (or_add (m := d.toNat) (by omega) (by rw [hst]; exact bts_b _ _) (by first | exact Or.inl rfl | exact Or.inr rfl)) dX12_drawsOf_62 ?_
          refine v_istore_n (pc := 63) (L2 := [(2, ai (st + 0)), (0, ar h), (1, ai i), (3, ai d)]) rfl (by decide) dX12_drawsOf_63 ?_
          refine v_iinc (pc := 64) 3 (L2 := [(3, ai (d + 1)), (2, ai (st + 0)), (0, ar h), (1, ai i)]) rfl rfl (by decide) dX12_drawsOf_64 ?_
          refine v_goto (pc := 67) 4 dX12_drawsOf_67 (by decide) ?_
          refine v_sub (L2 := [(0, ar h), (1, ai i), (2, ai (st + 0)), (3, ai (d + 1))]) [2, 3, 1, 0] rfl ?_
          exact ih _ (by omega) (st + 0) (d + 1) v2_2 by2_3 tr2_4 rfl (by omega) (by rw [hst, show (d + 1).toNat = d.toNat + 1 by omega, bts_succ, show ((d.toNat : Nat) : Int) = d by omega]; congr 1; (first | (rw [if_pos (by simp; omega)]) | (rw [if_neg (by simp; omega)]))) (by exact vK_tr hvk hkeep)
        · skip
          refine v_iconst (pc := 55) dX12_drawsOf_55 ?_
          refine v_iload_n (pc := 56) 3 rfl dX12_drawsOf_56 ?_
          refine v_ishl1 (pc := 57) (by omega) dX12_drawsOf_57 ?_
          refine v_goto (pc := 58) 62 dX12_drawsOf_58 (by decide) ?_
          refine v_ior (pc := 62) (c := (st + (2 ^ d.toNat))) (or_add (m := d.toNat) (by omega) (by rw [hst]; exact bts_b _ _) (by first | exact Or.inl rfl | exact Or.inr rfl)) dX12_drawsOf_62 ?_
          refine v_istore_n (pc := 63) (L2 := [(2, ai (st + (2 ^ d.toNat))), (0, ar h), (1, ai i), (3, ai d)]) rfl (by decide) dX12_drawsOf_63 ?_
          refine v_iinc (pc := 64) 3 (L2 := [(3, ai (d + 1)), (2, ai (st + (2 ^ d.toNat))), (0, ar h), (1, ai i)]) rfl rfl (by decide) dX12_drawsOf_64 ?_
          refine v_goto (pc := 67) 4 dX12_drawsOf_67 (by decide) ?_
          refine v_sub (L2 := [(0, ar h), (1, ai i), (2, ai (st + (2 ^ d.toNat))), (3, ai (d + 1))]) [2, 3, 1, 0] rfl ?_
          exact ih _ (by omega) (st + (2 ^ d.toNat)) (d + 1) v2_2 by2_3 tr2_4 rfl (by omega) (by rw [hst, show (d + 1).toNat = d.toNat + 1 by omega, bts_succ, show ((d.toNat : Nat) : Int) = d by omega]; congr 1; (first | (rw [if_pos (by simp; omega)]) | (rw [if_neg (by simp; omega)]))) (by exact vK_tr hvk hkeep)
  refine v_sub (L2 := [(0, ar h), (1, ai i), (2, ai 0), (3, ai 0)]) [2, 3, 1, 0] rfl ?_
  exact lp4 _ 0 0 v by0 tr0 rfl (by omega) (by rfl) (by exact vK_rf v)
set_option maxHeartbeats 4000000 in
set_option maxRecDepth 100000 in
theorem c_X12_can {gS : sG} (ad : Nat → Nat) (v : Nat → Int) (h : Nat) (f : Int → Int) (by0 : Int → Int) (tr0 : Int → Int) (i : Int) (hS : SOK f) (hb_i : -2147483648 ≤ i ∧ i < 2147483648) : Ct gS (S := (Nat → Int) × (Int → Int) × (Int → Int)) yX12_can cX12_can 2 (some .int) 5 123 0 0 [ar h, ai i] [(h, co 12 (mO ad v)), ((ad 9), cn 0 6 by0), ((ad 10), cn 1 64 tr0)] (fun q => q ∈ ([((ad 1), cn 0 936 f)] : aW)) (fun u => vK v u.1) (fun u => some (ai (qCan f i))) (fun u => [(h, co 12 (mO ad u.1)), ((ad 9), cn 0 6 u.2.1), ((ad 10), cn 1 64 u.2.2)]) := by
  refine ct_I RX12 [(0, ar h), (1, ai i)] (by decide) rfl (Nat.le_of_ble_eq_true rfl) rfl (fun x hgS hro hret => ?_)
  subst hgS
  have r0 := hro _ (mem_at 0 rfl)
  obtain ⟨hg, hSp, hSh, hSs, hSb, hSt, hwf⟩ := id hS
  obtain ⟨hg0, hg1, hg2, hg3, hg4, hg5, hg6, hg7⟩ := id hg
  show V x cX12_can RX12 2 (rmU 5 123 0 0) [(h, co 12 (mO ad v)), ((ad 9), cn 0 6 by0), ((ad 10), cn 1 64 tr0)] 0 [(0, ar h), (1, ai i)] [] 0 0
  refine v_iload_n (pc := 0) 1 rfl dX12_can_0 ?_
  refine v_iconst (pc := 1) dX12_can_1 ?_
  refine v_aload_n (pc := 2) 0 rfl dX12_can_2 ?_
  refine v_get (pc := 3) (v := ar (ad 1)) 1 (Or.inr ⟨0, rfl⟩) fl_12_9_12 rfl dX12_can_3 ?_
  refine v_iconst (pc := 6) dX12_can_6 ?_
  refine v_iald (pc := 7) (Or.inl r0) (by omega) (by omega) (by decide) dX12_can_7 ?_
  refine v_iconst (pc := 8) dX12_can_8 ?_
  refine v_isub (pc := 9) dX12_can_9 ?_
  refine v_callS (pc := 10) [] [0, 1, 2] [(h, co 12 (mO ad v)), ((ad 9), cn 0 6 by0), ((ad 10), cn 1 64 tr0)] (As := [ai i, ai 0, ai ((f 2) - 1)]) (rest := []) (c_X12_in i 0 ((f 2) - 1) (by first | assumption | omega) (by first | assumption | omega) (by first | assumption | omega)) wl_X12_41 ws_X12_in wk_X12_in wz_X12 md_X12_in rfl (Nat.le_of_ble_eq_true rfl) ⟨Nat.le_of_ble_eq_true rfl, Nat.le_of_ble_eq_true rfl, Nat.le_of_ble_eq_true rfl, Nat.le_of_ble_eq_true rfl⟩ rfl rfl rfl rfl (by decide) ro_nil dX12_can_10 (fun u hu => ?_)
  show V x cX12_can RX12 2 (rmU 5 123 0 0) [(h, co 12 (mO ad v)), ((ad 9), cn 0 6 by0), ((ad 10), cn 1 64 tr0)] 13 [(0, ar h), (1, ai i)] [ai (if 0 ≤ i ∧ i ≤ ((f 2) - 1) then 1 else 0)] 0 0
  refine v_ifb_eq (pc := 13) 24 dX12_can_13 (by decide) (fun c_1 => ?_) (fun c_1 => ?_)
  · skip
    refine v_iconst (pc := 24) dX12_can_24 ?_
    exact hret (v, by0, tr0) _ _ _ _ _ _ (by exact vK_rf v) (congrArg (fun z => some (ai z)) (by unfold qCan; (repeat' split) <;> first | rfl | omega | (exfalso; omega))) rfl (Nat.le_of_ble_eq_true rfl) (Nat.le_of_ble_eq_true rfl) dX12_can_25
  · skip
    refine v_aload_n (pc := 16) 0 rfl dX12_can_16 ?_
    refine v_iload_n (pc := 17) 1 rfl dX12_can_17 ?_
    refine v_callV (pc := 18) [0, 1, 2] [] [] (As := [ai i]) (rest := []) (c_X12_drawsOf ad v h f by0 tr0 i (by first | assumption | omega) (by first | assumption | omega)) (c := 12) rfl (Or.inr ⟨0, rfl⟩) wl_X12_240 wi_X12_drawsOf wv_X12_X12_drawsOf_X12_drawsOf wk_X12_drawsOf wz_X12 md_X12_drawsOf rfl (Nat.le_of_ble_eq_true rfl) ⟨Nat.le_of_ble_eq_true rfl, Nat.le_of_ble_eq_true rfl, Nat.le_of_ble_eq_true rfl, Nat.le_of_ble_eq_true rfl⟩ rfl rfl rfl rfl (by decide) (ro_cons (Or.inl r0) ro_nil) dX12_can_18 (fun u hu => ?_)
    obtain ⟨v2_2, by2_3, tr2_4⟩ := u
    have g_5 : vK v v2_2 := hu
    show V x cX12_can RX12 2 (rmU 5 123 0 0) [(h, co 12 (mO ad v2_2)), ((ad 9), cn 0 6 by2_3), ((ad 10), cn 1 64 tr2_4)] 21 [(0, ar h), (1, ai i)] [ai (kSee f i)] 0 0
    have hkeep := g_5
    refine v_goto (pc := 21) 25 dX12_can_21 (by decide) ?_
    exact hret (v2_2, by2_3, tr2_4) _ _ _ _ _ _ (by exact hkeep) (congrArg (fun z => some (ai z)) (by unfold qCan; (repeat' split) <;> first | rfl | omega | (exfalso; omega))) rfl (Nat.le_of_ble_eq_true rfl) (Nat.le_of_ble_eq_true rfl) dX12_can_25
set_option maxHeartbeats 4000000 in
set_option maxRecDepth 100000 in
theorem c_X12_couldAll {gS : sG} (ad : Nat → Nat) (v : Nat → Int) (h : Nat) (f : Int → Int) (by0 : Int → Int) (tr0 : Int → Int) (p : Int) (hS : SOK f) (hp0 : 0 ≤ p ∧ p < f 0) : Ct gS (S := (Nat → Int) × (Int → Int) × (Int → Int)) yX12_couldAll cX12_couldAll 4 (some .boolean) 5 123 0 0 [ar h, ai p] [(h, co 12 (mO ad v)), ((ad 9), cn 0 6 by0), ((ad 10), cn 1 64 tr0)] (fun q => q ∈ ([((ad 1), cn 0 936 f)] : aW)) (fun u => vK v u.1) (fun u => some (ai (if cld f p (f 2).toNat = true then 1 else 0))) (fun u => [(h, co 12 (mO ad u.1)), ((ad 9), cn 0 6 u.2.1), ((ad 10), cn 1 64 u.2.2)]) := by
  refine ct_Z RX12 [(0, ar h), (1, ai p)] (by decide) rfl (Nat.le_of_ble_eq_true rfl) rfl (fun x hgS hro hret => ?_)
  subst hgS
  have r0 := hro _ (mem_at 0 rfl)
  obtain ⟨hg, hSp, hSh, hSs, hSb, hSt, hwf⟩ := id hS
  obtain ⟨hg0, hg1, hg2, hg3, hg4, hg5, hg6, hg7⟩ := id hg
  show V x cX12_couldAll RX12 4 (rmU 5 123 0 0) [(h, co 12 (mO ad v)), ((ad 9), cn 0 6 by0), ((ad 10), cn 1 64 tr0)] 0 [(0, ar h), (1, ai p)] [] 0 0
  refine v_iconst (pc := 0) dX12_couldAll_0 ?_
  refine v_istore_n (pc := 1) (L2 := [(2, ai 1), (0, ar h), (1, ai p)]) rfl (by decide) dX12_couldAll_1 ?_
  refine v_iconst (pc := 2) dX12_couldAll_2 ?_
  refine v_istore_n (pc := 3) (L2 := [(3, ai 0), (2, ai 1), (0, ar h), (1, ai p)]) rfl (by decide) dX12_couldAll_3 ?_
  have lp4 : ∀ (mm : Nat) (cd : Int) (i : Int) (v1 : Nat → Int) (by1 : Int → Int) (tr1 : Int → Int), (f 2 - i).toNat = mm → (0 ≤ i ∧ i ≤ f 2) → (cd = if cld f p i.toNat = true then 1 else 0) → (vK v v1) → V x cX12_couldAll RX12 4 (rmU 5 123 0 0) [(h, co 12 (mO ad v1)), ((ad 9), cn 0 6 by1), ((ad 10), cn 1 64 tr1)] 4 [(0, ar h), (1, ai p), (2, ai cd), (3, ai i)] [] 0 0 := by
    intro mm
    induction mm using Nat.strongRecOn with
    | _ mm ih =>
      intro cd i v1 by1 tr1 hmm hi hcd hvk
      have hc01 : cd = 0 ∨ cd = 1 := by rw [hcd]; split <;> simp
      refine v_iload_n (pc := 4) 3 rfl dX12_couldAll_4 ?_
      refine v_aload_n (pc := 5) 0 rfl dX12_couldAll_5 ?_
      refine v_get (pc := 6) (v := ar (ad 1)) 1 (Or.inr ⟨0, rfl⟩) fl_12_9_12 rfl dX12_couldAll_6 ?_
      refine v_iconst (pc := 9) dX12_couldAll_9 ?_
      refine v_iald (pc := 10) (Or.inl r0) (by omega) (by omega) (by decide) dX12_couldAll_10 ?_
      refine v_icmp_ge (pc := 11) 51 dX12_couldAll_11 (by decide) (by unfold iB; omega) (by unfold iB; omega) (fun c_1 => ?_) (fun c_1 => ?_)
      · skip
        refine v_iload_n (pc := 51) 2 rfl dX12_couldAll_51 ?_
        exact hret (v1, by1, tr1) _ _ _ _ _ _ (by exact hvk) (congrArg (fun z => some (ai z)) (by rw [hcd]; first | rw [show i = f 2 by omega] | (have hcl : cld f p i.toNat = false := Bool.eq_false_iff.mpr (fun z => by rw [if_pos z] at hcd; omega); rw [hcl, cld_mono (show i.toNat ≤ (f 2).toNat by omega) hcl]))) hc01 rfl (Nat.le_of_ble_eq_true rfl) (Nat.le_of_ble_eq_true rfl) dX12_couldAll_52
      · skip
        refine v_iload_n (pc := 14) 2 rfl dX12_couldAll_14 ?_
        refine v_if_eq (pc := 15) 51 dX12_couldAll_15 (by decide) (by unfold iB; omega) (fun c_2 => ?_) (fun c_2 => ?_)
        · skip
          refine v_iload_n (pc := 51) 2 rfl dX12_couldAll_51 ?_
          exact hret (v1, by1, tr1) _ _ _ _ _ _ (by exact hvk) (congrArg (fun z => some (ai z)) (by rw [hcd]; first | rw [show i = f 2 by omega] | (have hcl : cld f p i.toNat = false := Bool.eq_false_iff.mpr (fun z => by rw [if_pos z] at hcd; omega); rw [hcl, cld_mono (show i.toNat ≤ (f 2).toNat by omega) hcl]))) hc01 rfl (Nat.le_of_ble_eq_true rfl) (Nat.le_of_ble_eq_true rfl) dX12_couldAll_52
        · skip
          obtain ⟨hs1, hs2, hs3, hs4⟩ := hSs i (by omega) (by omega)
          refine v_aload_n (pc := 18) 0 rfl dX12_couldAll_18 ?_
          refine v_get (pc := 19) (v := ar (ad 1)) 1 (Or.inr ⟨0, rfl⟩) fl_12_9_12 rfl dX12_couldAll_19 ?_
          refine v_bipush (pc := 22) dX12_couldAll_22 (by decide) ?_
          refine v_iload_n (pc := 24) 3 rfl dX12_couldAll_24 ?_
          refine v_iadd (pc := 25) dX12_couldAll_25 ?_
          refine v_iald (pc := 26) (Or.inl r0) (by omega) (by omega) (by decide) dX12_couldAll_26 ?_
          refine v_iload_n (pc := 27) 1 rfl dX12_couldAll_27 ?_
          refine v_icmp_ne (pc := 28) 39 dX12_couldAll_28 (by decide) (by unfold iB; omega) (by unfold iB; omega) (fun c_3 => ?_) (fun c_3 => ?_)
          · skip
            refine v_iconst (pc := 39) dX12_couldAll_39 ?_
            refine v_goto (pc := 40) 44 dX12_couldAll_40 (by decide) ?_
            refine v_istore_n (pc := 44) (L2 := [(2, ai 1), (0, ar h), (1, ai p), (3, ai i)]) rfl (by decide) dX12_couldAll_44 ?_
            refine v_iinc (pc := 45) 3 (L2 := [(3, ai (i + 1)), (2, ai 1), (0, ar h), (1, ai p)]) rfl rfl (by decide) dX12_couldAll_45 ?_
            refine v_goto (pc := 48) 4 dX12_couldAll_48 (by decide) ?_
            refine v_sub (L2 := [(0, ar h), (1, ai p), (2, ai 1), (3, ai (i + 1))]) [2, 3, 1, 0] rfl ?_
            exact ih _ (by omega) 1 (i + 1) v1 by1 tr1 rfl (by omega) (by rw [show (i + 1).toNat = i.toNat + 1 by omega]; unfold cld; rw [show ((i.toNat : Nat) : Int) = i by omega]; have hcl : cld f p i.toNat = true := Classical.byContradiction (fun z => by rw [if_neg z] at hcd; omega); rw [hcl]; (first | (rw [if_pos (by simp; omega)]) | (rw [if_neg (by simp; omega)]))) (by exact hvk)
          · skip
            refine v_aload_n (pc := 31) 0 rfl dX12_couldAll_31 ?_
            refine v_iload_n (pc := 32) 3 rfl dX12_couldAll_32 ?_
            refine v_callV (pc := 33) [0, 1, 2] [] [] (As := [ai i]) (rest := []) (c_X12_drawsOf ad v1 h f by1 tr1 i (by first | assumption | omega) (by first | assumption | omega)) (c := 12) rfl (Or.inr ⟨0, rfl⟩) wl_X12_240 wi_X12_drawsOf wv_X12_X12_drawsOf_X12_drawsOf wk_X12_drawsOf wz_X12 md_X12_drawsOf rfl (Nat.le_of_ble_eq_true rfl) ⟨Nat.le_of_ble_eq_true rfl, Nat.le_of_ble_eq_true rfl, Nat.le_of_ble_eq_true rfl, Nat.le_of_ble_eq_true rfl⟩ rfl rfl rfl rfl (by decide) (ro_cons (Or.inl r0) ro_nil) dX12_couldAll_33 (fun u hu => ?_)
            obtain ⟨v2_4, by2_5, tr2_6⟩ := u
            have g_7 : vK v1 v2_4 := hu
            show V x cX12_couldAll RX12 4 (rmU 5 123 0 0) [(h, co 12 (mO ad v2_4)), ((ad 9), cn 0 6 by2_5), ((ad 10), cn 1 64 tr2_6)] 36 [(0, ar h), (1, ai p), (2, ai cd), (3, ai i)] [ai (kSee f i)] 0 0
            have hkeep := g_7
            have hsb := bts_b (fun d => decide (fCat f (f (73 + i)) (f (81 + i)) (f (89 + i)) (d : Int) (kOp f (f (73 + i)) (f (81 + i)) 0) = f (97 + i))) 10
            change 0 ≤ kSee f i ∧ kSee f i < 2 ^ 10 at hsb
            have e10 : (2 : Int) ^ 10 = 1024 := by decide
            rw [e10] at hsb
            refine v_if_eq (pc := 36) 43 dX12_couldAll_36 (by decide) (by unfold iB; omega) (fun c_8 => ?_) (fun c_8 => ?_)
            · skip
              refine v_iconst (pc := 43) dX12_couldAll_43 ?_
              refine v_istore_n (pc := 44) (L2 := [(2, ai 0), (0, ar h), (1, ai p), (3, ai i)]) rfl (by decide) dX12_couldAll_44 ?_
              refine v_iinc (pc := 45) 3 (L2 := [(3, ai (i + 1)), (2, ai 0), (0, ar h), (1, ai p)]) rfl rfl (by decide) dX12_couldAll_45 ?_
              refine v_goto (pc := 48) 4 dX12_couldAll_48 (by decide) ?_
              refine v_sub (L2 := [(0, ar h), (1, ai p), (2, ai 0), (3, ai (i + 1))]) [2, 3, 1, 0] rfl ?_
              exact ih _ (by omega) 0 (i + 1) v2_4 by2_5 tr2_6 rfl (by omega) (by rw [show (i + 1).toNat = i.toNat + 1 by omega]; unfold cld; rw [show ((i.toNat : Nat) : Int) = i by omega]; have hcl : cld f p i.toNat = true := Classical.byContradiction (fun z => by rw [if_neg z] at hcd; omega); rw [hcl]; (first | (rw [if_pos (by simp; omega)]) | (rw [if_neg (by simp; omega)]))) (by exact vK_tr hvk hkeep)
            · skip
              refine v_iconst (pc := 39) dX12_couldAll_39 ?_
              refine v_goto (pc := 40) 44 dX12_couldAll_40 (by decide) ?_
              refine v_istore_n (pc := 44) (L2 := [(2, ai 1), (0, ar h), (1, ai p), (3, ai i)]) rfl (by decide) dX12_couldAll_44 ?_
              refine v_iinc (pc := 45) 3 (L2 := [(3, ai (i + 1)), (2, ai 1), (0, ar h), (1, ai p)]) rfl rfl (by decide) dX12_couldAll_45 ?_
              refine v_goto (pc := 48) 4 dX12_couldAll_48 (by decide) ?_
              refine v_sub (L2 := [(0, ar h), (1, ai p), (2, ai 1), (3, ai (i + 1))]) [2, 3, 1, 0] rfl ?_
              exact ih _ (by omega) 1 (i + 1) v2_4 by2_5 tr2_6 rfl (by omega) (by rw [show (i + 1).toNat = i.toNat + 1 by omega]; unfold cld; rw [show ((i.toNat : Nat) : Int) = i by omega]; have hcl : cld f p i.toNat = true := Classical.byContradiction (fun z => by rw [if_neg z] at hcd; omega); rw [hcl]; (first | (rw [if_pos (by simp; omega)]) | (rw [if_neg (by simp; omega)]))) (by exact vK_tr hvk hkeep)
  refine v_sub (L2 := [(0, ar h), (1, ai p), (2, ai 1), (3, ai 0)]) [2, 3, 1, 0] rfl ?_
  exact lp4 _ 1 0 v by0 tr0 rfl (by omega) (by rfl) (by exact vK_rf v)
set_option maxHeartbeats 4000000 in
set_option maxRecDepth 100000 in
theorem c_X12_skills {gS : sG} (ad : Nat → Nat) (v : Nat → Int) (h : Nat) (f : Int → Int) (by0 : Int → Int) (tr0 : Int → Int) (player : Int) (hS : SOK f) (hb_player : -2147483648 ≤ player ∧ player < 2147483648) : Ct gS (S := (Int → Int) × (Nat → Int) × (Int → Int) × (Int → Int)) yX12_skills cX12_skills 5 (some .int) 6 146 0 0 [ar h, ai player] [((ad 1), cn 0 936 f), (h, co 12 (mO ad v)), ((ad 9), cn 0 6 by0), ((ad 10), cn 1 64 tr0)] (fun q => q ∈ ([] : aW)) (fun u => u.1 = f ∧ vK v u.2.1) (fun u => some (ai (qSkills f player))) (fun u => [((ad 1), cn 0 936 u.1), (h, co 12 (mO ad u.2.1)), ((ad 9), cn 0 6 u.2.2.1), ((ad 10), cn 1 64 u.2.2.2)]) := by
  refine ct_I RX12 [(0, ar h), (1, ai player)] (by decide) rfl (Nat.le_of_ble_eq_true rfl) rfl (fun x hgS hro hret => ?_)
  subst hgS
  obtain ⟨hg, hSp, hSh, hSs, hSb, hSt, hwf⟩ := id hS
  obtain ⟨hg0, hg1, hg2, hg3, hg4, hg5, hg6, hg7⟩ := id hg
  show V x cX12_skills RX12 5 (rmU 6 146 0 0) [((ad 1), cn 0 936 f), (h, co 12 (mO ad v)), ((ad 9), cn 0 6 by0), ((ad 10), cn 1 64 tr0)] 0 [(0, ar h), (1, ai player)] [] 0 0
  refine v_aload_n (pc := 0) 0 rfl dX12_skills_0 ?_
  refine v_iload_n (pc := 1) 1 rfl dX12_skills_1 ?_
  refine v_callV (pc := 2) [] [0, 1, 2, 3] [((ad 1), cn 0 936 f), (h, co 12 (mO ad v)), ((ad 9), cn 0 6 by0), ((ad 10), cn 1 64 tr0)] (As := [ai player]) (rest := []) (c_X12_isPlayer ad v h f player (by first | assumption | omega) (by first | assumption | omega)) (c := 12) rfl (Or.inr ⟨1, rfl⟩) wl_X12_136 wi_X12_isPlayer wv_X12_X12_isPlayer_X12_isPlayer wk_X12_isPlayer wz_X12 md_X12_isPlayer rfl (Nat.le_of_ble_eq_true rfl) ⟨Nat.le_of_ble_eq_true rfl, Nat.le_of_ble_eq_true rfl, Nat.le_of_ble_eq_true rfl, Nat.le_of_ble_eq_true rfl⟩ rfl rfl rfl rfl (by decide) (ro_cons (Or.inr ⟨1, rfl, by decide⟩) (ro_cons (Or.inr ⟨0, rfl, by decide⟩) ro_nil)) dX12_skills_2 (fun u hu => ?_)
  show V x cX12_skills RX12 5 (rmU 6 146 0 0) [((ad 1), cn 0 936 f), (h, co 12 (mO ad v)), ((ad 9), cn 0 6 by0), ((ad 10), cn 1 64 tr0)] 5 [(0, ar h), (1, ai player)] [ai (if 0 ≤ player ∧ player ≤ (f 0) - 1 then 1 else 0)] 0 0
  refine v_ifb_ne (pc := 5) 10 dX12_skills_5 (by decide) (fun c_1 => ?_) (fun c_1 => ?_)
  · skip
    have hf := hSp player (by omega) (by omega)
    obtain ⟨hp, hf1, hf2, hf3, hf4, hf5, hf6, hf7, hf8⟩ := id hf
    refine v_aload_n (pc := 10) 0 rfl dX12_skills_10 ?_
    refine v_get (pc := 11) (v := ar (ad 1)) 1 (Or.inr ⟨1, rfl⟩) fl_12_9_12 rfl dX12_skills_11 ?_
    refine v_bipush (pc := 14) dX12_skills_14 (by decide) ?_
    refine v_iload_n (pc := 16) 1 rfl dX12_skills_16 ?_
    refine v_iadd (pc := 17) dX12_skills_17 ?_
    refine v_iald (pc := 18) (Or.inr ⟨0, rfl⟩) (by omega) (by omega) (by decide) dX12_skills_18 ?_
    refine v_istore_n (pc := 19) (L2 := [(2, ai (f (19 + player))), (0, ar h), (1, ai player)]) rfl (by decide) dX12_skills_19 ?_
    refine v_iconst (pc := 20) dX12_skills_20 ?_
    refine v_istore_n (pc := 21) (L2 := [(3, ai 0), (2, ai (f (19 + player))), (0, ar h), (1, ai player)]) rfl (by decide) dX12_skills_21 ?_
    refine v_iconst (pc := 22) dX12_skills_22 ?_
    refine v_istore (pc := 23) (L2 := [(4, ai 0), (3, ai 0), (2, ai (f (19 + player))), (0, ar h), (1, ai player)]) rfl (by decide) dX12_skills_23 ?_
    have lp25 : ∀ (mm : Nat) (st : Int) (sk : Int) (f1 : Int → Int) (v1 : Nat → Int) (by1 : Int → Int) (tr1 : Int → Int), (21 - sk).toNat = mm → (0 ≤ sk ∧ sk ≤ 21) → (∀ z, aup f1 (19 + player) z = aup f (19 + player) z) → (st = bts (fun s => cld (aup f (19 + player) (s : Int)) player (f 2).toNat) sk.toNat) → (vK v v1) → V x cX12_skills RX12 5 (rmU 6 146 0 0) [((ad 1), cn 0 936 f1), (h, co 12 (mO ad v1)), ((ad 9), cn 0 6 by1), ((ad 10), cn 1 64 tr1)] 25 [(0, ar h), (1, ai player), (2, ai (f (19 + player))), (3, ai st), (4, ai sk)] [] 0 0 := by
      intro mm
      induction mm using Nat.strongRecOn with
      | _ mm ih =>
        intro st sk f1 v1 by1 tr1 hmm hsk hf1 hst hvk
        refine v_iload (pc := 25) 4 rfl dX12_skills_25 ?_
        refine v_bipush (pc := 27) dX12_skills_27 (by decide) ?_
        refine v_icmp_gt (pc := 29) 68 dX12_skills_29 (by decide) (by unfold iB; omega) (by unfold iB; omega) (fun c_2 => ?_) (fun c_2 => ?_)
        · skip
          refine v_aload_n (pc := 68) 0 rfl dX12_skills_68 ?_
          refine v_get (pc := 69) (v := ar (ad 1)) 1 (Or.inr ⟨1, rfl⟩) fl_12_9_12 rfl dX12_skills_69 ?_
          refine v_bipush (pc := 72) dX12_skills_72 (by decide) ?_
          refine v_iload_n (pc := 74) 1 rfl dX12_skills_74 ?_
          refine v_iadd (pc := 75) dX12_skills_75 ?_
          refine v_iload_n (pc := 76) 2 rfl dX12_skills_76 ?_
          refine v_iast (pc := 77) 0 rfl (by omega) (by omega) (by decide) (ws2 := [((ad 1), cn 0 936 (aup f1 (19 + player) (f (19 + player)))), (h, co 12 (mO ad v1)), ((ad 9), cn 0 6 by1), ((ad 10), cn 1 64 tr1)]) rfl dX12_skills_77 ?_
          refine v_iload_n (pc := 78) 3 rfl dX12_skills_78 ?_
          exact hret ((aup f1 (19 + player) (f (19 + player))), v1, by1, tr1) _ _ _ _ _ _ (by exact ⟨by rw [hf1]; exact aup_id _ _, hvk⟩) (congrArg (fun z => some (ai z)) (by unfold qSkills; rw [if_neg (by omega), hst, show sk.toNat = 21 by omega])) rfl (Nat.le_of_ble_eq_true rfl) (Nat.le_of_ble_eq_true rfl) dX12_skills_79
        · skip
          refine v_aload_n (pc := 32) 0 rfl dX12_skills_32 ?_
          refine v_get (pc := 33) (v := ar (ad 1)) 1 (Or.inr ⟨1, rfl⟩) fl_12_9_12 rfl dX12_skills_33 ?_
          refine v_bipush (pc := 36) dX12_skills_36 (by decide) ?_
          refine v_iload_n (pc := 38) 1 rfl dX12_skills_38 ?_
          refine v_iadd (pc := 39) dX12_skills_39 ?_
          refine v_iload (pc := 40) 4 rfl dX12_skills_40 ?_
          refine v_iast (pc := 42) 0 rfl (by omega) (by omega) (by decide) (ws2 := [((ad 1), cn 0 936 (aup f1 (19 + player) sk)), (h, co 12 (mO ad v1)), ((ad 9), cn 0 6 by1), ((ad 10), cn 1 64 tr1)]) rfl dX12_skills_42 ?_
          refine v_ws (ws2 := [((ad 1), cn 0 936 (aup f (19 + player) sk)), (h, co 12 (mO ad v1)), ((ad 9), cn 0 6 by1), ((ad 10), cn 1 64 tr1)]) (by rw [hf1]) ?_
          have hS2 := SOK_up hS (i := 19 + player) (z := sk) (Or.inl (by omega))
          have e0 : aup f (19 + player) sk 0 = f 0 := aup_n _ _ (by omega)
          refine v_iload_n (pc := 43) 3 rfl dX12_skills_43 ?_
          refine v_aload_n (pc := 44) 0 rfl dX12_skills_44 ?_
          refine v_iload_n (pc := 45) 1 rfl dX12_skills_45 ?_
          refine v_callV (pc := 46) [1, 2, 3] [0] [((ad 1), cn 0 936 (aup f (19 + player) sk))] (As := [ai player]) (rest := [ai st]) (c_X12_couldAll ad v1 h (aup f (19 + player) sk) by1 tr1 player (by exact hS2) (by rw [e0]; omega)) (c := 12) rfl (Or.inr ⟨1, rfl⟩) wl_X12_243 wi_X12_couldAll wv_X12_X12_couldAll_X12_couldAll wk_X12_couldAll wz_X12 md_X12_couldAll rfl (Nat.le_of_ble_eq_true rfl) ⟨Nat.le_of_ble_eq_true rfl, Nat.le_of_ble_eq_true rfl, Nat.le_of_ble_eq_true rfl, Nat.le_of_ble_eq_true rfl⟩ rfl rfl rfl rfl (by decide) (ro_cons (Or.inr ⟨0, rfl, by decide⟩) ro_nil) dX12_skills_46 (fun u hu => ?_)
          obtain ⟨v2_3, by2_4, tr2_5⟩ := u
          have g_6 : vK v1 v2_3 := hu
          show V x cX12_skills RX12 5 (rmU 6 146 0 0) [((ad 1), cn 0 936 (aup f (19 + player) sk)), (h, co 12 (mO ad v2_3)), ((ad 9), cn 0 6 by2_4), ((ad 10), cn 1 64 tr2_5)] 49 [(0, ar h), (1, ai player), (2, ai (f (19 + player))), (3, ai st), (4, ai sk)] [ai (if cld (aup f (19 + player) sk) player ((aup f (19 + player) sk) 2).toNat = true then 1 else 0), ai st] 0 0
          have hkeep := g_6
          have e2 : aup f (19 + player) sk 2 = f 2 := aup_n _ _ (by omega)
          refine v_ifb_eq (pc := 49) 59 dX12_skills_49 (by decide) (fun c_7 => ?_) (fun c_7 => ?_)
          · skip
            refine v_iconst (pc := 59) dX12_skills_59 ?_
            refine v_ior (pc := 60) (c := (st + 0)) (or_add (m := sk.toNat) (by omega) (by rw [hst]; exact bts_b _ _) (by first | exact Or.inl rfl | exact Or.inr rfl)) dX12_skills_60 ?_
            refine v_istore_n (pc := 61) (L2 := [(3, ai (st + 0)), (0, ar h), (1, ai player), (2, ai (f (19 + player))), (4, ai sk)]) rfl (by decide) dX12_skills_61 ?_
            refine v_iinc (pc := 62) 4 (L2 := [(4, ai (sk + 1)), (3, ai (st + 0)), (0, ar h), (1, ai player), (2, ai (f (19 + player)))]) rfl rfl (by decide) dX12_skills_62 ?_
            refine v_goto (pc := 65) 25 dX12_skills_65 (by decide) ?_
            refine v_sub (L2 := [(0, ar h), (1, ai player), (2, ai (f (19 + player))), (3, ai (st + 0)), (4, ai (sk + 1))]) [2, 3, 4, 1, 0] rfl ?_
            exact ih _ (by omega) (st + 0) (sk + 1) (aup f (19 + player) sk) v2_3 by2_4 tr2_5 rfl (by omega) (by exact fun z => aup_aup _ _ _ _) (by rw [hst, show (sk + 1).toNat = sk.toNat + 1 by omega, bts_succ, show ((sk.toNat : Nat) : Int) = sk by omega]; rw [e2] at *; congr 1; (first | (rw [if_pos (by assumption)]) | (rw [if_neg (by assumption)]))) (by exact vK_tr hvk hkeep)
          · skip
            refine v_iconst (pc := 52) dX12_skills_52 ?_
            refine v_iload (pc := 53) 4 rfl dX12_skills_53 ?_
            refine v_ishl1 (pc := 55) (by omega) dX12_skills_55 ?_
            refine v_goto (pc := 56) 60 dX12_skills_56 (by decide) ?_
            refine v_ior (pc := 60) (c := (st + (2 ^ sk.toNat))) (or_add (m := sk.toNat) (by omega) (by rw [hst]; exact bts_b _ _) (by first | exact Or.inl rfl | exact Or.inr rfl)) dX12_skills_60 ?_
            refine v_istore_n (pc := 61) (L2 := [(3, ai (st + (2 ^ sk.toNat))), (0, ar h), (1, ai player), (2, ai (f (19 + player))), (4, ai sk)]) rfl (by decide) dX12_skills_61 ?_
            refine v_iinc (pc := 62) 4 (L2 := [(4, ai (sk + 1)), (3, ai (st + (2 ^ sk.toNat))), (0, ar h), (1, ai player), (2, ai (f (19 + player)))]) rfl rfl (by decide) dX12_skills_62 ?_
            refine v_goto (pc := 65) 25 dX12_skills_65 (by decide) ?_
            refine v_sub (L2 := [(0, ar h), (1, ai player), (2, ai (f (19 + player))), (3, ai (st + (2 ^ sk.toNat))), (4, ai (sk + 1))]) [2, 3, 4, 1, 0] rfl ?_
            exact ih _ (by omega) (st + (2 ^ sk.toNat)) (sk + 1) (aup f (19 + player) sk) v2_3 by2_4 tr2_5 rfl (by omega) (by exact fun z => aup_aup _ _ _ _) (by rw [hst, show (sk + 1).toNat = sk.toNat + 1 by omega, bts_succ, show ((sk.toNat : Nat) : Int) = sk by omega]; rw [e2] at *; congr 1; (first | (rw [if_pos (by assumption)]) | (rw [if_neg (by assumption)]))) (by exact vK_tr hvk hkeep)
    refine v_sub (L2 := [(0, ar h), (1, ai player), (2, ai (f (19 + player))), (3, ai 0), (4, ai 0)]) [3, 4, 2, 1, 0] rfl ?_
    exact lp25 _ 0 0 f v by0 tr0 rfl (by omega) (by exact fun _ => rfl) (by rfl) (by exact vK_rf v)
  · skip
    refine v_iconst (pc := 8) dX12_skills_8 ?_
    exact hret (f, v, by0, tr0) _ _ _ _ _ _ (by exact ⟨rfl, vK_rf v⟩) (congrArg (fun z => some (ai z)) (by unfold qSkills; (repeat' split) <;> first | rfl | omega | (exfalso; omega))) rfl (Nat.le_of_ble_eq_true rfl) (Nat.le_of_ble_eq_true rfl) dX12_skills_9
set_option maxHeartbeats 4000000 in
set_option maxRecDepth 100000 in
theorem c_X12_looked {gS : sG} (ad : Nat → Nat) (v : Nat → Int) (h : Nat) (f : Int → Int) (by0 : Int → Int) (tr0 : Int → Int) (hS : SOK f) : Ct gS (S := (Nat → Int) × (Int → Int) × (Int → Int)) yX12_looked cX12_looked 2 (some .int) 5 124 0 0 [ar h] [(h, co 12 (mO ad v)), ((ad 9), cn 0 6 by0), ((ad 10), cn 1 64 tr0)] (fun q => q ∈ ([((ad 1), cn 0 936 f)] : aW)) (fun u => vK v u.1) (fun u => some (ai (qLooked f))) (fun u => [(h, co 12 (mO ad u.1)), ((ad 9), cn 0 6 u.2.1), ((ad 10), cn 1 64 u.2.2)]) := by
  refine ct_I RX12 [(0, ar h)] (by decide) rfl (Nat.le_of_ble_eq_true rfl) rfl (fun x hgS hro hret => ?_)
  subst hgS
  have r0 := hro _ (mem_at 0 rfl)
  obtain ⟨hg, hSp, hSh, hSs, hSb, hSt, hwf⟩ := id hS
  obtain ⟨hg0, hg1, hg2, hg3, hg4, hg5, hg6, hg7⟩ := id hg
  show V x cX12_looked RX12 2 (rmU 5 124 0 0) [(h, co 12 (mO ad v)), ((ad 9), cn 0 6 by0), ((ad 10), cn 1 64 tr0)] 0 [(0, ar h)] [] 0 0
  refine v_iconst (pc := 0) dX12_looked_0 ?_
  refine v_istore_n (pc := 1) (L2 := [(1, ai 0), (0, ar h)]) rfl (by decide) dX12_looked_1 ?_
  have lp2 : ∀ (mm : Nat) (k : Int) (v1 : Nat → Int) (by1 : Int → Int) (tr1 : Int → Int), (f 3 - k).toNat = mm → (0 ≤ k ∧ k ≤ f 3) → (qLooked f = lkd f (f 3 - k).toNat k) → (vK v v1) → V x cX12_looked RX12 2 (rmU 5 124 0 0) [(h, co 12 (mO ad v1)), ((ad 9), cn 0 6 by1), ((ad 10), cn 1 64 tr1)] 2 [(0, ar h), (1, ai k)] [] 0 0 := by
    intro mm
    induction mm using Nat.strongRecOn with
    | _ mm ih =>
      intro k v1 by1 tr1 hmm hk hlk hvk
      refine v_iload_n (pc := 2) 1 rfl dX12_looked_2 ?_
      refine v_aload_n (pc := 3) 0 rfl dX12_looked_3 ?_
      refine v_get (pc := 4) (v := ar (ad 1)) 1 (Or.inr ⟨0, rfl⟩) fl_12_9_12 rfl dX12_looked_4 ?_
      refine v_iconst (pc := 7) dX12_looked_7 ?_
      refine v_iald (pc := 8) (Or.inl r0) (by omega) (by omega) (by decide) dX12_looked_8 ?_
      refine v_icmp_ge (pc := 9) 45 dX12_looked_9 (by decide) (by unfold iB; omega) (by unfold iB; omega) (fun c_1 => ?_) (fun c_1 => ?_)
      · skip
        refine v_bipush (pc := 45) dX12_looked_45 (by decide) ?_
        exact hret (v1, by1, tr1) _ _ _ _ _ _ (by exact hvk) (congrArg (fun z => some (ai z)) (by rw [hlk, show (f 3 - k).toNat = 0 by omega]; rfl)) rfl (Nat.le_of_ble_eq_true rfl) (Nat.le_of_ble_eq_true rfl) dX12_looked_47
      · skip
        obtain ⟨hb1, hb2⟩ := hSb k (by omega) (by omega)
        have hf := hSp (f (105 + k)) (by omega) (by omega)
        have hmb := fMost_b (f := f) (p := f (105 + k))
        refine v_aload_n (pc := 12) 0 rfl dX12_looked_12 ?_
        refine v_aload_n (pc := 13) 0 rfl dX12_looked_13 ?_
        refine v_get (pc := 14) (v := ar (ad 1)) 1 (Or.inr ⟨0, rfl⟩) fl_12_9_12 rfl dX12_looked_14 ?_
        refine v_bipush (pc := 17) dX12_looked_17 (by decide) ?_
        refine v_iload_n (pc := 19) 1 rfl dX12_looked_19 ?_
        refine v_iadd (pc := 20) dX12_looked_20 ?_
        refine v_iald (pc := 21) (Or.inl r0) (by omega) (by omega) (by decide) dX12_looked_21 ?_
        refine v_callV (pc := 22) [0, 1, 2] [] [] (As := [ai (f (105 + k))]) (rest := []) (c_X12_mostOf ad v1 h f by1 tr1 (f (105 + k)) (by first | assumption | omega) (by first | assumption | omega) (by first | assumption | omega)) (c := 12) rfl (Or.inr ⟨0, rfl⟩) wl_X12_190 wi_X12_mostOf wv_X12_X12_mostOf_X12_mostOf wk_X12_mostOf wz_X12 md_X12_mostOf rfl (Nat.le_of_ble_eq_true rfl) ⟨Nat.le_of_ble_eq_true rfl, Nat.le_of_ble_eq_true rfl, Nat.le_of_ble_eq_true rfl, Nat.le_of_ble_eq_true rfl⟩ rfl rfl rfl rfl (by decide) (ro_cons (Or.inl r0) ro_nil) dX12_looked_22 (fun u hu => ?_)
        obtain ⟨v2_2, by2_3, tr2_4⟩ := u
        have g_5 : vK v1 v2_2 := hu
        show V x cX12_looked RX12 2 (rmU 5 124 0 0) [(h, co 12 (mO ad v2_2)), ((ad 9), cn 0 6 by2_3), ((ad 10), cn 1 64 tr2_4)] 25 [(0, ar h), (1, ai k)] [ai (fMost f (f (105 + k)))] 0 0
        have hkeep := g_5
        refine v_aload_n (pc := 25) 0 rfl dX12_looked_25 ?_
        refine v_get (pc := 26) (v := ar (ad 1)) 1 (Or.inr ⟨0, rfl⟩) fl_12_9_12 rfl dX12_looked_26 ?_
        refine v_bipush (pc := 29) dX12_looked_29 (by decide) ?_
        refine v_iload_n (pc := 31) 1 rfl dX12_looked_31 ?_
        refine v_iadd (pc := 32) dX12_looked_32 ?_
        refine v_iald (pc := 33) (Or.inl r0) (by omega) (by omega) (by decide) dX12_looked_33 ?_
        refine v_icmp_eq (pc := 34) 39 dX12_looked_34 (by decide) (by unfold iB; omega) (by unfold iB; omega) (fun c_6 => ?_) (fun c_6 => ?_)
        · skip
          refine v_iinc (pc := 39) 1 (L2 := [(1, ai (k + 1)), (0, ar h)]) rfl rfl (by decide) dX12_looked_39 ?_
          refine v_goto (pc := 42) 2 dX12_looked_42 (by decide) ?_
          refine v_sub (L2 := [(0, ar h), (1, ai (k + 1))]) [1, 0] rfl ?_
          exact ih _ (by omega) (k + 1) v2_2 by2_3 tr2_4 rfl (by omega) (by rw [hlk, show (f 3 - k).toNat = (f 3 - (k + 1)).toNat + 1 by omega]; show (if _ then _ else _) = _; rw [if_neg (by omega)]) (by exact vK_tr hvk hkeep)
        · skip
          refine v_iload_n (pc := 37) 1 rfl dX12_looked_37 ?_
          exact hret (v2_2, by2_3, tr2_4) _ _ _ _ _ _ (by exact vK_tr hvk hkeep) (congrArg (fun z => some (ai z)) (by rw [hlk, show (f 3 - k).toNat = (f 3 - (k + 1)).toNat + 1 by omega]; show (if _ then _ else _) = _; rw [if_pos (by omega)])) rfl (Nat.le_of_ble_eq_true rfl) (Nat.le_of_ble_eq_true rfl) dX12_looked_38
  refine v_sub (L2 := [(0, ar h), (1, ai 0)]) [1, 0] rfl ?_
  exact lp2 _ 0 v by0 tr0 rfl (by omega) (by unfold qLooked; rw [show f 3 - 0 = f 3 by omega]) (by exact vK_rf v)
set_option maxHeartbeats 4000000 in
set_option maxRecDepth 100000 in
theorem c_X12_glass {gS : sG} (ad : Nat → Nat) (v : Nat → Int) (h : Nat) (f : Int → Int) (by0 : Int → Int) (tr0 : Int → Int) (player : Int) (what : Int) (hS : SOK f) (hb_player : -2147483648 ≤ player ∧ player < 2147483648) (hb_what : -2147483648 ≤ what ∧ what < 2147483648) : Ct gS (S := (Int → Int) × (Nat → Int) × (Int → Int) × (Int → Int)) yX12_glass cX12_glass 8 (some .int) 5 124 0 0 [ar h, ai player, ai what] [((ad 1), cn 0 936 f), (h, co 12 (mO ad v)), ((ad 9), cn 0 6 by0), ((ad 10), cn 1 64 tr0)] (fun q => q ∈ ([] : aW)) (fun u => u.1 = f ∧ vK v u.2.1) (fun u => some (ai (qGlass f player what))) (fun u => [((ad 1), cn 0 936 u.1), (h, co 12 (mO ad u.2.1)), ((ad 9), cn 0 6 u.2.2.1), ((ad 10), cn 1 64 u.2.2.2)]) := by
  refine ct_I RX12 [(0, ar h), (1, ai player), (2, ai what)] (by decide) rfl (Nat.le_of_ble_eq_true rfl) rfl (fun x hgS hro hret => ?_)
  subst hgS
  obtain ⟨hg, hSp, hSh, hSs, hSb, hSt, hwf⟩ := id hS
  obtain ⟨hg0, hg1, hg2, hg3, hg4, hg5, hg6, hg7⟩ := id hg
  show V x cX12_glass RX12 8 (rmU 5 124 0 0) [((ad 1), cn 0 936 f), (h, co 12 (mO ad v)), ((ad 9), cn 0 6 by0), ((ad 10), cn 1 64 tr0)] 0 [(0, ar h), (1, ai player), (2, ai what)] [] 0 0
  refine v_aload_n (pc := 0) 0 rfl dX12_glass_0 ?_
  refine v_iload_n (pc := 1) 1 rfl dX12_glass_1 ?_
  refine v_callV (pc := 2) [] [0, 1, 2, 3] [((ad 1), cn 0 936 f), (h, co 12 (mO ad v)), ((ad 9), cn 0 6 by0), ((ad 10), cn 1 64 tr0)] (As := [ai player]) (rest := []) (c_X12_isPlayer ad v h f player (by first | assumption | omega) (by first | assumption | omega)) (c := 12) rfl (Or.inr ⟨1, rfl⟩) wl_X12_136 wi_X12_isPlayer wv_X12_X12_isPlayer_X12_isPlayer wk_X12_isPlayer wz_X12 md_X12_isPlayer rfl (Nat.le_of_ble_eq_true rfl) ⟨Nat.le_of_ble_eq_true rfl, Nat.le_of_ble_eq_true rfl, Nat.le_of_ble_eq_true rfl, Nat.le_of_ble_eq_true rfl⟩ rfl rfl rfl rfl (by decide) (ro_cons (Or.inr ⟨1, rfl, by decide⟩) (ro_cons (Or.inr ⟨0, rfl, by decide⟩) ro_nil)) dX12_glass_2 (fun u hu => ?_)
  show V x cX12_glass RX12 8 (rmU 5 124 0 0) [((ad 1), cn 0 936 f), (h, co 12 (mO ad v)), ((ad 9), cn 0 6 by0), ((ad 10), cn 1 64 tr0)] 5 [(0, ar h), (1, ai player), (2, ai what)] [ai (if 0 ≤ player ∧ player ≤ (f 0) - 1 then 1 else 0)] 0 0
  refine v_ifb_eq (pc := 5) 17 dX12_glass_5 (by decide) (fun c_1 => ?_) (fun c_1 => ?_)
  · skip
    refine v_iconst (pc := 17) dX12_glass_17 ?_
    exact hret (f, v, by0, tr0) _ _ _ _ _ _ (by exact ⟨rfl, vK_rf v⟩) (congrArg (fun z => some (ai z)) (by unfold qGlass; (repeat' split) <;> first | rfl | omega | (exfalso; omega))) rfl (Nat.le_of_ble_eq_true rfl) (Nat.le_of_ble_eq_true rfl) dX12_glass_18
  · skip
    refine v_iload_n (pc := 8) 2 rfl dX12_glass_8 ?_
    refine v_iconst (pc := 9) dX12_glass_9 ?_
    refine v_iconst (pc := 10) dX12_glass_10 ?_
    refine v_callS (pc := 11) [] [0, 1, 2, 3] [((ad 1), cn 0 936 f), (h, co 12 (mO ad v)), ((ad 9), cn 0 6 by0), ((ad 10), cn 1 64 tr0)] (As := [ai what, ai 0, ai 1]) (rest := []) (c_X12_in what 0 1 (by first | assumption | omega) (by first | assumption | omega) (by first | assumption | omega)) wl_X12_41 ws_X12_in wk_X12_in wz_X12 md_X12_in rfl (Nat.le_of_ble_eq_true rfl) ⟨Nat.le_of_ble_eq_true rfl, Nat.le_of_ble_eq_true rfl, Nat.le_of_ble_eq_true rfl, Nat.le_of_ble_eq_true rfl⟩ rfl rfl rfl rfl (by decide) ro_nil dX12_glass_11 (fun u hu => ?_)
    show V x cX12_glass RX12 8 (rmU 5 124 0 0) [((ad 1), cn 0 936 f), (h, co 12 (mO ad v)), ((ad 9), cn 0 6 by0), ((ad 10), cn 1 64 tr0)] 14 [(0, ar h), (1, ai player), (2, ai what)] [ai (if 0 ≤ what ∧ what ≤ 1 then 1 else 0)] 0 0
    refine v_ifb_ne (pc := 14) 19 dX12_glass_14 (by decide) (fun c_2 => ?_) (fun c_2 => ?_)
    · skip
      have hf := hSp player (by omega) (by omega)
      obtain ⟨hp, hf1, hf2, hf3, hf4, hf5, hf6, hf7, hf8⟩ := id hf
      refine v_aload_n (pc := 19) 0 rfl dX12_glass_19 ?_
      refine v_get (pc := 20) (v := ar (ad 1)) 1 (Or.inr ⟨1, rfl⟩) fl_12_9_12 rfl dX12_glass_20 ?_
      refine v_bipush (pc := 23) dX12_glass_23 (by decide) ?_
      refine v_iload_n (pc := 25) 1 rfl dX12_glass_25 ?_
      refine v_iadd (pc := 26) dX12_glass_26 ?_
      refine v_iald (pc := 27) (Or.inr ⟨0, rfl⟩) (by omega) (by omega) (by decide) dX12_glass_27 ?_
      refine v_istore_n (pc := 28) (L2 := [(3, ai (f (31 + player))), (0, ar h), (1, ai player), (2, ai what)]) rfl (by decide) dX12_glass_28 ?_
      refine v_iconst (pc := 29) dX12_glass_29 ?_
      refine v_istore (pc := 30) (L2 := [(4, ai 0), (3, ai (f (31 + player))), (0, ar h), (1, ai player), (2, ai what)]) rfl (by decide) dX12_glass_30 ?_
      refine v_iconst (pc := 32) dX12_glass_32 ?_
      refine v_istore (pc := 33) (L2 := [(5, ai (-1)), (4, ai 0), (3, ai (f (31 + player))), (0, ar h), (1, ai player), (2, ai what)]) rfl (by decide) dX12_glass_33 ?_
      refine v_iconst (pc := 35) dX12_glass_35 ?_
      refine v_istore (pc := 36) (L2 := [(6, ai 0), (5, ai (-1)), (4, ai 0), (3, ai (f (31 + player))), (0, ar h), (1, ai player), (2, ai what)]) rfl (by decide) dX12_glass_36 ?_
      have lp38 : ∀ (mm : Nat) (bt : Int) (mo : Int) (gl : Int) (f1 : Int → Int) (v1 : Nat → Int) (by1 : Int → Int) (tr1 : Int → Int), (10 - gl).toNat = mm → (0 ≤ gl ∧ gl ≤ 10) → (∀ z, aup f1 (31 + player) z = aup f (31 + player) z) → ((mo, bt) = bst (fun g => fMost (aup f (31 + player) g) player) gl.toNat) → (-1 ≤ mo ∧ mo ≤ 99) → (vK v v1) → V x cX12_glass RX12 8 (rmU 5 124 0 0) [((ad 1), cn 0 936 f1), (h, co 12 (mO ad v1)), ((ad 9), cn 0 6 by1), ((ad 10), cn 1 64 tr1)] 38 [(0, ar h), (1, ai player), (2, ai what), (3, ai (f (31 + player))), (4, ai bt), (5, ai mo), (6, ai gl)] [] 0 0 := by
        intro mm
        induction mm using Nat.strongRecOn with
        | _ mm ih =>
          intro bt mo gl f1 v1 by1 tr1 hmm hgl hf1 hbs hmob hvk
          have hbn : bst (fun g => fMost (aup f (31 + player) g) player) (gl + 1).toNat = if mo < fMost (aup f (31 + player) gl) player then (fMost (aup f (31 + player) gl) player, gl) else (mo, bt) := by rw [show (gl + 1).toNat = gl.toNat + 1 by omega, bst_succ, ← hbs, show ((gl.toNat : Nat) : Int) = gl by omega]
          refine v_iload (pc := 38) 6 rfl dX12_glass_38 ?_
          refine v_bipush (pc := 40) dX12_glass_40 (by decide) ?_
          refine v_icmp_ge (pc := 42) 101 dX12_glass_42 (by decide) (by unfold iB; omega) (by unfold iB; omega) (fun c_3 => ?_) (fun c_3 => ?_)
          · skip
            refine v_aload_n (pc := 101) 0 rfl dX12_glass_101 ?_
            refine v_get (pc := 102) (v := ar (ad 1)) 1 (Or.inr ⟨1, rfl⟩) fl_12_9_12 rfl dX12_glass_102 ?_
            refine v_bipush (pc := 105) dX12_glass_105 (by decide) ?_
            refine v_iload_n (pc := 107) 1 rfl dX12_glass_107 ?_
            refine v_iadd (pc := 108) dX12_glass_108 ?_
            refine v_iload_n (pc := 109) 3 rfl dX12_glass_109 ?_
            refine v_iast (pc := 110) 0 rfl (by omega) (by omega) (by decide) (ws2 := [((ad 1), cn 0 936 (aup f1 (31 + player) (f (31 + player)))), (h, co 12 (mO ad v1)), ((ad 9), cn 0 6 by1), ((ad 10), cn 1 64 tr1)]) rfl dX12_glass_110 ?_
            refine v_iload_n (pc := 111) 2 rfl dX12_glass_111 ?_
            refine v_if_ne (pc := 112) 120 dX12_glass_112 (by decide) (by unfold iB; omega) (fun c_4 => ?_) (fun c_4 => ?_)
            · skip
              refine v_iload (pc := 120) 5 rfl dX12_glass_120 ?_
              exact hret ((aup f1 (31 + player) (f (31 + player))), v1, by1, tr1) _ _ _ _ _ _ (by exact ⟨by rw [hf1]; exact aup_id _ _, hvk⟩) (congrArg (fun z => some (ai z)) (by unfold qGlass; rw [if_neg (by omega)]; rw [show gl.toNat = 10 by omega] at hbs; rw [← hbs]; first | rw [if_pos (by omega)] | rw [if_neg (by omega)])) rfl (Nat.le_of_ble_eq_true rfl) (Nat.le_of_ble_eq_true rfl) dX12_glass_122
            · skip
              refine v_iload (pc := 115) 4 rfl dX12_glass_115 ?_
              refine v_goto (pc := 117) 122 dX12_glass_117 (by decide) ?_
              exact hret ((aup f1 (31 + player) (f (31 + player))), v1, by1, tr1) _ _ _ _ _ _ (by exact ⟨by rw [hf1]; exact aup_id _ _, hvk⟩) (congrArg (fun z => some (ai z)) (by unfold qGlass; rw [if_neg (by omega)]; rw [show gl.toNat = 10 by omega] at hbs; rw [← hbs]; first | rw [if_pos (by omega)] | rw [if_neg (by omega)])) rfl (Nat.le_of_ble_eq_true rfl) (Nat.le_of_ble_eq_true rfl) dX12_glass_122
          · skip
            refine v_aload_n (pc := 45) 0 rfl dX12_glass_45 ?_
            refine v_get (pc := 46) (v := ar (ad 1)) 1 (Or.inr ⟨1, rfl⟩) fl_12_9_12 rfl dX12_glass_46 ?_
            refine v_bipush (pc := 49) dX12_glass_49 (by decide) ?_
            refine v_iload_n (pc := 51) 1 rfl dX12_glass_51 ?_
            refine v_iadd (pc := 52) dX12_glass_52 ?_
            refine v_iload (pc := 53) 6 rfl dX12_glass_53 ?_
            refine v_iast (pc := 55) 0 rfl (by omega) (by omega) (by decide) (ws2 := [((ad 1), cn 0 936 (aup f1 (31 + player) gl)), (h, co 12 (mO ad v1)), ((ad 9), cn 0 6 by1), ((ad 10), cn 1 64 tr1)]) rfl dX12_glass_55 ?_
            refine v_ws (ws2 := [((ad 1), cn 0 936 (aup f (31 + player) gl)), (h, co 12 (mO ad v1)), ((ad 9), cn 0 6 by1), ((ad 10), cn 1 64 tr1)]) (by rw [hf1]) ?_
            have hS2 := SOK_up hS (i := 31 + player) (z := gl) (Or.inr (Or.inl (by omega)))
            have hmb := fMost_b (f := aup f (31 + player) gl) (p := player)
            refine v_aload_n (pc := 56) 0 rfl dX12_glass_56 ?_
            refine v_iload_n (pc := 57) 1 rfl dX12_glass_57 ?_
            refine v_callV (pc := 58) [1, 2, 3] [0] [((ad 1), cn 0 936 (aup f (31 + player) gl))] (As := [ai player]) (rest := []) (c_X12_mostOf ad v1 h (aup f (31 + player) gl) by1 tr1 player (by exact hS2.2.1 player (by omega) (by omega)) (by exact hS2.1) (by exact hS2.2.2.2.2.2.2)) (c := 12) rfl (Or.inr ⟨1, rfl⟩) wl_X12_190 wi_X12_mostOf wv_X12_X12_mostOf_X12_mostOf wk_X12_mostOf wz_X12 md_X12_mostOf rfl (Nat.le_of_ble_eq_true rfl) ⟨Nat.le_of_ble_eq_true rfl, Nat.le_of_ble_eq_true rfl, Nat.le_of_ble_eq_true rfl, Nat.le_of_ble_eq_true rfl⟩ rfl rfl rfl rfl (by decide) (ro_cons (Or.inr ⟨0, rfl, by decide⟩) ro_nil) dX12_glass_58 (fun u hu => ?_)
            obtain ⟨v2_5, by2_6, tr2_7⟩ := u
            have g_8 : vK v1 v2_5 := hu
            show V x cX12_glass RX12 8 (rmU 5 124 0 0) [((ad 1), cn 0 936 (aup f (31 + player) gl)), (h, co 12 (mO ad v2_5)), ((ad 9), cn 0 6 by2_6), ((ad 10), cn 1 64 tr2_7)] 61 [(0, ar h), (1, ai player), (2, ai what), (3, ai (f (31 + player))), (4, ai bt), (5, ai mo), (6, ai gl)] [ai (fMost (aup f (31 + player) gl) player)] 0 0
            have hkeep := g_8
            refine v_istore (pc := 61) (L2 := [(7, ai (fMost (aup f (31 + player) gl) player)), (0, ar h), (1, ai player), (2, ai what), (3, ai (f (31 + player))), (4, ai bt), (5, ai mo), (6, ai gl)]) rfl (by decide) dX12_glass_61 ?_
            refine v_iload (pc := 63) 0 rfl dX12_glass_63 ?_
            refine v_iload (pc := 65) 6 rfl dX12_glass_65 ?_
            refine v_icmp_le (pc := 67) 75 dX12_glass_67 (by decide) (by unfold iB; omega) (by unfold iB; omega) (fun c_9 => ?_) (fun c_9 => ?_)
            · skip
              refine v_iload (pc := 75) 5 rfl dX12_glass_75 ?_
              refine v_istore (pc := 77) (L2 := [(4, ai bt), (7, ai (fMost (aup f (31 + player) gl) player)), (0, ar h), (1, ai player), (2, ai what), (3, ai (f (31 + player))), (5, ai mo), (6, ai gl)]) rfl (by decide) dX12_glass_77 ?_
              refine v_iload (pc := 79) 1 rfl dX12_glass_79 ?_
              refine v_iload (pc := 81) 6 rfl dX12_glass_81 ?_
              refine v_icmp_le (pc := 83) 91 dX12_glass_83 (by decide) (by unfold iB; omega) (by unfold iB; omega) (fun c_10 => ?_) (fun c_10 => ?_)
              · skip
                refine v_iload (pc := 91) 6 rfl dX12_glass_91 ?_
                refine v_istore (pc := 93) (L2 := [(5, ai mo), (4, ai bt), (7, ai (fMost (aup f (31 + player) gl) player)), (0, ar h), (1, ai player), (2, ai what), (3, ai (f (31 + player))), (6, ai gl)]) rfl (by decide) dX12_glass_93 ?_
                refine v_iinc (pc := 95) 7 (L2 := [(6, ai (gl + 1)), (5, ai mo), (4, ai bt), (7, ai (fMost (aup f (31 + player) gl) player)), (0, ar h), (1, ai player), (2, ai what), (3, ai (f (31 + player)))]) rfl rfl (by decide) dX12_glass_95 ?_
                refine v_goto (pc := 98) 38 dX12_glass_98 (by decide) ?_
                refine v_sub (L2 := [(0, ar h), (1, ai player), (2, ai what), (3, ai (f (31 + player))), (4, ai bt), (5, ai mo), (6, ai (gl + 1))]) [4, 5, 6, 7, 2, 1, 0] rfl ?_
                exact ih _ (by omega) bt mo (gl + 1) (aup f (31 + player) gl) v2_5 by2_6 tr2_7 rfl (by omega) (by exact fun z => aup_aup _ _ _ _) (by rw [hbn]; (first | (rw [if_pos (by omega)]; done) | (rw [if_neg (by omega)]; done) | (exfalso; omega))) (by omega) (by exact vK_tr hvk hkeep)
              · skip
                refine v_iload (pc := 86) 1 rfl dX12_glass_86 ?_
                refine v_goto (pc := 88) 93 dX12_glass_88 (by decide) ?_
                refine v_istore (pc := 93) (L2 := [(5, ai (fMost (aup f (31 + player) gl) player)), (4, ai bt), (7, ai (fMost (aup f (31 + player) gl) player)), (0, ar h), (1, ai player), (2, ai what), (3, ai (f (31 + player))), (6, ai gl)]) rfl (by decide) dX12_glass_93 ?_
                refine v_iinc (pc := 95) 7 (L2 := [(6, ai (gl + 1)), (5, ai (fMost (aup f (31 + player) gl) player)), (4, ai bt), (7, ai (fMost (aup f (31 + player) gl) player)), (0, ar h), (1, ai player), (2, ai what), (3, ai (f (31 + player)))]) rfl rfl (by decide) dX12_glass_95 ?_
                refine v_goto (pc := 98) 38 dX12_glass_98 (by decide) ?_
                refine v_sub (L2 := [(0, ar h), (1, ai player), (2, ai what), (3, ai (f (31 + player))), (4, ai bt), (5, ai (fMost (aup f (31 + player) gl) player)), (6, ai (gl + 1))]) [4, 5, 6, 7, 2, 1, 0] rfl ?_
                exact ih _ (by omega) bt (fMost (aup f (31 + player) gl) player) (gl + 1) (aup f (31 + player) gl) v2_5 by2_6 tr2_7 rfl (by omega) (by exact fun z => aup_aup _ _ _ _) (by rw [hbn]; (first | (rw [if_pos (by omega)]; done) | (rw [if_neg (by omega)]; done) | (exfalso; omega))) (by omega) (by exact vK_tr hvk hkeep)
            · skip
              refine v_iload (pc := 70) 7 rfl dX12_glass_70 ?_
              refine v_goto (pc := 72) 77 dX12_glass_72 (by decide) ?_
              refine v_istore (pc := 77) (L2 := [(4, ai gl), (7, ai (fMost (aup f (31 + player) gl) player)), (0, ar h), (1, ai player), (2, ai what), (3, ai (f (31 + player))), (5, ai mo), (6, ai gl)]) rfl (by decide) dX12_glass_77 ?_
              refine v_iload (pc := 79) 1 rfl dX12_glass_79 ?_
              refine v_iload (pc := 81) 6 rfl dX12_glass_81 ?_
              refine v_icmp_le (pc := 83) 91 dX12_glass_83 (by decide) (by unfold iB; omega) (by unfold iB; omega) (fun c_11 => ?_) (fun c_11 => ?_)
              · skip
                refine v_iload (pc := 91) 6 rfl dX12_glass_91 ?_
                refine v_istore (pc := 93) (L2 := [(5, ai mo), (4, ai gl), (7, ai (fMost (aup f (31 + player) gl) player)), (0, ar h), (1, ai player), (2, ai what), (3, ai (f (31 + player))), (6, ai gl)]) rfl (by decide) dX12_glass_93 ?_
                refine v_iinc (pc := 95) 7 (L2 := [(6, ai (gl + 1)), (5, ai mo), (4, ai gl), (7, ai (fMost (aup f (31 + player) gl) player)), (0, ar h), (1, ai player), (2, ai what), (3, ai (f (31 + player)))]) rfl rfl (by decide) dX12_glass_95 ?_
                refine v_goto (pc := 98) 38 dX12_glass_98 (by decide) ?_
                refine v_sub (L2 := [(0, ar h), (1, ai player), (2, ai what), (3, ai (f (31 + player))), (4, ai gl), (5, ai mo), (6, ai (gl + 1))]) [4, 5, 6, 7, 2, 1, 0] rfl ?_
                exact ih _ (by omega) gl mo (gl + 1) (aup f (31 + player) gl) v2_5 by2_6 tr2_7 rfl (by omega) (by exact fun z => aup_aup _ _ _ _) (by rw [hbn]; (first | (rw [if_pos (by omega)]; done) | (rw [if_neg (by omega)]; done) | (exfalso; omega))) (by omega) (by exact vK_tr hvk hkeep)
              · skip
                refine v_iload (pc := 86) 1 rfl dX12_glass_86 ?_
                refine v_goto (pc := 88) 93 dX12_glass_88 (by decide) ?_
                refine v_istore (pc := 93) (L2 := [(5, ai (fMost (aup f (31 + player) gl) player)), (4, ai gl), (7, ai (fMost (aup f (31 + player) gl) player)), (0, ar h), (1, ai player), (2, ai what), (3, ai (f (31 + player))), (6, ai gl)]) rfl (by decide) dX12_glass_93 ?_
                refine v_iinc (pc := 95) 7 (L2 := [(6, ai (gl + 1)), (5, ai (fMost (aup f (31 + player) gl) player)), (4, ai gl), (7, ai (fMost (aup f (31 + player) gl) player)), (0, ar h), (1, ai player), (2, ai what), (3, ai (f (31 + player)))]) rfl rfl (by decide) dX12_glass_95 ?_
                refine v_goto (pc := 98) 38 dX12_glass_98 (by decide) ?_
                refine v_sub (L2 := [(0, ar h), (1, ai player), (2, ai what), (3, ai (f (31 + player))), (4, ai gl), (5, ai (fMost (aup f (31 + player) gl) player)), (6, ai (gl + 1))]) [4, 5, 6, 7, 2, 1, 0] rfl ?_
                exact ih _ (by omega) gl (fMost (aup f (31 + player) gl) player) (gl + 1) (aup f (31 + player) gl) v2_5 by2_6 tr2_7 rfl (by omega) (by exact fun z => aup_aup _ _ _ _) (by rw [hbn]; (first | (rw [if_pos (by omega)]; done) | (rw [if_neg (by omega)]; done) | (exfalso; omega))) (by omega) (by exact vK_tr hvk hkeep)
      refine v_sub (L2 := [(0, ar h), (1, ai player), (2, ai what), (3, ai (f (31 + player))), (4, ai 0), (5, ai (-1)), (6, ai 0)]) [4, 5, 6, 3, 2, 1, 0] rfl ?_
      exact lp38 _ 0 (-1) 0 f v by0 tr0 rfl (by omega) (by exact fun _ => rfl) (by rfl) (by omega) (by exact vK_rf v)
    · skip
      refine v_iconst (pc := 17) dX12_glass_17 ?_
      exact hret (f, v, by0, tr0) _ _ _ _ _ _ (by exact ⟨rfl, vK_rf v⟩) (congrArg (fun z => some (ai z)) (by unfold qGlass; (repeat' split) <;> first | rfl | omega | (exfalso; omega))) rfl (Nat.le_of_ble_eq_true rfl) (Nat.le_of_ble_eq_true rfl) dX12_glass_18
