set_option maxHeartbeats 4000000 in
set_option maxRecDepth 100000 in
theorem c_X12_set {gS : sG} (ad : Nat → Nat) (v : Nat → Int) (h : Nat) (f : Int → Int) (player : Int) (what : Int) (n : Int) (hS : SOK f) (hb_player : -2147483648 ≤ player ∧ player < 2147483648) (hb_what : -2147483648 ≤ what ∧ what < 2147483648) (hb_n : -2147483648 ≤ n ∧ n < 2147483648) : Ct gS (S := Int × (Int → Int)) yX12_set cX12_set 6 (some .int) 2 43 0 0 [ar h, ai player, ai what, ai n] [((ad 1), cn 0 936 f)] (fun q => q ∈ ([(h, co 12 (mO ad v))] : aW)) (fun u => (u.1, u.2) = qSet f player what n) (fun u => some (ai u.1)) (fun u => [((ad 1), cn 0 936 u.2)]) := by
  refine ct_I RX12 [(0, ar h), (1, ai player), (2, ai what), (3, ai n)] (by decide) rfl (Nat.le_of_ble_eq_true rfl) rfl (fun x hgS hro hret => ?_)
  subst hgS
  have r0 := hro _ (mem_at 0 rfl)
  obtain ⟨hg, hSp, hSh, hSs, hSb, hSt, hwf⟩ := id hS
  obtain ⟨hg0, hg1, hg2, hg3, hg4, hg5, hg6, hg7⟩ := id hg
  show V x cX12_set RX12 6 (rmU 2 43 0 0) [((ad 1), cn 0 936 f)] 0 [(0, ar h), (1, ai player), (2, ai what), (3, ai n)] [] 0 0
  refine v_aload_n (pc := 0) 0 rfl dX12_set_0 ?_
  refine v_iload_n (pc := 1) 1 rfl dX12_set_1 ?_
  refine v_callV (pc := 2) [] [0] [((ad 1), cn 0 936 f)] (As := [ai player]) (rest := []) (c_X12_isPlayer ad v h f player (by first | assumption | omega) (by first | assumption | omega)) (c := 12) rfl (Or.inl r0) wl_X12_136 wi_X12_isPlayer wv_X12_X12_isPlayer_X12_isPlayer wk_X12_isPlayer wz_X12 md_X12_isPlayer rfl (Nat.le_of_ble_eq_true rfl) ⟨Nat.le_of_ble_eq_true rfl, Nat.le_of_ble_eq_true rfl, Nat.le_of_ble_eq_true rfl, Nat.le_of_ble_eq_true rfl⟩ rfl rfl rfl rfl (by decide) (ro_cons (Or.inl r0) (ro_cons (Or.inr ⟨0, rfl, by decide⟩) ro_nil)) dX12_set_2 (fun u hu => ?_)
  show V x cX12_set RX12 6 (rmU 2 43 0 0) [((ad 1), cn 0 936 f)] 5 [(0, ar h), (1, ai player), (2, ai what), (3, ai n)] [ai (if 0 ≤ player ∧ player ≤ (f 0) - 1 then 1 else 0)] 0 0
  refine v_ifb_eq (pc := 5) 17 dX12_set_5 (by decide) (fun c_1 => ?_) (fun c_1 => ?_)
  · skip
    refine v_iconst (pc := 17) dX12_set_17 ?_
    exact hret ((-1), f) _ _ _ _ _ _ (by (unfold qSet sAt; (repeat' split) <;> first | rfl | (exfalso; omega))) (congrArg (fun z => some (ai z)) (by rfl)) rfl (Nat.le_of_ble_eq_true rfl) (Nat.le_of_ble_eq_true rfl) dX12_set_18
  · skip
    refine v_iload_n (pc := 8) 2 rfl dX12_set_8 ?_
    refine v_iconst (pc := 9) dX12_set_9 ?_
    refine v_iconst (pc := 10) dX12_set_10 ?_
    refine v_callS (pc := 11) [] [0] [((ad 1), cn 0 936 f)] (As := [ai what, ai 0, ai 2]) (rest := []) (c_X12_in what 0 2 (by first | assumption | omega) (by first | assumption | omega) (by first | assumption | omega)) wl_X12_41 ws_X12_in wk_X12_in wz_X12 md_X12_in rfl (Nat.le_of_ble_eq_true rfl) ⟨Nat.le_of_ble_eq_true rfl, Nat.le_of_ble_eq_true rfl, Nat.le_of_ble_eq_true rfl, Nat.le_of_ble_eq_true rfl⟩ rfl rfl rfl rfl (by decide) ro_nil dX12_set_11 (fun u hu => ?_)
    show V x cX12_set RX12 6 (rmU 2 43 0 0) [((ad 1), cn 0 936 f)] 14 [(0, ar h), (1, ai player), (2, ai what), (3, ai n)] [ai (if 0 ≤ what ∧ what ≤ 2 then 1 else 0)] 0 0
    refine v_ifb_ne (pc := 14) 19 dX12_set_14 (by decide) (fun c_2 => ?_) (fun c_2 => ?_)
    · skip
      have hf := hSp player (by omega) (by omega)
      obtain ⟨hp, hf1, hf2, hf3, hf4, hf5, hf6, hf7, hf8⟩ := id hf
      refine v_iload_n (pc := 19) 3 rfl dX12_set_19 ?_
      refine v_iconst (pc := 20) dX12_set_20 ?_
      refine v_iload_n (pc := 21) 2 rfl dX12_set_21 ?_
      refine v_if_ne (pc := 22) 30 dX12_set_22 (by decide) (by unfold iB; omega) (fun c_3 => ?_) (fun c_3 => ?_)
      · skip
        refine v_iload_n (pc := 30) 2 rfl dX12_set_30 ?_
        refine v_iconst (pc := 31) dX12_set_31 ?_
        refine v_icmp_ne (pc := 32) 40 dX12_set_32 (by decide) (by unfold iB; omega) (by unfold iB; omega) (fun c_4 => ?_) (fun c_4 => ?_)
        · skip
          refine v_bipush (pc := 40) dX12_set_40 (by decide) ?_
          refine v_callS (pc := 42) [] [0] [((ad 1), cn 0 936 f)] (As := [ai n, ai 0, ai 99]) (rest := []) (c_X12_in n 0 99 (by first | assumption | omega) (by first | assumption | omega) (by first | assumption | omega)) wl_X12_41 ws_X12_in wk_X12_in wz_X12 md_X12_in rfl (Nat.le_of_ble_eq_true rfl) ⟨Nat.le_of_ble_eq_true rfl, Nat.le_of_ble_eq_true rfl, Nat.le_of_ble_eq_true rfl, Nat.le_of_ble_eq_true rfl⟩ rfl rfl rfl rfl (by decide) ro_nil dX12_set_42 (fun u hu => ?_)
          show V x cX12_set RX12 6 (rmU 2 43 0 0) [((ad 1), cn 0 936 f)] 45 [(0, ar h), (1, ai player), (2, ai what), (3, ai n)] [ai (if 0 ≤ n ∧ n ≤ 99 then 1 else 0)] 0 0
          refine v_ifb_ne (pc := 45) 51 dX12_set_45 (by decide) (fun c_5 => ?_) (fun c_5 => ?_)
          · skip
            refine v_iload_n (pc := 51) 2 rfl dX12_set_51 ?_
            refine v_if_ne (pc := 52) 60 dX12_set_52 (by decide) (by unfold iB; omega) (fun c_6 => ?_) (fun c_6 => ?_)
            · skip
              refine v_iload_n (pc := 60) 2 rfl dX12_set_60 ?_
              refine v_iconst (pc := 61) dX12_set_61 ?_
              refine v_icmp_ne (pc := 62) 70 dX12_set_62 (by decide) (by unfold iB; omega) (by unfold iB; omega) (fun c_7 => ?_) (fun c_7 => ?_)
              · skip
                refine v_bipush (pc := 70) dX12_set_70 (by decide) ?_
                refine v_iload_n (pc := 72) 1 rfl dX12_set_72 ?_
                refine v_iadd (pc := 73) dX12_set_73 ?_
                refine v_istore (pc := 74) (L2 := [(4, ai (37 + player)), (0, ar h), (1, ai player), (2, ai what), (3, ai n)]) rfl (by decide) dX12_set_74 ?_
                refine v_aload_n (pc := 76) 1 rfl dX12_set_76 ?_
                refine v_get (pc := 77) (v := ar (ad 1)) 1 (Or.inl r0) fl_12_9_12 rfl dX12_set_77 ?_
                refine v_iload (pc := 80) 0 rfl dX12_set_80 ?_
                refine v_iald (pc := 82) (Or.inr ⟨0, rfl⟩) (by omega) (by omega) (by decide) dX12_set_82 ?_
                refine v_istore (pc := 83) (L2 := [(5, ai (f (37 + player))), (4, ai (37 + player)), (0, ar h), (1, ai player), (2, ai what), (3, ai n)]) rfl (by decide) dX12_set_83 ?_
                refine v_aload_n (pc := 85) 2 rfl dX12_set_85 ?_
                refine v_get (pc := 86) (v := ar (ad 1)) 1 (Or.inl r0) fl_12_9_12 rfl dX12_set_86 ?_
                refine v_iload (pc := 89) 1 rfl dX12_set_89 ?_
                refine v_iload_n (pc := 91) 5 rfl dX12_set_91 ?_
                refine v_iast (pc := 92) 0 rfl (by omega) (by omega) (by decide) (ws2 := [((ad 1), cn 0 936 (aup f (37 + player) n))]) rfl dX12_set_92 ?_
                refine v_iload (pc := 93) 0 rfl dX12_set_93 ?_
                exact hret ((f (37 + player)), (aup f (37 + player) n)) _ _ _ _ _ _ (by (unfold qSet sAt; (repeat' split) <;> first | rfl | (exfalso; omega))) (congrArg (fun z => some (ai z)) (by rfl)) rfl (Nat.le_of_ble_eq_true rfl) (Nat.le_of_ble_eq_true rfl) dX12_set_95
              · skip
                refine v_bipush (pc := 65) dX12_set_65 (by decide) ?_
                refine v_goto (pc := 67) 72 dX12_set_67 (by decide) ?_
                refine v_iload_n (pc := 72) 1 rfl dX12_set_72 ?_
                refine v_iadd (pc := 73) dX12_set_73 ?_
                refine v_istore (pc := 74) (L2 := [(4, ai (31 + player)), (0, ar h), (1, ai player), (2, ai what), (3, ai n)]) rfl (by decide) dX12_set_74 ?_
                refine v_aload_n (pc := 76) 1 rfl dX12_set_76 ?_
                refine v_get (pc := 77) (v := ar (ad 1)) 1 (Or.inl r0) fl_12_9_12 rfl dX12_set_77 ?_
                refine v_iload (pc := 80) 0 rfl dX12_set_80 ?_
                refine v_iald (pc := 82) (Or.inr ⟨0, rfl⟩) (by omega) (by omega) (by decide) dX12_set_82 ?_
                refine v_istore (pc := 83) (L2 := [(5, ai (f (31 + player))), (4, ai (31 + player)), (0, ar h), (1, ai player), (2, ai what), (3, ai n)]) rfl (by decide) dX12_set_83 ?_
                refine v_aload_n (pc := 85) 2 rfl dX12_set_85 ?_
                refine v_get (pc := 86) (v := ar (ad 1)) 1 (Or.inl r0) fl_12_9_12 rfl dX12_set_86 ?_
                refine v_iload (pc := 89) 1 rfl dX12_set_89 ?_
                refine v_iload_n (pc := 91) 5 rfl dX12_set_91 ?_
                refine v_iast (pc := 92) 0 rfl (by omega) (by omega) (by decide) (ws2 := [((ad 1), cn 0 936 (aup f (31 + player) n))]) rfl dX12_set_92 ?_
                refine v_iload (pc := 93) 0 rfl dX12_set_93 ?_
                exact hret ((f (31 + player)), (aup f (31 + player) n)) _ _ _ _ _ _ (by (unfold qSet sAt; (repeat' split) <;> first | rfl | (exfalso; omega))) (congrArg (fun z => some (ai z)) (by rfl)) rfl (Nat.le_of_ble_eq_true rfl) (Nat.le_of_ble_eq_true rfl) dX12_set_95
            · skip
              refine v_bipush (pc := 55) dX12_set_55 (by decide) ?_
              refine v_goto (pc := 57) 72 dX12_set_57 (by decide) ?_
              refine v_iload_n (pc := 72) 1 rfl dX12_set_72 ?_
              refine v_iadd (pc := 73) dX12_set_73 ?_
              refine v_istore (pc := 74) (L2 := [(4, ai (19 + player)), (0, ar h), (1, ai player), (2, ai what), (3, ai n)]) rfl (by decide) dX12_set_74 ?_
              refine v_aload_n (pc := 76) 1 rfl dX12_set_76 ?_
              refine v_get (pc := 77) (v := ar (ad 1)) 1 (Or.inl r0) fl_12_9_12 rfl dX12_set_77 ?_
              refine v_iload (pc := 80) 0 rfl dX12_set_80 ?_
              refine v_iald (pc := 82) (Or.inr ⟨0, rfl⟩) (by omega) (by omega) (by decide) dX12_set_82 ?_
              refine v_istore (pc := 83) (L2 := [(5, ai (f (19 + player))), (4, ai (19 + player)), (0, ar h), (1, ai player), (2, ai what), (3, ai n)]) rfl (by decide) dX12_set_83 ?_
              refine v_aload_n (pc := 85) 2 rfl dX12_set_85 ?_
              refine v_get (pc := 86) (v := ar (ad 1)) 1 (Or.inl r0) fl_12_9_12 rfl dX12_set_86 ?_
              refine v_iload (pc := 89) 1 rfl dX12_set_89 ?_
              refine v_iload_n (pc := 91) 5 rfl dX12_set_91 ?_
              refine v_iast (pc := 92) 0 rfl (by omega) (by omega) (by decide) (ws2 := [((ad 1), cn 0 936 (aup f (19 + player) n))]) rfl dX12_set_92 ?_
              refine v_iload (pc := 93) 0 rfl dX12_set_93 ?_
              exact hret ((f (19 + player)), (aup f (19 + player) n)) _ _ _ _ _ _ (by (unfold qSet sAt; (repeat' split) <;> first | rfl | (exfalso; omega))) (congrArg (fun z => some (ai z)) (by rfl)) rfl (Nat.le_of_ble_eq_true rfl) (Nat.le_of_ble_eq_true rfl) dX12_set_95
          · skip
            refine v_bipush (pc := 48) dX12_set_48 (by decide) ?_
            exact hret ((-2), f) _ _ _ _ _ _ (by (unfold qSet sAt; (repeat' split) <;> first | rfl | (exfalso; omega))) (congrArg (fun z => some (ai z)) (by rfl)) rfl (Nat.le_of_ble_eq_true rfl) (Nat.le_of_ble_eq_true rfl) dX12_set_50
        · skip
          refine v_bipush (pc := 35) dX12_set_35 (by decide) ?_
          refine v_goto (pc := 37) 42 dX12_set_37 (by decide) ?_
          refine v_callS (pc := 42) [] [0] [((ad 1), cn 0 936 f)] (As := [ai n, ai 0, ai 9]) (rest := []) (c_X12_in n 0 9 (by first | assumption | omega) (by first | assumption | omega) (by first | assumption | omega)) wl_X12_41 ws_X12_in wk_X12_in wz_X12 md_X12_in rfl (Nat.le_of_ble_eq_true rfl) ⟨Nat.le_of_ble_eq_true rfl, Nat.le_of_ble_eq_true rfl, Nat.le_of_ble_eq_true rfl, Nat.le_of_ble_eq_true rfl⟩ rfl rfl rfl rfl (by decide) ro_nil dX12_set_42 (fun u hu => ?_)
          show V x cX12_set RX12 6 (rmU 2 43 0 0) [((ad 1), cn 0 936 f)] 45 [(0, ar h), (1, ai player), (2, ai what), (3, ai n)] [ai (if 0 ≤ n ∧ n ≤ 9 then 1 else 0)] 0 0
          refine v_ifb_ne (pc := 45) 51 dX12_set_45 (by decide) (fun c_8 => ?_) (fun c_8 => ?_)
          · skip
            refine v_iload_n (pc := 51) 2 rfl dX12_set_51 ?_
            refine v_if_ne (pc := 52) 60 dX12_set_52 (by decide) (by unfold iB; omega) (fun c_9 => ?_) (fun c_9 => ?_)
            · skip
              refine v_iload_n (pc := 60) 2 rfl dX12_set_60 ?_
              refine v_iconst (pc := 61) dX12_set_61 ?_
              refine v_icmp_ne (pc := 62) 70 dX12_set_62 (by decide) (by unfold iB; omega) (by unfold iB; omega) (fun c_10 => ?_) (fun c_10 => ?_)
              · skip
                refine v_bipush (pc := 70) dX12_set_70 (by decide) ?_
                refine v_iload_n (pc := 72) 1 rfl dX12_set_72 ?_
                refine v_iadd (pc := 73) dX12_set_73 ?_
                refine v_istore (pc := 74) (L2 := [(4, ai (37 + player)), (0, ar h), (1, ai player), (2, ai what), (3, ai n)]) rfl (by decide) dX12_set_74 ?_
                refine v_aload_n (pc := 76) 1 rfl dX12_set_76 ?_
                refine v_get (pc := 77) (v := ar (ad 1)) 1 (Or.inl r0) fl_12_9_12 rfl dX12_set_77 ?_
                refine v_iload (pc := 80) 0 rfl dX12_set_80 ?_
                refine v_iald (pc := 82) (Or.inr ⟨0, rfl⟩) (by omega) (by omega) (by decide) dX12_set_82 ?_
                refine v_istore (pc := 83) (L2 := [(5, ai (f (37 + player))), (4, ai (37 + player)), (0, ar h), (1, ai player), (2, ai what), (3, ai n)]) rfl (by decide) dX12_set_83 ?_
                refine v_aload_n (pc := 85) 2 rfl dX12_set_85 ?_
                refine v_get (pc := 86) (v := ar (ad 1)) 1 (Or.inl r0) fl_12_9_12 rfl dX12_set_86 ?_
                refine v_iload (pc := 89) 1 rfl dX12_set_89 ?_
                refine v_iload_n (pc := 91) 5 rfl dX12_set_91 ?_
                refine v_iast (pc := 92) 0 rfl (by omega) (by omega) (by decide) (ws2 := [((ad 1), cn 0 936 (aup f (37 + player) n))]) rfl dX12_set_92 ?_
                refine v_iload (pc := 93) 0 rfl dX12_set_93 ?_
                exact hret ((f (37 + player)), (aup f (37 + player) n)) _ _ _ _ _ _ (by (unfold qSet sAt; (repeat' split) <;> first | rfl | (exfalso; omega))) (congrArg (fun z => some (ai z)) (by rfl)) rfl (Nat.le_of_ble_eq_true rfl) (Nat.le_of_ble_eq_true rfl) dX12_set_95
              · skip
                refine v_bipush (pc := 65) dX12_set_65 (by decide) ?_
                refine v_goto (pc := 67) 72 dX12_set_67 (by decide) ?_
                refine v_iload_n (pc := 72) 1 rfl dX12_set_72 ?_
                refine v_iadd (pc := 73) dX12_set_73 ?_
                refine v_istore (pc := 74) (L2 := [(4, ai (31 + player)), (0, ar h), (1, ai player), (2, ai what), (3, ai n)]) rfl (by decide) dX12_set_74 ?_
                refine v_aload_n (pc := 76) 1 rfl dX12_set_76 ?_
                refine v_get (pc := 77) (v := ar (ad 1)) 1 (Or.inl r0) fl_12_9_12 rfl dX12_set_77 ?_
                refine v_iload (pc := 80) 0 rfl dX12_set_80 ?_
                refine v_iald (pc := 82) (Or.inr ⟨0, rfl⟩) (by omega) (by omega) (by decide) dX12_set_82 ?_
                refine v_istore (pc := 83) (L2 := [(5, ai (f (31 + player))), (4, ai (31 + player)), (0, ar h), (1, ai player), (2, ai what), (3, ai n)]) rfl (by decide) dX12_set_83 ?_
                refine v_aload_n (pc := 85) 2 rfl dX12_set_85 ?_
                refine v_get (pc := 86) (v := ar (ad 1)) 1 (Or.inl r0) fl_12_9_12 rfl dX12_set_86 ?_
                refine v_iload (pc := 89) 1 rfl dX12_set_89 ?_
                refine v_iload_n (pc := 91) 5 rfl dX12_set_91 ?_
                refine v_iast (pc := 92) 0 rfl (by omega) (by omega) (by decide) (ws2 := [((ad 1), cn 0 936 (aup f (31 + player) n))]) rfl dX12_set_92 ?_
                refine v_iload (pc := 93) 0 rfl dX12_set_93 ?_
                exact hret ((f (31 + player)), (aup f (31 + player) n)) _ _ _ _ _ _ (by (unfold qSet sAt; (repeat' split) <;> first | rfl | (exfalso; omega))) (congrArg (fun z => some (ai z)) (by rfl)) rfl (Nat.le_of_ble_eq_true rfl) (Nat.le_of_ble_eq_true rfl) dX12_set_95
            · skip
              refine v_bipush (pc := 55) dX12_set_55 (by decide) ?_
              refine v_goto (pc := 57) 72 dX12_set_57 (by decide) ?_
              refine v_iload_n (pc := 72) 1 rfl dX12_set_72 ?_
              refine v_iadd (pc := 73) dX12_set_73 ?_
              refine v_istore (pc := 74) (L2 := [(4, ai (19 + player)), (0, ar h), (1, ai player), (2, ai what), (3, ai n)]) rfl (by decide) dX12_set_74 ?_
              refine v_aload_n (pc := 76) 1 rfl dX12_set_76 ?_
              refine v_get (pc := 77) (v := ar (ad 1)) 1 (Or.inl r0) fl_12_9_12 rfl dX12_set_77 ?_
              refine v_iload (pc := 80) 0 rfl dX12_set_80 ?_
              refine v_iald (pc := 82) (Or.inr ⟨0, rfl⟩) (by omega) (by omega) (by decide) dX12_set_82 ?_
              refine v_istore (pc := 83) (L2 := [(5, ai (f (19 + player))), (4, ai (19 + player)), (0, ar h), (1, ai player), (2, ai what), (3, ai n)]) rfl (by decide) dX12_set_83 ?_
              refine v_aload_n (pc := 85) 2 rfl dX12_set_85 ?_
              refine v_get (pc := 86) (v := ar (ad 1)) 1 (Or.inl r0) fl_12_9_12 rfl dX12_set_86 ?_
              refine v_iload (pc := 89) 1 rfl dX12_set_89 ?_
              refine v_iload_n (pc := 91) 5 rfl dX12_set_91 ?_
              refine v_iast (pc := 92) 0 rfl (by omega) (by omega) (by decide) (ws2 := [((ad 1), cn 0 936 (aup f (19 + player) n))]) rfl dX12_set_92 ?_
              refine v_iload (pc := 93) 0 rfl dX12_set_93 ?_
              exact hret ((f (19 + player)), (aup f (19 + player) n)) _ _ _ _ _ _ (by (unfold qSet sAt; (repeat' split) <;> first | rfl | (exfalso; omega))) (congrArg (fun z => some (ai z)) (by rfl)) rfl (Nat.le_of_ble_eq_true rfl) (Nat.le_of_ble_eq_true rfl) dX12_set_95
          · skip
            refine v_bipush (pc := 48) dX12_set_48 (by decide) ?_
            exact hret ((-2), f) _ _ _ _ _ _ (by (unfold qSet sAt; (repeat' split) <;> first | rfl | (exfalso; omega))) (congrArg (fun z => some (ai z)) (by rfl)) rfl (Nat.le_of_ble_eq_true rfl) (Nat.le_of_ble_eq_true rfl) dX12_set_50
      · skip
        refine v_bipush (pc := 25) dX12_set_25 (by decide) ?_
        refine v_goto (pc := 27) 42 dX12_set_27 (by decide) ?_
        refine v_callS (pc := 42) [] [0] [((ad 1), cn 0 936 f)] (As := [ai n, ai 0, ai 20]) (rest := []) (c_X12_in n 0 20 (by first | assumption | omega) (by first | assumption | omega) (by first | assumption | omega)) wl_X12_41 ws_X12_in wk_X12_in wz_X12 md_X12_in rfl (Nat.le_of_ble_eq_true rfl) ⟨Nat.le_of_ble_eq_true rfl, Nat.le_of_ble_eq_true rfl, Nat.le_of_ble_eq_true rfl, Nat.le_of_ble_eq_true rfl⟩ rfl rfl rfl rfl (by decide) ro_nil dX12_set_42 (fun u hu => ?_)
        show V x cX12_set RX12 6 (rmU 2 43 0 0) [((ad 1), cn 0 936 f)] 45 [(0, ar h), (1, ai player), (2, ai what), (3, ai n)] [ai (if 0 ≤ n ∧ n ≤ 20 then 1 else 0)] 0 0
        refine v_ifb_ne (pc := 45) 51 dX12_set_45 (by decide) (fun c_11 => ?_) (fun c_11 => ?_)
        · skip
          refine v_iload_n (pc := 51) 2 rfl dX12_set_51 ?_
          refine v_if_ne (pc := 52) 60 dX12_set_52 (by decide) (by unfold iB; omega) (fun c_12 => ?_) (fun c_12 => ?_)
          · skip
            refine v_iload_n (pc := 60) 2 rfl dX12_set_60 ?_
            refine v_iconst (pc := 61) dX12_set_61 ?_
            refine v_icmp_ne (pc := 62) 70 dX12_set_62 (by decide) (by unfold iB; omega) (by unfold iB; omega) (fun c_13 => ?_) (fun c_13 => ?_)
            · skip
              refine v_bipush (pc := 70) dX12_set_70 (by decide) ?_
              refine v_iload_n (pc := 72) 1 rfl dX12_set_72 ?_
              refine v_iadd (pc := 73) dX12_set_73 ?_
              refine v_istore (pc := 74) (L2 := [(4, ai (37 + player)), (0, ar h), (1, ai player), (2, ai what), (3, ai n)]) rfl (by decide) dX12_set_74 ?_
              refine v_aload_n (pc := 76) 1 rfl dX12_set_76 ?_
              refine v_get (pc := 77) (v := ar (ad 1)) 1 (Or.inl r0) fl_12_9_12 rfl dX12_set_77 ?_
              refine v_iload (pc := 80) 0 rfl dX12_set_80 ?_
              refine v_iald (pc := 82) (Or.inr ⟨0, rfl⟩) (by omega) (by omega) (by decide) dX12_set_82 ?_
              refine v_istore (pc := 83) (L2 := [(5, ai (f (37 + player))), (4, ai (37 + player)), (0, ar h), (1, ai player), (2, ai what), (3, ai n)]) rfl (by decide) dX12_set_83 ?_
              refine v_aload_n (pc := 85) 2 rfl dX12_set_85 ?_
              refine v_get (pc := 86) (v := ar (ad 1)) 1 (Or.inl r0) fl_12_9_12 rfl dX12_set_86 ?_
              refine v_iload (pc := 89) 1 rfl dX12_set_89 ?_
              refine v_iload_n (pc := 91) 5 rfl dX12_set_91 ?_
              refine v_iast (pc := 92) 0 rfl (by omega) (by omega) (by decide) (ws2 := [((ad 1), cn 0 936 (aup f (37 + player) n))]) rfl dX12_set_92 ?_
              refine v_iload (pc := 93) 0 rfl dX12_set_93 ?_
              exact hret ((f (37 + player)), (aup f (37 + player) n)) _ _ _ _ _ _ (by (unfold qSet sAt; (repeat' split) <;> first | rfl | (exfalso; omega))) (congrArg (fun z => some (ai z)) (by rfl)) rfl (Nat.le_of_ble_eq_true rfl) (Nat.le_of_ble_eq_true rfl) dX12_set_95
            · skip
              refine v_bipush (pc := 65) dX12_set_65 (by decide) ?_
              refine v_goto (pc := 67) 72 dX12_set_67 (by decide) ?_
              refine v_iload_n (pc := 72) 1 rfl dX12_set_72 ?_
              refine v_iadd (pc := 73) dX12_set_73 ?_
              refine v_istore (pc := 74) (L2 := [(4, ai (31 + player)), (0, ar h), (1, ai player), (2, ai what), (3, ai n)]) rfl (by decide) dX12_set_74 ?_
              refine v_aload_n (pc := 76) 1 rfl dX12_set_76 ?_
              refine v_get (pc := 77) (v := ar (ad 1)) 1 (Or.inl r0) fl_12_9_12 rfl dX12_set_77 ?_
              refine v_iload (pc := 80) 0 rfl dX12_set_80 ?_
              refine v_iald (pc := 82) (Or.inr ⟨0, rfl⟩) (by omega) (by omega) (by decide) dX12_set_82 ?_
              refine v_istore (pc := 83) (L2 := [(5, ai (f (31 + player))), (4, ai (31 + player)), (0, ar h), (1, ai player), (2, ai what), (3, ai n)]) rfl (by decide) dX12_set_83 ?_
              refine v_aload_n (pc := 85) 2 rfl dX12_set_85 ?_
              refine v_get (pc := 86) (v := ar (ad 1)) 1 (Or.inl r0) fl_12_9_12 rfl dX12_set_86 ?_
              refine v_iload (pc := 89) 1 rfl dX12_set_89 ?_
              refine v_iload_n (pc := 91) 5 rfl dX12_set_91 ?_
              refine v_iast (pc := 92) 0 rfl (by omega) (by omega) (by decide) (ws2 := [((ad 1), cn 0 936 (aup f (31 + player) n))]) rfl dX12_set_92 ?_
              refine v_iload (pc := 93) 0 rfl dX12_set_93 ?_
              exact hret ((f (31 + player)), (aup f (31 + player) n)) _ _ _ _ _ _ (by (unfold qSet sAt; (repeat' split) <;> first | rfl | (exfalso; omega))) (congrArg (fun z => some (ai z)) (by rfl)) rfl (Nat.le_of_ble_eq_true rfl) (Nat.le_of_ble_eq_true rfl) dX12_set_95
          · skip
            refine v_bipush (pc := 55) dX12_set_55 (by decide) ?_
            refine v_goto (pc := 57) 72 dX12_set_57 (by decide) ?_
            refine v_iload_n (pc := 72) 1 rfl dX12_set_72 ?_
            refine v_iadd (pc := 73) dX12_set_73 ?_
            refine v_istore (pc := 74) (L2 := [(4, ai (19 + player)), (0, ar h), (1, ai player), (2, ai what), (3, ai n)]) rfl (by decide) dX12_set_74 ?_
            refine v_aload_n (pc := 76) 1 rfl dX12_set_76 ?_
            refine v_get (pc := 77) (v := ar (ad 1)) 1 (Or.inl r0) fl_12_9_12 rfl dX12_set_77 ?_
            refine v_iload (pc := 80) 0 rfl dX12_set_80 ?_
            refine v_iald (pc := 82) (Or.inr ⟨0, rfl⟩) (by omega) (by omega) (by decide) dX12_set_82 ?_
            refine v_istore (pc := 83) (L2 := [(5, ai (f (19 + player))), (4, ai (19 + player)), (0, ar h), (1, ai player), (2, ai what), (3, ai n)]) rfl (by decide) dX12_set_83 ?_
            refine v_aload_n (pc := 85) 2 rfl dX12_set_85 ?_
            refine v_get (pc := 86) (v := ar (ad 1)) 1 (Or.inl r0) fl_12_9_12 rfl dX12_set_86 ?_
            refine v_iload (pc := 89) 1 rfl dX12_set_89 ?_
            refine v_iload_n (pc := 91) 5 rfl dX12_set_91 ?_
            refine v_iast (pc := 92) 0 rfl (by omega) (by omega) (by decide) (ws2 := [((ad 1), cn 0 936 (aup f (19 + player) n))]) rfl dX12_set_92 ?_
            refine v_iload (pc := 93) 0 rfl dX12_set_93 ?_
            exact hret ((f (19 + player)), (aup f (19 + player) n)) _ _ _ _ _ _ (by (unfold qSet sAt; (repeat' split) <;> first | rfl | (exfalso; omega))) (congrArg (fun z => some (ai z)) (by rfl)) rfl (Nat.le_of_ble_eq_true rfl) (Nat.le_of_ble_eq_true rfl) dX12_set_95
        · skip
          refine v_bipush (pc := 48) dX12_set_48 (by decide) ?_
          exact hret ((-2), f) _ _ _ _ _ _ (by (unfold qSet sAt; (repeat' split) <;> first | rfl | (exfalso; omega))) (congrArg (fun z => some (ai z)) (by rfl)) rfl (Nat.le_of_ble_eq_true rfl) (Nat.le_of_ble_eq_true rfl) dX12_set_50
    · skip
      refine v_iconst (pc := 17) dX12_set_17 ?_
      exact hret ((-1), f) _ _ _ _ _ _ (by (unfold qSet sAt; (repeat' split) <;> first | rfl | (exfalso; omega))) (congrArg (fun z => some (ai z)) (by rfl)) rfl (Nat.le_of_ble_eq_true rfl) (Nat.le_of_ble_eq_true rfl) dX12_set_18
set_option maxHeartbeats 4000000 in
set_option maxRecDepth 100000 in
theorem c_X12_row {gS : sG} (ad : Nat → Nat) (v : Nat → Int) (h : Nat) (f : Int → Int) (player : Int) (k : Int) (n : Int) (hS : SOK f) (hb_player : -2147483648 ≤ player ∧ player < 2147483648) (hb_k : -2147483648 ≤ k ∧ k < 2147483648) (hb_n : -2147483648 ≤ n ∧ n < 2147483648) : Ct gS (S := Int × (Int → Int)) yX12_row cX12_row 5 (some .int) 2 43 0 0 [ar h, ai player, ai k, ai n] [((ad 1), cn 0 936 f)] (fun q => q ∈ ([(h, co 12 (mO ad v))] : aW)) (fun u => (u.1, u.2) = qRow f player k n) (fun u => some (ai u.1)) (fun u => [((ad 1), cn 0 936 u.2)]) := by
  refine ct_I RX12 [(0, ar h), (1, ai player), (2, ai k), (3, ai n)] (by decide) rfl (Nat.le_of_ble_eq_true rfl) rfl (fun x hgS hro hret => ?_)
  subst hgS
  have r0 := hro _ (mem_at 0 rfl)
  obtain ⟨hg, hSp, hSh, hSs, hSb, hSt, hwf⟩ := id hS
  obtain ⟨hg0, hg1, hg2, hg3, hg4, hg5, hg6, hg7⟩ := id hg
  show V x cX12_row RX12 5 (rmU 2 43 0 0) [((ad 1), cn 0 936 f)] 0 [(0, ar h), (1, ai player), (2, ai k), (3, ai n)] [] 0 0
  refine v_aload_n (pc := 0) 0 rfl dX12_row_0 ?_
  refine v_iload_n (pc := 1) 1 rfl dX12_row_1 ?_
  refine v_callV (pc := 2) [] [0] [((ad 1), cn 0 936 f)] (As := [ai player]) (rest := []) (c_X12_isPlayer ad v h f player (by first | assumption | omega) (by first | assumption | omega)) (c := 12) rfl (Or.inl r0) wl_X12_136 wi_X12_isPlayer wv_X12_X12_isPlayer_X12_isPlayer wk_X12_isPlayer wz_X12 md_X12_isPlayer rfl (Nat.le_of_ble_eq_true rfl) ⟨Nat.le_of_ble_eq_true rfl, Nat.le_of_ble_eq_true rfl, Nat.le_of_ble_eq_true rfl, Nat.le_of_ble_eq_true rfl⟩ rfl rfl rfl rfl (by decide) (ro_cons (Or.inl r0) (ro_cons (Or.inr ⟨0, rfl, by decide⟩) ro_nil)) dX12_row_2 (fun u hu => ?_)
  show V x cX12_row RX12 5 (rmU 2 43 0 0) [((ad 1), cn 0 936 f)] 5 [(0, ar h), (1, ai player), (2, ai k), (3, ai n)] [ai (if 0 ≤ player ∧ player ≤ (f 0) - 1 then 1 else 0)] 0 0
  refine v_ifb_eq (pc := 5) 17 dX12_row_5 (by decide) (fun c_1 => ?_) (fun c_1 => ?_)
  · skip
    refine v_iconst (pc := 17) dX12_row_17 ?_
    exact hret ((-1), f) _ _ _ _ _ _ (by (unfold qRow; (repeat' split) <;> first | rfl | (exfalso; omega))) (congrArg (fun z => some (ai z)) (by rfl)) rfl (Nat.le_of_ble_eq_true rfl) (Nat.le_of_ble_eq_true rfl) dX12_row_18
  · skip
    refine v_iload_n (pc := 8) 2 rfl dX12_row_8 ?_
    refine v_iconst (pc := 9) dX12_row_9 ?_
    refine v_iconst (pc := 10) dX12_row_10 ?_
    refine v_callS (pc := 11) [] [0] [((ad 1), cn 0 936 f)] (As := [ai k, ai 0, ai 3]) (rest := []) (c_X12_in k 0 3 (by first | assumption | omega) (by first | assumption | omega) (by first | assumption | omega)) wl_X12_41 ws_X12_in wk_X12_in wz_X12 md_X12_in rfl (Nat.le_of_ble_eq_true rfl) ⟨Nat.le_of_ble_eq_true rfl, Nat.le_of_ble_eq_true rfl, Nat.le_of_ble_eq_true rfl, Nat.le_of_ble_eq_true rfl⟩ rfl rfl rfl rfl (by decide) ro_nil dX12_row_11 (fun u hu => ?_)
    show V x cX12_row RX12 5 (rmU 2 43 0 0) [((ad 1), cn 0 936 f)] 14 [(0, ar h), (1, ai player), (2, ai k), (3, ai n)] [ai (if 0 ≤ k ∧ k ≤ 3 then 1 else 0)] 0 0
    refine v_ifb_ne (pc := 14) 19 dX12_row_14 (by decide) (fun c_2 => ?_) (fun c_2 => ?_)
    · skip
      have hf := hSp player (by omega) (by omega)
      obtain ⟨hp, hf1, hf2, hf3, hf4, hf5, hf6, hf7, hf8⟩ := id hf
      refine v_iload_n (pc := 19) 3 rfl dX12_row_19 ?_
      refine v_iconst (pc := 20) dX12_row_20 ?_
      refine v_bipush (pc := 21) dX12_row_21 (by decide) ?_
      refine v_callS (pc := 23) [] [0] [((ad 1), cn 0 936 f)] (As := [ai n, ai 0, ai 9]) (rest := []) (c_X12_in n 0 9 (by first | assumption | omega) (by first | assumption | omega) (by first | assumption | omega)) wl_X12_41 ws_X12_in wk_X12_in wz_X12 md_X12_in rfl (Nat.le_of_ble_eq_true rfl) ⟨Nat.le_of_ble_eq_true rfl, Nat.le_of_ble_eq_true rfl, Nat.le_of_ble_eq_true rfl, Nat.le_of_ble_eq_true rfl⟩ rfl rfl rfl rfl (by decide) ro_nil dX12_row_23 (fun u hu => ?_)
      show V x cX12_row RX12 5 (rmU 2 43 0 0) [((ad 1), cn 0 936 f)] 26 [(0, ar h), (1, ai player), (2, ai k), (3, ai n)] [ai (if 0 ≤ n ∧ n ≤ 9 then 1 else 0)] 0 0
      refine v_ifb_ne (pc := 26) 32 dX12_row_26 (by decide) (fun c_3 => ?_) (fun c_3 => ?_)
      · skip
        refine v_aload_n (pc := 32) 0 rfl dX12_row_32 ?_
        refine v_get (pc := 33) (v := ar (ad 1)) 1 (Or.inl r0) fl_12_9_12 rfl dX12_row_33 ?_
        refine v_bipush (pc := 36) dX12_row_36 (by decide) ?_
        refine v_iload_n (pc := 38) 1 rfl dX12_row_38 ?_
        refine v_iadd (pc := 39) dX12_row_39 ?_
        refine v_iald (pc := 40) (Or.inr ⟨0, rfl⟩) (by omega) (by omega) (by decide) dX12_row_40 ?_
        refine v_bipush (pc := 41) dX12_row_41 (by decide) ?_
        refine v_icmp_eq (pc := 43) 49 dX12_row_43 (by decide) (by unfold iB; omega) (by unfold iB; omega) (fun c_4 => ?_) (fun c_4 => ?_)
        · skip
          refine v_aload_n (pc := 49) 0 rfl dX12_row_49 ?_
          refine v_get (pc := 50) (v := ar (ad 1)) 1 (Or.inl r0) fl_12_9_12 rfl dX12_row_50 ?_
          refine v_bipush (pc := 53) dX12_row_53 (by decide) ?_
          refine v_iconst (pc := 55) dX12_row_55 ?_
          refine v_iload_n (pc := 56) 1 rfl dX12_row_56 ?_
          refine v_imul (pc := 57) dX12_row_57 ?_
          refine v_iadd (pc := 58) dX12_row_58 ?_
          refine v_iload_n (pc := 59) 2 rfl dX12_row_59 ?_
          refine v_iadd (pc := 60) dX12_row_60 ?_
          refine v_iald (pc := 61) (Or.inr ⟨0, rfl⟩) (by omega) (by omega) (by decide) dX12_row_61 ?_
          refine v_istore (pc := 62) (L2 := [(4, ai (f ((49 + (4 * player)) + k))), (0, ar h), (1, ai player), (2, ai k), (3, ai n)]) rfl (by decide) dX12_row_62 ?_
          refine v_aload_n (pc := 64) 1 rfl dX12_row_64 ?_
          refine v_get (pc := 65) (v := ar (ad 1)) 1 (Or.inl r0) fl_12_9_12 rfl dX12_row_65 ?_
          refine v_bipush (pc := 68) dX12_row_68 (by decide) ?_
          refine v_iconst (pc := 70) dX12_row_70 ?_
          refine v_iload_n (pc := 71) 2 rfl dX12_row_71 ?_
          refine v_imul (pc := 72) dX12_row_72 ?_
          refine v_iadd (pc := 73) dX12_row_73 ?_
          refine v_iload_n (pc := 74) 3 rfl dX12_row_74 ?_
          refine v_iadd (pc := 75) dX12_row_75 ?_
          refine v_iload_n (pc := 76) 4 rfl dX12_row_76 ?_
          refine v_iast (pc := 77) 0 rfl (by omega) (by omega) (by decide) (ws2 := [((ad 1), cn 0 936 (aup f ((49 + (4 * player)) + k) n))]) rfl dX12_row_77 ?_
          refine v_iload (pc := 78) 0 rfl dX12_row_78 ?_
          exact hret ((f ((49 + (4 * player)) + k)), (aup f ((49 + (4 * player)) + k) n)) _ _ _ _ _ _ (by (unfold qRow; (repeat' split) <;> first | rfl | (exfalso; omega))) (congrArg (fun z => some (ai z)) (by rfl)) rfl (Nat.le_of_ble_eq_true rfl) (Nat.le_of_ble_eq_true rfl) dX12_row_80
        · skip
          refine v_bipush (pc := 46) dX12_row_46 (by decide) ?_
          exact hret ((-3), f) _ _ _ _ _ _ (by (unfold qRow; (repeat' split) <;> first | rfl | (exfalso; omega))) (congrArg (fun z => some (ai z)) (by rfl)) rfl (Nat.le_of_ble_eq_true rfl) (Nat.le_of_ble_eq_true rfl) dX12_row_48
      · skip
        refine v_bipush (pc := 29) dX12_row_29 (by decide) ?_
        exact hret ((-2), f) _ _ _ _ _ _ (by (unfold qRow; (repeat' split) <;> first | rfl | (exfalso; omega))) (congrArg (fun z => some (ai z)) (by rfl)) rfl (Nat.le_of_ble_eq_true rfl) (Nat.le_of_ble_eq_true rfl) dX12_row_31
    · skip
      refine v_iconst (pc := 17) dX12_row_17 ?_
      exact hret ((-1), f) _ _ _ _ _ _ (by (unfold qRow; (repeat' split) <;> first | rfl | (exfalso; omega))) (congrArg (fun z => some (ai z)) (by rfl)) rfl (Nat.le_of_ble_eq_true rfl) (Nat.le_of_ble_eq_true rfl) dX12_row_18
set_option maxHeartbeats 4000000 in
set_option maxRecDepth 100000 in
theorem c_X12_feed {gS : sG} (ad : Nat → Nat) (v : Nat → Int) (h : Nat) (f : Int → Int) (sign : Int) (hS : SOK f) (hb_sign : -2147483648 ≤ sign ∧ sign < 2147483648) : Ct gS (S := Int × (Int → Int)) yX12_feed cX12_feed 2 (some .int) 1 22 0 0 [ar h, ai sign] [((ad 1), cn 0 936 f)] (fun q => q ∈ ([(h, co 12 (mO ad v))] : aW)) (fun u => (u.1, u.2) = qFeed f sign) (fun u => some (ai u.1)) (fun u => [((ad 1), cn 0 936 u.2)]) := by
  refine ct_I RX12 [(0, ar h), (1, ai sign)] (by decide) rfl (Nat.le_of_ble_eq_true rfl) rfl (fun x hgS hro hret => ?_)
  subst hgS
  have r0 := hro _ (mem_at 0 rfl)
  obtain ⟨hg, hSp, hSh, hSs, hSb, hSt, hwf⟩ := id hS
  obtain ⟨hg0, hg1, hg2, hg3, hg4, hg5, hg6, hg7⟩ := id hg
  show V x cX12_feed RX12 2 (rmU 1 22 0 0) [((ad 1), cn 0 936 f)] 0 [(0, ar h), (1, ai sign)] [] 0 0
  refine v_iload_n (pc := 0) 1 rfl dX12_feed_0 ?_
  refine v_iconst (pc := 1) dX12_feed_1 ?_
  refine v_bipush (pc := 2) dX12_feed_2 (by decide) ?_
  refine v_callS (pc := 4) [] [0] [((ad 1), cn 0 936 f)] (As := [ai sign, ai 0, ai 127]) (rest := []) (c_X12_in sign 0 127 (by first | assumption | omega) (by first | assumption | omega) (by first | assumption | omega)) wl_X12_41 ws_X12_in wk_X12_in wz_X12 md_X12_in rfl (Nat.le_of_ble_eq_true rfl) ⟨Nat.le_of_ble_eq_true rfl, Nat.le_of_ble_eq_true rfl, Nat.le_of_ble_eq_true rfl, Nat.le_of_ble_eq_true rfl⟩ rfl rfl rfl rfl (by decide) ro_nil dX12_feed_4 (fun u hu => ?_)
  show V x cX12_feed RX12 2 (rmU 1 22 0 0) [((ad 1), cn 0 936 f)] 7 [(0, ar h), (1, ai sign)] [ai (if 0 ≤ sign ∧ sign ≤ 127 then 1 else 0)] 0 0
  refine v_ifb_ne (pc := 7) 13 dX12_feed_7 (by decide) (fun c_1 => ?_) (fun c_1 => ?_)
  · skip
    refine v_aload_n (pc := 13) 0 rfl dX12_feed_13 ?_
    refine v_get (pc := 14) (v := ar (ad 1)) 1 (Or.inl r0) fl_12_9_12 rfl dX12_feed_14 ?_
    refine v_iconst (pc := 17) dX12_feed_17 ?_
    refine v_iald (pc := 18) (Or.inr ⟨0, rfl⟩) (by omega) (by omega) (by decide) dX12_feed_18 ?_
    refine v_bipush (pc := 19) dX12_feed_19 (by decide) ?_
    refine v_icmp_ne (pc := 21) 27 dX12_feed_21 (by decide) (by unfold iB; omega) (by unfold iB; omega) (fun c_2 => ?_) (fun c_2 => ?_)
    · skip
      refine v_aload_n (pc := 27) 0 rfl dX12_feed_27 ?_
      refine v_get (pc := 28) (v := ar (ad 1)) 1 (Or.inl r0) fl_12_9_12 rfl dX12_feed_28 ?_
      refine v_bipush (pc := 31) dX12_feed_31 (by decide) ?_
      refine v_aload_n (pc := 33) 0 rfl dX12_feed_33 ?_
      refine v_get (pc := 34) (v := ar (ad 1)) 1 (Or.inl r0) fl_12_9_12 rfl dX12_feed_34 ?_
      refine v_iconst (pc := 37) dX12_feed_37 ?_
      refine v_iald (pc := 38) (Or.inr ⟨0, rfl⟩) (by omega) (by omega) (by decide) dX12_feed_38 ?_
      refine v_iadd (pc := 39) dX12_feed_39 ?_
      refine v_iload_n (pc := 40) 1 rfl dX12_feed_40 ?_
      refine v_iast (pc := 41) 0 rfl (by omega) (by omega) (by decide) (ws2 := [((ad 1), cn 0 936 (aup f (121 + (f 4)) sign))]) rfl dX12_feed_41 ?_
      have e4 : aup f (121 + f 4) sign 4 = f 4 := aup_n _ _ (by omega)
      refine v_aload_n (pc := 42) 0 rfl dX12_feed_42 ?_
      refine v_get (pc := 43) (v := ar (ad 1)) 1 (Or.inl r0) fl_12_9_12 rfl dX12_feed_43 ?_
      refine v_iconst (pc := 46) dX12_feed_46 ?_
      refine v_dup2 (pc := 47) rfl rfl dX12_feed_47 ?_
      refine v_iald (pc := 48) (Or.inr ⟨0, rfl⟩) (by omega) (by omega) (by decide) dX12_feed_48 ?_
      refine v_eqi (y := f 4) e4 ?_
      refine v_iconst (pc := 49) dX12_feed_49 ?_
      refine v_iadd (pc := 50) dX12_feed_50 ?_
      refine v_iast (pc := 51) 0 rfl (by omega) (by omega) (by decide) (ws2 := [((ad 1), cn 0 936 (aup (aup f (121 + (f 4)) sign) 4 ((f 4) + 1)))]) rfl dX12_feed_51 ?_
      refine v_aload_n (pc := 52) 0 rfl dX12_feed_52 ?_
      refine v_get (pc := 53) (v := ar (ad 1)) 1 (Or.inl r0) fl_12_9_12 rfl dX12_feed_53 ?_
      refine v_iconst (pc := 56) dX12_feed_56 ?_
      refine v_iald (pc := 57) (Or.inr ⟨0, rfl⟩) (by omega) (by omega) (by decide) dX12_feed_57 ?_
      refine v_eqi (y := f 4 + 1) (aup_s _ _ _) ?_
      exact hret ((f 4 + 1), (aup (aup f (121 + (f 4)) sign) 4 ((f 4) + 1))) _ _ _ _ _ _ (by (unfold qFeed; (repeat' split) <;> first | rfl | (exfalso; omega))) (congrArg (fun z => some (ai z)) (by rfl)) rfl (Nat.le_of_ble_eq_true rfl) (Nat.le_of_ble_eq_true rfl) dX12_feed_58
    · skip
      refine v_bipush (pc := 24) dX12_feed_24 (by decide) ?_
      exact hret ((-4), f) _ _ _ _ _ _ (by (unfold qFeed; (repeat' split) <;> first | rfl | (exfalso; omega))) (congrArg (fun z => some (ai z)) (by rfl)) rfl (Nat.le_of_ble_eq_true rfl) (Nat.le_of_ble_eq_true rfl) dX12_feed_26
  · skip
    refine v_bipush (pc := 10) dX12_feed_10 (by decide) ?_
    exact hret ((-2), f) _ _ _ _ _ _ (by (unfold qFeed; (repeat' split) <;> first | rfl | (exfalso; omega))) (congrArg (fun z => some (ai z)) (by rfl)) rfl (Nat.le_of_ble_eq_true rfl) (Nat.le_of_ble_eq_true rfl) dX12_feed_12
set_option maxHeartbeats 4000000 in
set_option maxRecDepth 100000 in
theorem c_X12_see {gS : sG} (ad : Nat → Nat) (v : Nat → Int) (h : Nat) (f : Int → Int) (player : Int) (n : Int) (force : Int) (caught : Int) (hS : SOK f) (hb_player : -2147483648 ≤ player ∧ player < 2147483648) (hb_n : -2147483648 ≤ n ∧ n < 2147483648) (hb_force : -2147483648 ≤ force ∧ force < 2147483648) (hb_caught : -2147483648 ≤ caught ∧ caught < 2147483648) : Ct gS (S := Int × (Int → Int)) yX12_see cX12_see 5 (some .int) 2 43 0 0 [ar h, ai player, ai n, ai force, ai caught] [((ad 1), cn 0 936 f)] (fun q => q ∈ ([(h, co 12 (mO ad v))] : aW)) (fun u => (u.1, u.2) = qSee f player n force caught) (fun u => some (ai u.1)) (fun u => [((ad 1), cn 0 936 u.2)]) := by
  refine ct_I RX12 [(0, ar h), (1, ai player), (2, ai n), (3, ai force), (4, ai caught)] (by decide) rfl (Nat.le_of_ble_eq_true rfl) rfl (fun x hgS hro hret => ?_)
  subst hgS
  have r0 := hro _ (mem_at 0 rfl)
  obtain ⟨hg, hSp, hSh, hSs, hSb, hSt, hwf⟩ := id hS
  obtain ⟨hg0, hg1, hg2, hg3, hg4, hg5, hg6, hg7⟩ := id hg
  show V x cX12_see RX12 5 (rmU 2 43 0 0) [((ad 1), cn 0 936 f)] 0 [(0, ar h), (1, ai player), (2, ai n), (3, ai force), (4, ai caught)] [] 0 0
  refine v_iload_n (pc := 0) 1 rfl dX12_see_0 ?_
  refine v_iconst (pc := 1) dX12_see_1 ?_
  refine v_icmp_ne (pc := 2) 14 dX12_see_2 (by decide) (by unfold iB; omega) (by unfold iB; omega) (fun c_1 => ?_) (fun c_1 => ?_)
  · skip
    refine v_aload_n (pc := 14) 0 rfl dX12_see_14 ?_
    refine v_iload_n (pc := 15) 1 rfl dX12_see_15 ?_
    refine v_callV (pc := 16) [] [0] [((ad 1), cn 0 936 f)] (As := [ai player]) (rest := []) (c_X12_isPlayer ad v h f player (by first | assumption | omega) (by first | assumption | omega)) (c := 12) rfl (Or.inl r0) wl_X12_136 wi_X12_isPlayer wv_X12_X12_isPlayer_X12_isPlayer wk_X12_isPlayer wz_X12 md_X12_isPlayer rfl (Nat.le_of_ble_eq_true rfl) ⟨Nat.le_of_ble_eq_true rfl, Nat.le_of_ble_eq_true rfl, Nat.le_of_ble_eq_true rfl, Nat.le_of_ble_eq_true rfl⟩ rfl rfl rfl rfl (by decide) (ro_cons (Or.inl r0) (ro_cons (Or.inr ⟨0, rfl, by decide⟩) ro_nil)) dX12_see_16 (fun u hu => ?_)
    show V x cX12_see RX12 5 (rmU 2 43 0 0) [((ad 1), cn 0 936 f)] 19 [(0, ar h), (1, ai player), (2, ai n), (3, ai force), (4, ai caught)] [ai (if 0 ≤ player ∧ player ≤ (f 0) - 1 then 1 else 0)] 0 0
    refine v_ifb_ne (pc := 19) 24 dX12_see_19 (by decide) (fun c_2 => ?_) (fun c_2 => ?_)
    · skip
      refine v_iload_n (pc := 24) 2 rfl dX12_see_24 ?_
      refine v_iload_n (pc := 25) 3 rfl dX12_see_25 ?_
      refine v_callS (pc := 26) [] [0] [((ad 1), cn 0 936 f)] (As := [ai n, ai force]) (rest := []) (c_X12_isPile n force (by first | assumption | omega) (by first | assumption | omega)) wl_X12_148 ws_X12_isPile wk_X12_isPile wz_X12 md_X12_isPile rfl (Nat.le_of_ble_eq_true rfl) ⟨Nat.le_of_ble_eq_true rfl, Nat.le_of_ble_eq_true rfl, Nat.le_of_ble_eq_true rfl, Nat.le_of_ble_eq_true rfl⟩ rfl rfl rfl rfl (by decide) ro_nil dX12_see_26 (fun u hu => ?_)
      show V x cX12_see RX12 5 (rmU 2 43 0 0) [((ad 1), cn 0 936 f)] 29 [(0, ar h), (1, ai player), (2, ai n), (3, ai force), (4, ai caught)] [ai (if (1 ≤ n ∧ n ≤ 99) ∧ (0 ≤ force ∧ force ≤ 20) then 1 else 0)] 0 0
      refine v_ifb_eq (pc := 29) 43 dX12_see_29 (by decide) (fun c_3 => ?_) (fun c_3 => ?_)
      · skip
        refine v_bipush (pc := 43) dX12_see_43 (by decide) ?_
        exact hret ((-2), f) _ _ _ _ _ _ (by (unfold qSee; (repeat' split) <;> first | rfl | (exfalso; omega))) (congrArg (fun z => some (ai z)) (by rfl)) rfl (Nat.le_of_ble_eq_true rfl) (Nat.le_of_ble_eq_true rfl) dX12_see_45
      · skip
        refine v_iload (pc := 32) 4 rfl dX12_see_32 ?_
        refine v_iconst (pc := 34) dX12_see_34 ?_
        refine v_bipush (pc := 35) dX12_see_35 (by decide) ?_
        refine v_callS (pc := 37) [] [0] [((ad 1), cn 0 936 f)] (As := [ai caught, ai 0, ai 99]) (rest := []) (c_X12_in caught 0 99 (by first | assumption | omega) (by first | assumption | omega) (by first | assumption | omega)) wl_X12_41 ws_X12_in wk_X12_in wz_X12 md_X12_in rfl (Nat.le_of_ble_eq_true rfl) ⟨Nat.le_of_ble_eq_true rfl, Nat.le_of_ble_eq_true rfl, Nat.le_of_ble_eq_true rfl, Nat.le_of_ble_eq_true rfl⟩ rfl rfl rfl rfl (by decide) ro_nil dX12_see_37 (fun u hu => ?_)
        show V x cX12_see RX12 5 (rmU 2 43 0 0) [((ad 1), cn 0 936 f)] 40 [(0, ar h), (1, ai player), (2, ai n), (3, ai force), (4, ai caught)] [ai (if 0 ≤ caught ∧ caught ≤ 99 then 1 else 0)] 0 0
        refine v_ifb_ne (pc := 40) 46 dX12_see_40 (by decide) (fun c_4 => ?_) (fun c_4 => ?_)
        · skip
          refine v_aload_n (pc := 46) 0 rfl dX12_see_46 ?_
          refine v_get (pc := 47) (v := ar (ad 1)) 1 (Or.inl r0) fl_12_9_12 rfl dX12_see_47 ?_
          refine v_iconst (pc := 50) dX12_see_50 ?_
          refine v_iald (pc := 51) (Or.inr ⟨0, rfl⟩) (by omega) (by omega) (by decide) dX12_see_51 ?_
          refine v_bipush (pc := 52) dX12_see_52 (by decide) ?_
          refine v_icmp_ne (pc := 54) 60 dX12_see_54 (by decide) (by unfold iB; omega) (by unfold iB; omega) (fun c_5 => ?_) (fun c_5 => ?_)
          · skip
            refine v_aload_n (pc := 60) 0 rfl dX12_see_60 ?_
            refine v_get (pc := 61) (v := ar (ad 1)) 1 (Or.inl r0) fl_12_9_12 rfl dX12_see_61 ?_
            refine v_bipush (pc := 64) dX12_see_64 (by decide) ?_
            refine v_aload_n (pc := 66) 0 rfl dX12_see_66 ?_
            refine v_get (pc := 67) (v := ar (ad 1)) 1 (Or.inl r0) fl_12_9_12 rfl dX12_see_67 ?_
            refine v_iconst (pc := 70) dX12_see_70 ?_
            refine v_iald (pc := 71) (Or.inr ⟨0, rfl⟩) (by omega) (by omega) (by decide) dX12_see_71 ?_
            refine v_iadd (pc := 72) dX12_see_72 ?_
            refine v_iload_n (pc := 73) 1 rfl dX12_see_73 ?_
            refine v_iast (pc := 74) 0 rfl (by omega) (by omega) (by decide) (ws2 := [((ad 1), cn 0 936 (aup f (73 + (f 2)) player))]) rfl dX12_see_74 ?_
            have e2a : aup f (73 + f 2) player 2 = f 2 := aup_n _ _ (by omega)
            refine v_aload_n (pc := 75) 0 rfl dX12_see_75 ?_
            refine v_get (pc := 76) (v := ar (ad 1)) 1 (Or.inl r0) fl_12_9_12 rfl dX12_see_76 ?_
            refine v_bipush (pc := 79) dX12_see_79 (by decide) ?_
            refine v_aload_n (pc := 81) 0 rfl dX12_see_81 ?_
            refine v_get (pc := 82) (v := ar (ad 1)) 1 (Or.inl r0) fl_12_9_12 rfl dX12_see_82 ?_
            refine v_iconst (pc := 85) dX12_see_85 ?_
            refine v_iald (pc := 86) (Or.inr ⟨0, rfl⟩) (by omega) (by omega) (by decide) dX12_see_86 ?_
            refine v_eqi (y := f 2) e2a ?_
            refine v_iadd (pc := 87) dX12_see_87 ?_
            refine v_iload_n (pc := 88) 2 rfl dX12_see_88 ?_
            refine v_iast (pc := 89) 0 rfl (by omega) (by omega) (by decide) (ws2 := [((ad 1), cn 0 936 (aup (aup f (73 + (f 2)) player) (81 + (f 2)) n))]) rfl dX12_see_89 ?_
            have e2b : aup (aup f (73 + f 2) player) (81 + f 2) n 2 = f 2 := (aup_n _ _ (by omega)).trans e2a
            refine v_aload_n (pc := 90) 0 rfl dX12_see_90 ?_
            refine v_get (pc := 91) (v := ar (ad 1)) 1 (Or.inl r0) fl_12_9_12 rfl dX12_see_91 ?_
            refine v_bipush (pc := 94) dX12_see_94 (by decide) ?_
            refine v_aload_n (pc := 96) 0 rfl dX12_see_96 ?_
            refine v_get (pc := 97) (v := ar (ad 1)) 1 (Or.inl r0) fl_12_9_12 rfl dX12_see_97 ?_
            refine v_iconst (pc := 100) dX12_see_100 ?_
            refine v_iald (pc := 101) (Or.inr ⟨0, rfl⟩) (by omega) (by omega) (by decide) dX12_see_101 ?_
            refine v_eqi (y := f 2) e2b ?_
            refine v_iadd (pc := 102) dX12_see_102 ?_
            refine v_iload_n (pc := 103) 3 rfl dX12_see_103 ?_
            refine v_iast (pc := 104) 0 rfl (by omega) (by omega) (by decide) (ws2 := [((ad 1), cn 0 936 (aup (aup (aup f (73 + (f 2)) player) (81 + (f 2)) n) (89 + (f 2)) force))]) rfl dX12_see_104 ?_
            have e2c : aup (aup (aup f (73 + f 2) player) (81 + f 2) n) (89 + f 2) force 2 = f 2 := (aup_n _ _ (by omega)).trans e2b
            refine v_aload_n (pc := 105) 0 rfl dX12_see_105 ?_
            refine v_get (pc := 106) (v := ar (ad 1)) 1 (Or.inl r0) fl_12_9_12 rfl dX12_see_106 ?_
            refine v_bipush (pc := 109) dX12_see_109 (by decide) ?_
            refine v_aload_n (pc := 111) 0 rfl dX12_see_111 ?_
            refine v_get (pc := 112) (v := ar (ad 1)) 1 (Or.inl r0) fl_12_9_12 rfl dX12_see_112 ?_
            refine v_iconst (pc := 115) dX12_see_115 ?_
            refine v_iald (pc := 116) (Or.inr ⟨0, rfl⟩) (by omega) (by omega) (by decide) dX12_see_116 ?_
            refine v_eqi (y := f 2) e2c ?_
            refine v_iadd (pc := 117) dX12_see_117 ?_
            refine v_iload (pc := 118) 4 rfl dX12_see_118 ?_
            refine v_iast (pc := 120) 0 rfl (by omega) (by omega) (by decide) (ws2 := [((ad 1), cn 0 936 (aup (aup (aup (aup f (73 + (f 2)) player) (81 + (f 2)) n) (89 + (f 2)) force) (97 + (f 2)) caught))]) rfl dX12_see_120 ?_
            have e2d : aup (aup (aup (aup f (73 + f 2) player) (81 + f 2) n) (89 + f 2) force) (97 + f 2) caught 2 = f 2 := (aup_n _ _ (by omega)).trans e2c
            refine v_aload_n (pc := 121) 0 rfl dX12_see_121 ?_
            refine v_get (pc := 122) (v := ar (ad 1)) 1 (Or.inl r0) fl_12_9_12 rfl dX12_see_122 ?_
            refine v_iconst (pc := 125) dX12_see_125 ?_
            refine v_dup2 (pc := 126) rfl rfl dX12_see_126 ?_
            refine v_iald (pc := 127) (Or.inr ⟨0, rfl⟩) (by omega) (by omega) (by decide) dX12_see_127 ?_
            refine v_eqi (y := f 2) e2d ?_
            refine v_iconst (pc := 128) dX12_see_128 ?_
            refine v_iadd (pc := 129) dX12_see_129 ?_
            refine v_iast (pc := 130) 0 rfl (by omega) (by omega) (by decide) (ws2 := [((ad 1), cn 0 936 (aup (aup (aup (aup (aup f (73 + (f 2)) player) (81 + (f 2)) n) (89 + (f 2)) force) (97 + (f 2)) caught) 2 ((f 2) + 1)))]) rfl dX12_see_130 ?_
            refine v_aload_n (pc := 131) 0 rfl dX12_see_131 ?_
            refine v_get (pc := 132) (v := ar (ad 1)) 1 (Or.inl r0) fl_12_9_12 rfl dX12_see_132 ?_
            refine v_iconst (pc := 135) dX12_see_135 ?_
            refine v_iald (pc := 136) (Or.inr ⟨0, rfl⟩) (by omega) (by omega) (by decide) dX12_see_136 ?_
            refine v_eqi (y := f 2 + 1) (aup_s _ _ _) ?_
            exact hret ((f 2 + 1), (aup (aup (aup (aup (aup f (73 + (f 2)) player) (81 + (f 2)) n) (89 + (f 2)) force) (97 + (f 2)) caught) 2 ((f 2) + 1))) _ _ _ _ _ _ (by (unfold qSee; (repeat' split) <;> first | rfl | (exfalso; omega))) (congrArg (fun z => some (ai z)) (by rfl)) rfl (Nat.le_of_ble_eq_true rfl) (Nat.le_of_ble_eq_true rfl) dX12_see_137
          · skip
            refine v_bipush (pc := 57) dX12_see_57 (by decide) ?_
            exact hret ((-4), f) _ _ _ _ _ _ (by (unfold qSee; (repeat' split) <;> first | rfl | (exfalso; omega))) (congrArg (fun z => some (ai z)) (by rfl)) rfl (Nat.le_of_ble_eq_true rfl) (Nat.le_of_ble_eq_true rfl) dX12_see_59
        · skip
          refine v_bipush (pc := 43) dX12_see_43 (by decide) ?_
          exact hret ((-2), f) _ _ _ _ _ _ (by (unfold qSee; (repeat' split) <;> first | rfl | (exfalso; omega))) (congrArg (fun z => some (ai z)) (by rfl)) rfl (Nat.le_of_ble_eq_true rfl) (Nat.le_of_ble_eq_true rfl) dX12_see_45
    · skip
      refine v_iconst (pc := 22) dX12_see_22 ?_
      exact hret ((-1), f) _ _ _ _ _ _ (by (unfold qSee; (repeat' split) <;> first | rfl | (exfalso; omega))) (congrArg (fun z => some (ai z)) (by rfl)) rfl (Nat.le_of_ble_eq_true rfl) (Nat.le_of_ble_eq_true rfl) dX12_see_23
  · skip
    refine v_aload_n (pc := 5) 0 rfl dX12_see_5 ?_
    refine v_get (pc := 6) (v := ar (ad 1)) 1 (Or.inl r0) fl_12_9_12 rfl dX12_see_6 ?_
    refine v_iconst (pc := 9) dX12_see_9 ?_
    refine v_iconst (pc := 10) dX12_see_10 ?_
    refine v_iast (pc := 11) 0 rfl (by omega) (by omega) (by decide) (ws2 := [((ad 1), cn 0 936 (aup f 2 0))]) rfl dX12_see_11 ?_
    refine v_iconst (pc := 12) dX12_see_12 ?_
    exact hret (0, (aup f 2 0)) _ _ _ _ _ _ (by (unfold qSee; (repeat' split) <;> first | rfl | (exfalso; omega))) (congrArg (fun z => some (ai z)) (by rfl)) rfl (Nat.le_of_ble_eq_true rfl) (Nat.le_of_ble_eq_true rfl) dX12_see_13
set_option maxHeartbeats 4000000 in
set_option maxRecDepth 100000 in
theorem c_X12_book {gS : sG} (ad : Nat → Nat) (v : Nat → Int) (h : Nat) (f : Int → Int) (player : Int) (most : Int) (hS : SOK f) (hb_player : -2147483648 ≤ player ∧ player < 2147483648) (hb_most : -2147483648 ≤ most ∧ most < 2147483648) : Ct gS (S := Int × (Int → Int)) yX12_book cX12_book 3 (some .int) 2 43 0 0 [ar h, ai player, ai most] [((ad 1), cn 0 936 f)] (fun q => q ∈ ([(h, co 12 (mO ad v))] : aW)) (fun u => (u.1, u.2) = qBook f player most) (fun u => some (ai u.1)) (fun u => [((ad 1), cn 0 936 u.2)]) := by
  refine ct_I RX12 [(0, ar h), (1, ai player), (2, ai most)] (by decide) rfl (Nat.le_of_ble_eq_true rfl) rfl (fun x hgS hro hret => ?_)
  subst hgS
  have r0 := hro _ (mem_at 0 rfl)
  obtain ⟨hg, hSp, hSh, hSs, hSb, hSt, hwf⟩ := id hS
  obtain ⟨hg0, hg1, hg2, hg3, hg4, hg5, hg6, hg7⟩ := id hg
  show V x cX12_book RX12 3 (rmU 2 43 0 0) [((ad 1), cn 0 936 f)] 0 [(0, ar h), (1, ai player), (2, ai most)] [] 0 0
  refine v_iload_n (pc := 0) 1 rfl dX12_book_0 ?_
  refine v_iconst (pc := 1) dX12_book_1 ?_
  refine v_icmp_ne (pc := 2) 14 dX12_book_2 (by decide) (by unfold iB; omega) (by unfold iB; omega) (fun c_1 => ?_) (fun c_1 => ?_)
  · skip
    refine v_aload_n (pc := 14) 0 rfl dX12_book_14 ?_
    refine v_iload_n (pc := 15) 1 rfl dX12_book_15 ?_
    refine v_callV (pc := 16) [] [0] [((ad 1), cn 0 936 f)] (As := [ai player]) (rest := []) (c_X12_isPlayer ad v h f player (by first | assumption | omega) (by first | assumption | omega)) (c := 12) rfl (Or.inl r0) wl_X12_136 wi_X12_isPlayer wv_X12_X12_isPlayer_X12_isPlayer wk_X12_isPlayer wz_X12 md_X12_isPlayer rfl (Nat.le_of_ble_eq_true rfl) ⟨Nat.le_of_ble_eq_true rfl, Nat.le_of_ble_eq_true rfl, Nat.le_of_ble_eq_true rfl, Nat.le_of_ble_eq_true rfl⟩ rfl rfl rfl rfl (by decide) (ro_cons (Or.inl r0) (ro_cons (Or.inr ⟨0, rfl, by decide⟩) ro_nil)) dX12_book_16 (fun u hu => ?_)
    show V x cX12_book RX12 3 (rmU 2 43 0 0) [((ad 1), cn 0 936 f)] 19 [(0, ar h), (1, ai player), (2, ai most)] [ai (if 0 ≤ player ∧ player ≤ (f 0) - 1 then 1 else 0)] 0 0
    refine v_ifb_ne (pc := 19) 24 dX12_book_19 (by decide) (fun c_2 => ?_) (fun c_2 => ?_)
    · skip
      refine v_iload_n (pc := 24) 2 rfl dX12_book_24 ?_
      refine v_iconst (pc := 25) dX12_book_25 ?_
      refine v_bipush (pc := 26) dX12_book_26 (by decide) ?_
      refine v_callS (pc := 28) [] [0] [((ad 1), cn 0 936 f)] (As := [ai most, ai 0, ai 99]) (rest := []) (c_X12_in most 0 99 (by first | assumption | omega) (by first | assumption | omega) (by first | assumption | omega)) wl_X12_41 ws_X12_in wk_X12_in wz_X12 md_X12_in rfl (Nat.le_of_ble_eq_true rfl) ⟨Nat.le_of_ble_eq_true rfl, Nat.le_of_ble_eq_true rfl, Nat.le_of_ble_eq_true rfl, Nat.le_of_ble_eq_true rfl⟩ rfl rfl rfl rfl (by decide) ro_nil dX12_book_28 (fun u hu => ?_)
      show V x cX12_book RX12 3 (rmU 2 43 0 0) [((ad 1), cn 0 936 f)] 31 [(0, ar h), (1, ai player), (2, ai most)] [ai (if 0 ≤ most ∧ most ≤ 99 then 1 else 0)] 0 0
      refine v_ifb_ne (pc := 31) 37 dX12_book_31 (by decide) (fun c_3 => ?_) (fun c_3 => ?_)
      · skip
        refine v_aload_n (pc := 37) 0 rfl dX12_book_37 ?_
        refine v_get (pc := 38) (v := ar (ad 1)) 1 (Or.inl r0) fl_12_9_12 rfl dX12_book_38 ?_
        refine v_iconst (pc := 41) dX12_book_41 ?_
        refine v_iald (pc := 42) (Or.inr ⟨0, rfl⟩) (by omega) (by omega) (by decide) dX12_book_42 ?_
        refine v_bipush (pc := 43) dX12_book_43 (by decide) ?_
        refine v_icmp_ne (pc := 45) 51 dX12_book_45 (by decide) (by unfold iB; omega) (by unfold iB; omega) (fun c_4 => ?_) (fun c_4 => ?_)
        · skip
          refine v_aload_n (pc := 51) 0 rfl dX12_book_51 ?_
          refine v_get (pc := 52) (v := ar (ad 1)) 1 (Or.inl r0) fl_12_9_12 rfl dX12_book_52 ?_
          refine v_bipush (pc := 55) dX12_book_55 (by decide) ?_
          refine v_aload_n (pc := 57) 0 rfl dX12_book_57 ?_
          refine v_get (pc := 58) (v := ar (ad 1)) 1 (Or.inl r0) fl_12_9_12 rfl dX12_book_58 ?_
          refine v_iconst (pc := 61) dX12_book_61 ?_
          refine v_iald (pc := 62) (Or.inr ⟨0, rfl⟩) (by omega) (by omega) (by decide) dX12_book_62 ?_
          refine v_iadd (pc := 63) dX12_book_63 ?_
          refine v_iload_n (pc := 64) 1 rfl dX12_book_64 ?_
          refine v_iast (pc := 65) 0 rfl (by omega) (by omega) (by decide) (ws2 := [((ad 1), cn 0 936 (aup f (105 + (f 3)) player))]) rfl dX12_book_65 ?_
          have e3a : aup f (105 + f 3) player 3 = f 3 := aup_n _ _ (by omega)
          refine v_aload_n (pc := 66) 0 rfl dX12_book_66 ?_
          refine v_get (pc := 67) (v := ar (ad 1)) 1 (Or.inl r0) fl_12_9_12 rfl dX12_book_67 ?_
          refine v_bipush (pc := 70) dX12_book_70 (by decide) ?_
          refine v_aload_n (pc := 72) 0 rfl dX12_book_72 ?_
          refine v_get (pc := 73) (v := ar (ad 1)) 1 (Or.inl r0) fl_12_9_12 rfl dX12_book_73 ?_
          refine v_iconst (pc := 76) dX12_book_76 ?_
          refine v_iald (pc := 77) (Or.inr ⟨0, rfl⟩) (by omega) (by omega) (by decide) dX12_book_77 ?_
          refine v_eqi (y := f 3) e3a ?_
          refine v_iadd (pc := 78) dX12_book_78 ?_
          refine v_iload_n (pc := 79) 2 rfl dX12_book_79 ?_
          refine v_iast (pc := 80) 0 rfl (by omega) (by omega) (by decide) (ws2 := [((ad 1), cn 0 936 (aup (aup f (105 + (f 3)) player) (113 + (f 3)) most))]) rfl dX12_book_80 ?_
          have e3b : aup (aup f (105 + f 3) player) (113 + f 3) most 3 = f 3 := (aup_n _ _ (by omega)).trans e3a
          refine v_aload_n (pc := 81) 0 rfl dX12_book_81 ?_
          refine v_get (pc := 82) (v := ar (ad 1)) 1 (Or.inl r0) fl_12_9_12 rfl dX12_book_82 ?_
          refine v_iconst (pc := 85) dX12_book_85 ?_
          refine v_dup2 (pc := 86) rfl rfl dX12_book_86 ?_
          refine v_iald (pc := 87) (Or.inr ⟨0, rfl⟩) (by omega) (by omega) (by decide) dX12_book_87 ?_
          refine v_eqi (y := f 3) e3b ?_
          refine v_iconst (pc := 88) dX12_book_88 ?_
          refine v_iadd (pc := 89) dX12_book_89 ?_
          refine v_iast (pc := 90) 0 rfl (by omega) (by omega) (by decide) (ws2 := [((ad 1), cn 0 936 (aup (aup (aup f (105 + (f 3)) player) (113 + (f 3)) most) 3 ((f 3) + 1)))]) rfl dX12_book_90 ?_
          refine v_aload_n (pc := 91) 0 rfl dX12_book_91 ?_
          refine v_get (pc := 92) (v := ar (ad 1)) 1 (Or.inl r0) fl_12_9_12 rfl dX12_book_92 ?_
          refine v_iconst (pc := 95) dX12_book_95 ?_
          refine v_iald (pc := 96) (Or.inr ⟨0, rfl⟩) (by omega) (by omega) (by decide) dX12_book_96 ?_
          refine v_eqi (y := f 3 + 1) (aup_s _ _ _) ?_
          exact hret ((f 3 + 1), (aup (aup (aup f (105 + (f 3)) player) (113 + (f 3)) most) 3 ((f 3) + 1))) _ _ _ _ _ _ (by (unfold qBook; (repeat' split) <;> first | rfl | (exfalso; omega))) (congrArg (fun z => some (ai z)) (by rfl)) rfl (Nat.le_of_ble_eq_true rfl) (Nat.le_of_ble_eq_true rfl) dX12_book_97
        · skip
          refine v_bipush (pc := 48) dX12_book_48 (by decide) ?_
          exact hret ((-4), f) _ _ _ _ _ _ (by (unfold qBook; (repeat' split) <;> first | rfl | (exfalso; omega))) (congrArg (fun z => some (ai z)) (by rfl)) rfl (Nat.le_of_ble_eq_true rfl) (Nat.le_of_ble_eq_true rfl) dX12_book_50
      · skip
        refine v_bipush (pc := 34) dX12_book_34 (by decide) ?_
        exact hret ((-2), f) _ _ _ _ _ _ (by (unfold qBook; (repeat' split) <;> first | rfl | (exfalso; omega))) (congrArg (fun z => some (ai z)) (by rfl)) rfl (Nat.le_of_ble_eq_true rfl) (Nat.le_of_ble_eq_true rfl) dX12_book_36
    · skip
      refine v_iconst (pc := 22) dX12_book_22 ?_
      exact hret ((-1), f) _ _ _ _ _ _ (by (unfold qBook; (repeat' split) <;> first | rfl | (exfalso; omega))) (congrArg (fun z => some (ai z)) (by rfl)) rfl (Nat.le_of_ble_eq_true rfl) (Nat.le_of_ble_eq_true rfl) dX12_book_23
  · skip
    refine v_aload_n (pc := 5) 0 rfl dX12_book_5 ?_
    refine v_get (pc := 6) (v := ar (ad 1)) 1 (Or.inl r0) fl_12_9_12 rfl dX12_book_6 ?_
    refine v_iconst (pc := 9) dX12_book_9 ?_
    refine v_iconst (pc := 10) dX12_book_10 ?_
    refine v_iast (pc := 11) 0 rfl (by omega) (by omega) (by decide) (ws2 := [((ad 1), cn 0 936 (aup f 3 0))]) rfl dX12_book_11 ?_
    refine v_iconst (pc := 12) dX12_book_12 ?_
    exact hret (0, (aup f 3 0)) _ _ _ _ _ _ (by (unfold qBook; (repeat' split) <;> first | rfl | (exfalso; omega))) (congrArg (fun z => some (ai z)) (by rfl)) rfl (Nat.le_of_ble_eq_true rfl) (Nat.le_of_ble_eq_true rfl) dX12_book_13
