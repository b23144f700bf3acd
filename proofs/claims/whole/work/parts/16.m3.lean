set_option maxHeartbeats 4000000 in
set_option maxRecDepth 100000 in
theorem c_X12_opensBy {gS : sG} (ad : Nat → Nat) (v : Nat → Int) (h : Nat) (f : Int → Int) (by0 : Int → Int) (tr0 : Int → Int) (p : Int) (n : Int) (more : Int) (hf : PF f p) (hg : GF f) (hn : 0 ≤ n ∧ n ≤ 99) (hwf : wfS 0 (SL f)) (hm : 0 ≤ more ∧ more ≤ 99) : Ct gS (S := (Nat → Int) × (Int → Int) × (Int → Int)) yX12_opensBy cX12_opensBy 5 (some .int) 2 52 0 0 [ar h, ai p, ai n, ai more] [(h, co 12 (mO ad v)), ((ad 9), cn 0 6 by0), ((ad 10), cn 1 64 tr0)] (fun q => q ∈ ([((ad 1), cn 0 936 f)] : aW)) (fun u => vK v u.1 ∧ u.1 13 = v 13 ∧ u.1 15 = v 15) (fun u => some (ai (kOp f p n more))) (fun u => [(h, co 12 (mO ad u.1)), ((ad 9), cn 0 6 u.2.1), ((ad 10), cn 1 64 u.2.2)]) := by
  refine ct_I RX12 [(0, ar h), (1, ai p), (2, ai n), (3, ai more)] (by decide) rfl (Nat.le_of_ble_eq_true rfl) rfl (fun x hgS hro hret => ?_)
  subst hgS
  have r0 := hro _ (mem_at 0 rfl)
  obtain ⟨hp, hf1, hf2, hf3, hf4, hf5, hf6, hf7, hf8⟩ := id hf
  obtain ⟨hg0, hg1, hg2, hg3, hg4, hg5, hg6, hg7⟩ := id hg
  have hsb := kSl_b (p := p) (n := n) hwf hg
  show V x cX12_opensBy RX12 5 (rmU 2 52 0 0) [(h, co 12 (mO ad v)), ((ad 9), cn 0 6 by0), ((ad 10), cn 1 64 tr0)] 0 [(0, ar h), (1, ai p), (2, ai n), (3, ai more)] [] 0 0
  refine v_aload_n (pc := 0) 0 rfl dX12_opensBy_0 ?_
  refine v_iload_n (pc := 1) 1 rfl dX12_opensBy_1 ?_
  refine v_iload_n (pc := 2) 2 rfl dX12_opensBy_2 ?_
  refine v_callV (pc := 3) [0, 1, 2] [] [] (As := [ai p, ai n]) (rest := []) (c_X12_looks ad v h f by0 tr0 p n (by first | assumption | omega) (by first | assumption | omega) (by first | assumption | omega) (by first | assumption | omega)) (c := 12) rfl (Or.inr ⟨0, rfl⟩) wl_X12_144 wi_X12_looks wv_X12_X12_looks_X12_looks wk_X12_looks wz_X12 md_X12_looks rfl (Nat.le_of_ble_eq_true rfl) ⟨Nat.le_of_ble_eq_true rfl, Nat.le_of_ble_eq_true rfl, Nat.le_of_ble_eq_true rfl, Nat.le_of_ble_eq_true rfl⟩ rfl rfl rfl rfl (by decide) (ro_cons (Or.inl r0) ro_nil) dX12_opensBy_3 (fun u hu => ?_)
  obtain ⟨v2_1, by2_2, tr2_3⟩ := u
  have g_4 : (vK v v2_1 ∧ v2_1 13 = v 13 ∧ v2_1 15 = v 15) ∧ v2_1 11 = kSl f p n ∧ v2_1 12 = kGl f p n := hu
  show V x cX12_opensBy RX12 5 (rmU 2 52 0 0) [(h, co 12 (mO ad v2_1)), ((ad 9), cn 0 6 by2_2), ((ad 10), cn 1 64 tr2_3)] 6 [(0, ar h), (1, ai p), (2, ai n), (3, ai more)] [] 0 0
  have hkeep := g_4.1
  have hs1 := g_4.2.1
  have hs2 := g_4.2.2
  refine v_iload_n (pc := 6) 2 rfl dX12_opensBy_6 ?_
  refine v_aload_n (pc := 7) 0 rfl dX12_opensBy_7 ?_
  refine v_get (pc := 8) (v := ai (v2_1 11)) 11 (Or.inr ⟨0, rfl⟩) fl_12_123_12 rfl dX12_opensBy_8 ?_
  refine v_iadd (pc := 11) dX12_opensBy_11 ?_
  refine v_aload_n (pc := 12) 0 rfl dX12_opensBy_12 ?_
  refine v_get (pc := 13) (v := ai (v2_1 12)) 12 (Or.inr ⟨0, rfl⟩) fl_12_126_12 rfl dX12_opensBy_13 ?_
  refine v_isub (pc := 16) dX12_opensBy_16 ?_
  refine v_iload_n (pc := 17) 3 rfl dX12_opensBy_17 ?_
  refine v_isub (pc := 18) dX12_opensBy_18 ?_
  refine v_istore (pc := 19) (L2 := [(4, ai (((n + (v2_1 11)) - (v2_1 12)) - more)), (0, ar h), (1, ai p), (2, ai n), (3, ai more)]) rfl (by decide) dX12_opensBy_19 ?_
  refine v_iload (pc := 21) 0 rfl dX12_opensBy_21 ?_
  refine v_if_ge (pc := 23) 30 dX12_opensBy_23 (by decide) (by unfold iB; omega) (fun c_5 => ?_) (fun c_5 => ?_)
  · skip
    refine v_iload (pc := 30) 0 rfl dX12_opensBy_30 ?_
    exact hret (v2_1, by2_2, tr2_3) _ _ _ _ _ _ (by exact hkeep) (congrArg (fun z => some (ai z)) (by unfold kOp; rw [← hs1, ← hs2]; split <;> omega)) rfl (Nat.le_of_ble_eq_true rfl) (Nat.le_of_ble_eq_true rfl) dX12_opensBy_32
  · skip
    refine v_iconst (pc := 26) dX12_opensBy_26 ?_
    refine v_goto (pc := 27) 32 dX12_opensBy_27 (by decide) ?_
    exact hret (v2_1, by2_2, tr2_3) _ _ _ _ _ _ (by exact hkeep) (congrArg (fun z => some (ai z)) (by unfold kOp; rw [← hs1, ← hs2]; split <;> omega)) rfl (Nat.le_of_ble_eq_true rfl) (Nat.le_of_ble_eq_true rfl) dX12_opensBy_32
set_option maxHeartbeats 4000000 in
set_option maxRecDepth 100000 in
theorem c_X12_catches {gS : sG} (ad : Nat → Nat) (v : Nat → Int) (h : Nat) (f : Int → Int) (p : Int) (n : Int) (force : Int) (draw : Int) (opens : Int) (hf : PF f p) (hg : GF f) (hn : 0 ≤ n ∧ n ≤ 99) (hfo : 0 ≤ force ∧ force ≤ 20) (hdr : 0 ≤ draw ∧ draw ≤ 9) (hop : 0 ≤ opens ∧ opens ≤ 28100) : Ct gS (S := Unit) yX12_catches cX12_catches 8 (some .int) 2 45 0 0 [ar h, ai p, ai n, ai force, ai draw, ai opens] [] (fun q => q ∈ ([(h, co 12 (mO ad v)), ((ad 1), cn 0 936 f)] : aW)) (fun _ => True) (fun _ => some (ai (fCat f p n force draw opens))) (fun _ => []) := by
  refine ct_I RX12 [(0, ar h), (1, ai p), (2, ai n), (3, ai force), (4, ai draw), (5, ai opens)] (by decide) rfl (Nat.le_of_ble_eq_true rfl) rfl (fun x hgS hro hret => ?_)
  subst hgS
  have r0 := hro _ (mem_at 0 rfl)
  have r1 := hro _ (mem_at 1 rfl)
  obtain ⟨hp, hf1, hf2, hf3, hf4, hf5, hf6, hf7, hf8⟩ := id hf
  obtain ⟨hg0, hg1, hg2, hg3, hg4, hg5, hg6, hg7⟩ := id hg
  have hwb := kWide_b hg
  have hub := fUn_b hf
  have htb := fTu_b hf hn hfo
  have hmb := mulb hub (d := draw - 4) (by omega)
  show V x cX12_catches RX12 8 (rmU 2 45 0 0) [] 0 [(0, ar h), (1, ai p), (2, ai n), (3, ai force), (4, ai draw), (5, ai opens)] [] 0 0
  refine v_aload_n (pc := 0) 0 rfl dX12_catches_0 ?_
  refine v_iload_n (pc := 1) 1 rfl dX12_catches_1 ?_
  refine v_iload_n (pc := 2) 2 rfl dX12_catches_2 ?_
  refine v_iload_n (pc := 3) 3 rfl dX12_catches_3 ?_
  refine v_callV (pc := 4) [] [] [] (As := [ai p, ai n, ai force]) (rest := []) (c_X12_turnOf ad v h f p n force (by first | assumption | omega) (by first | assumption | omega) (by first | assumption | omega) (by first | assumption | omega)) (c := 12) rfl (Or.inl r0) wl_X12_152 wi_X12_turnOf wv_X12_X12_turnOf_X12_turnOf wk_X12_turnOf wz_X12 md_X12_turnOf rfl (Nat.le_of_ble_eq_true rfl) ⟨Nat.le_of_ble_eq_true rfl, Nat.le_of_ble_eq_true rfl, Nat.le_of_ble_eq_true rfl, Nat.le_of_ble_eq_true rfl⟩ rfl rfl rfl rfl (by decide) (ro_cons (Or.inl r0) (ro_cons (Or.inl r1) ro_nil)) dX12_catches_4 (fun u hu => ?_)
  show V x cX12_catches RX12 8 (rmU 2 45 0 0) [] 7 [(0, ar h), (1, ai p), (2, ai n), (3, ai force), (4, ai draw), (5, ai opens)] [ai (kTurn (f (7 + p)) (f (13 + p)) (f (49 + 4 * p + f 6 % 4)) n force)] 0 0
  refine v_eqi (y := (fTu f p n force)) (rfl) ?_
  refine v_aload_n (pc := 7) 0 rfl dX12_catches_7 ?_
  refine v_iload_n (pc := 8) 1 rfl dX12_catches_8 ?_
  refine v_callV (pc := 9) [] [] [] (As := [ai p]) (rest := [ai (fTu f p n force)]) (c_X12_unsureOf ad v h f p (by first | assumption | omega)) (c := 12) rfl (Or.inl r0) wl_X12_140 wi_X12_unsureOf wv_X12_X12_unsureOf_X12_unsureOf wk_X12_unsureOf wz_X12 md_X12_unsureOf rfl (Nat.le_of_ble_eq_true rfl) ⟨Nat.le_of_ble_eq_true rfl, Nat.le_of_ble_eq_true rfl, Nat.le_of_ble_eq_true rfl, Nat.le_of_ble_eq_true rfl⟩ rfl rfl rfl rfl (by decide) (ro_cons (Or.inl r0) (ro_cons (Or.inl r1) ro_nil)) dX12_catches_9 (fun u hu => ?_)
  show V x cX12_catches RX12 8 (rmU 2 45 0 0) [] 12 [(0, ar h), (1, ai p), (2, ai n), (3, ai force), (4, ai draw), (5, ai opens)] [ai (kUnsOf (f (7 + p)) (f (19 + p)) (f (31 + p))), ai (fTu f p n force)] 0 0
  refine v_eqi (y := (fUn f p)) (rfl) ?_
  refine v_iload (pc := 12) 4 rfl dX12_catches_12 ?_
  refine v_iconst (pc := 14) dX12_catches_14 ?_
  refine v_isub (pc := 15) dX12_catches_15 ?_
  refine v_imul (pc := 16) dX12_catches_16 ?_
  refine v_iadd (pc := 17) dX12_catches_17 ?_
  refine v_bipush (pc := 18) dX12_catches_18 (by decide) ?_
  refine v_isub (pc := 20) dX12_catches_20 ?_
  refine v_istore (pc := 21) (L2 := [(6, ai (((fTu f p n force) + ((fUn f p) * (draw - 4))) - 50)), (0, ar h), (1, ai p), (2, ai n), (3, ai force), (4, ai draw), (5, ai opens)]) rfl (by decide) dX12_catches_21 ?_
  refine v_iload (pc := 23) 0 rfl dX12_catches_23 ?_
  refine v_if_ge (pc := 25) 34 dX12_catches_25 (by decide) (by unfold iB; omega) (fun c_1 => ?_) (fun c_1 => ?_)
  · skip
    refine v_iload (pc := 34) 0 rfl dX12_catches_34 ?_
    refine v_istore (pc := 36) (L2 := [(6, ai (((fTu f p n force) + ((fUn f p) * (draw - 4))) - 50)), (0, ar h), (1, ai p), (2, ai n), (3, ai force), (4, ai draw), (5, ai opens)]) rfl (by decide) dX12_catches_36 ?_
    refine v_aload_n (pc := 38) 1 rfl dX12_catches_38 ?_
    refine v_sipush (pc := 39) dX12_catches_39 (by decide) ?_
    refine v_bipush (pc := 42) dX12_catches_42 (by decide) ?_
    refine v_callV (pc := 44) [] [] [] (As := [ai 221, ai 6]) (rest := []) (c_X12_tellsOf ad v h f 221 6 (by first | assumption | omega) (by first | assumption | omega)) (c := 12) rfl (Or.inl r0) wl_X12_129 wi_X12_tellsOf wv_X12_X12_tellsOf_X12_tellsOf wk_X12_tellsOf wz_X12 md_X12_tellsOf rfl (Nat.le_of_ble_eq_true rfl) ⟨Nat.le_of_ble_eq_true rfl, Nat.le_of_ble_eq_true rfl, Nat.le_of_ble_eq_true rfl, Nat.le_of_ble_eq_true rfl⟩ rfl rfl rfl rfl (by decide) (ro_cons (Or.inl r0) (ro_cons (Or.inl r1) ro_nil)) dX12_catches_44 (fun u hu => ?_)
    show V x cX12_catches RX12 8 (rmU 2 45 0 0) [] 47 [(6, ai (((fTu f p n force) + ((fUn f p) * (draw - 4))) - 50)), (0, ar h), (1, ai p), (2, ai n), (3, ai force), (4, ai draw), (5, ai opens)] [ai (if f 5 = -1 then 6 else f (221 + f 5))] 0 0
    refine v_eqi (y := (kWide f)) (rfl) ?_
    refine v_istore (pc := 47) (L2 := [(7, ai (kWide f)), (6, ai (((fTu f p n force) + ((fUn f p) * (draw - 4))) - 50)), (0, ar h), (1, ai p), (2, ai n), (3, ai force), (4, ai draw), (5, ai opens)]) rfl (by decide) dX12_catches_47 ?_
    refine v_iload (pc := 49) 1 rfl dX12_catches_49 ?_
    refine v_iload (pc := 51) 0 rfl dX12_catches_51 ?_
    refine v_icmp_gt (pc := 53) 75 dX12_catches_53 (by decide) (by unfold iB; omega) (by unfold iB; omega) (fun c_2 => ?_) (fun c_2 => ?_)
    · skip
      refine v_iload (pc := 75) 1 rfl dX12_catches_75 ?_
      refine v_iconst (pc := 77) dX12_catches_77 ?_
      refine v_iload (pc := 78) 0 rfl dX12_catches_78 ?_
      refine v_imul (pc := 80) dX12_catches_80 ?_
      refine v_icmp_gt (pc := 81) 107 dX12_catches_81 (by decide) (by unfold iB; omega) (by unfold iB; omega) (fun c_3 => ?_) (fun c_3 => ?_)
      · skip
        refine v_iconst (pc := 107) dX12_catches_107 ?_
        exact hret () _ _ _ _ _ _ trivial (congrArg (fun z => some (ai z)) (by unfold fCat kCat kAbs; (repeat' split) <;> omega)) rfl (Nat.le_of_ble_eq_true rfl) (Nat.le_of_ble_eq_true rfl) dX12_catches_108
      · skip
        refine v_iload (pc := 84) 7 rfl dX12_catches_84 ?_
        refine v_bipush (pc := 86) dX12_catches_86 (by decide) ?_
        refine v_aload_n (pc := 88) 2 rfl dX12_catches_88 ?_
        refine v_get (pc := 89) (v := ar (ad 1)) 1 (Or.inl r0) fl_12_9_12 rfl dX12_catches_89 ?_
        refine v_bipush (pc := 92) dX12_catches_92 (by decide) ?_
        refine v_iload_n (pc := 94) 3 rfl dX12_catches_94 ?_
        refine v_iadd (pc := 95) dX12_catches_95 ?_
        refine v_iald (pc := 96) (Or.inl r1) (by omega) (by omega) (by decide) dX12_catches_96 ?_
        refine v_imul (pc := 97) dX12_catches_97 ?_
        refine v_icmp_gt (pc := 98) 107 dX12_catches_98 (by decide) (by unfold iB; omega) (by unfold iB; omega) (fun c_4 => ?_) (fun c_4 => ?_)
        · skip
          refine v_iconst (pc := 107) dX12_catches_107 ?_
          exact hret () _ _ _ _ _ _ trivial (congrArg (fun z => some (ai z)) (by unfold fCat kCat kAbs; (repeat' split) <;> omega)) rfl (Nat.le_of_ble_eq_true rfl) (Nat.le_of_ble_eq_true rfl) dX12_catches_108
        · skip
          refine v_iload_n (pc := 101) 4 rfl dX12_catches_101 ?_
          refine v_iconst (pc := 102) dX12_catches_102 ?_
          refine v_idiv (pc := 103) (by omega) (by omega) (by unfold iB; omega) (by unfold iB; omega) dX12_catches_103 ?_
          refine v_goto (pc := 104) 108 dX12_catches_104 (by decide) ?_
          exact hret () _ _ _ _ _ _ trivial (congrArg (fun z => some (ai z)) (by unfold fCat kCat kAbs; (repeat' split) <;> omega)) rfl (Nat.le_of_ble_eq_true rfl) (Nat.le_of_ble_eq_true rfl) dX12_catches_108
    · skip
      refine v_iload (pc := 56) 7 rfl dX12_catches_56 ?_
      refine v_bipush (pc := 58) dX12_catches_58 (by decide) ?_
      refine v_aload_n (pc := 60) 2 rfl dX12_catches_60 ?_
      refine v_get (pc := 61) (v := ar (ad 1)) 1 (Or.inl r0) fl_12_9_12 rfl dX12_catches_61 ?_
      refine v_bipush (pc := 64) dX12_catches_64 (by decide) ?_
      refine v_iload_n (pc := 66) 3 rfl dX12_catches_66 ?_
      refine v_iadd (pc := 67) dX12_catches_67 ?_
      refine v_iald (pc := 68) (Or.inl r1) (by omega) (by omega) (by decide) dX12_catches_68 ?_
      refine v_imul (pc := 69) dX12_catches_69 ?_
      refine v_icmp_gt (pc := 70) 75 dX12_catches_70 (by decide) (by unfold iB; omega) (by unfold iB; omega) (fun c_5 => ?_) (fun c_5 => ?_)
      · skip
        refine v_iload (pc := 75) 1 rfl dX12_catches_75 ?_
        refine v_iconst (pc := 77) dX12_catches_77 ?_
        refine v_iload (pc := 78) 0 rfl dX12_catches_78 ?_
        refine v_imul (pc := 80) dX12_catches_80 ?_
        refine v_icmp_gt (pc := 81) 107 dX12_catches_81 (by decide) (by unfold iB; omega) (by unfold iB; omega) (fun c_6 => ?_) (fun c_6 => ?_)
        · skip
          refine v_iconst (pc := 107) dX12_catches_107 ?_
          exact hret () _ _ _ _ _ _ trivial (congrArg (fun z => some (ai z)) (by unfold fCat kCat kAbs; (repeat' split) <;> omega)) rfl (Nat.le_of_ble_eq_true rfl) (Nat.le_of_ble_eq_true rfl) dX12_catches_108
        · skip
          refine v_iload (pc := 84) 7 rfl dX12_catches_84 ?_
          refine v_bipush (pc := 86) dX12_catches_86 (by decide) ?_
          refine v_aload_n (pc := 88) 2 rfl dX12_catches_88 ?_
          refine v_get (pc := 89) (v := ar (ad 1)) 1 (Or.inl r0) fl_12_9_12 rfl dX12_catches_89 ?_
          refine v_bipush (pc := 92) dX12_catches_92 (by decide) ?_
          refine v_iload_n (pc := 94) 3 rfl dX12_catches_94 ?_
          refine v_iadd (pc := 95) dX12_catches_95 ?_
          refine v_iald (pc := 96) (Or.inl r1) (by omega) (by omega) (by decide) dX12_catches_96 ?_
          refine v_imul (pc := 97) dX12_catches_97 ?_
          refine v_icmp_gt (pc := 98) 107 dX12_catches_98 (by decide) (by unfold iB; omega) (by unfold iB; omega) (fun c_7 => ?_) (fun c_7 => ?_)
          · skip
            refine v_iconst (pc := 107) dX12_catches_107 ?_
            exact hret () _ _ _ _ _ _ trivial (congrArg (fun z => some (ai z)) (by unfold fCat kCat kAbs; (repeat' split) <;> omega)) rfl (Nat.le_of_ble_eq_true rfl) (Nat.le_of_ble_eq_true rfl) dX12_catches_108
          · skip
            refine v_iload_n (pc := 101) 4 rfl dX12_catches_101 ?_
            refine v_iconst (pc := 102) dX12_catches_102 ?_
            refine v_idiv (pc := 103) (by omega) (by omega) (by unfold iB; omega) (by unfold iB; omega) dX12_catches_103 ?_
            refine v_goto (pc := 104) 108 dX12_catches_104 (by decide) ?_
            exact hret () _ _ _ _ _ _ trivial (congrArg (fun z => some (ai z)) (by unfold fCat kCat kAbs; (repeat' split) <;> omega)) rfl (Nat.le_of_ble_eq_true rfl) (Nat.le_of_ble_eq_true rfl) dX12_catches_108
      · skip
        refine v_iload_n (pc := 73) 4 rfl dX12_catches_73 ?_
        exact hret () _ _ _ _ _ _ trivial (congrArg (fun z => some (ai z)) (by unfold fCat kCat kAbs; (repeat' split) <;> omega)) rfl (Nat.le_of_ble_eq_true rfl) (Nat.le_of_ble_eq_true rfl) dX12_catches_74
  · skip
    refine v_iload (pc := 28) 0 rfl dX12_catches_28 ?_
    refine v_ineg (pc := 30) dX12_catches_30 ?_
    refine v_goto (pc := 31) 36 dX12_catches_31 (by decide) ?_
    refine v_istore (pc := 36) (L2 := [(6, ai (-(((fTu f p n force) + ((fUn f p) * (draw - 4))) - 50))), (0, ar h), (1, ai p), (2, ai n), (3, ai force), (4, ai draw), (5, ai opens)]) rfl (by decide) dX12_catches_36 ?_
    refine v_aload_n (pc := 38) 1 rfl dX12_catches_38 ?_
    refine v_sipush (pc := 39) dX12_catches_39 (by decide) ?_
    refine v_bipush (pc := 42) dX12_catches_42 (by decide) ?_
    refine v_callV (pc := 44) [] [] [] (As := [ai 221, ai 6]) (rest := []) (c_X12_tellsOf ad v h f 221 6 (by first | assumption | omega) (by first | assumption | omega)) (c := 12) rfl (Or.inl r0) wl_X12_129 wi_X12_tellsOf wv_X12_X12_tellsOf_X12_tellsOf wk_X12_tellsOf wz_X12 md_X12_tellsOf rfl (Nat.le_of_ble_eq_true rfl) ⟨Nat.le_of_ble_eq_true rfl, Nat.le_of_ble_eq_true rfl, Nat.le_of_ble_eq_true rfl, Nat.le_of_ble_eq_true rfl⟩ rfl rfl rfl rfl (by decide) (ro_cons (Or.inl r0) (ro_cons (Or.inl r1) ro_nil)) dX12_catches_44 (fun u hu => ?_)
    show V x cX12_catches RX12 8 (rmU 2 45 0 0) [] 47 [(6, ai (-(((fTu f p n force) + ((fUn f p) * (draw - 4))) - 50))), (0, ar h), (1, ai p), (2, ai n), (3, ai force), (4, ai draw), (5, ai opens)] [ai (if f 5 = -1 then 6 else f (221 + f 5))] 0 0
    refine v_eqi (y := (kWide f)) (rfl) ?_
    refine v_istore (pc := 47) (L2 := [(7, ai (kWide f)), (6, ai (-(((fTu f p n force) + ((fUn f p) * (draw - 4))) - 50))), (0, ar h), (1, ai p), (2, ai n), (3, ai force), (4, ai draw), (5, ai opens)]) rfl (by decide) dX12_catches_47 ?_
    refine v_iload (pc := 49) 1 rfl dX12_catches_49 ?_
    refine v_iload (pc := 51) 0 rfl dX12_catches_51 ?_
    refine v_icmp_gt (pc := 53) 75 dX12_catches_53 (by decide) (by unfold iB; omega) (by unfold iB; omega) (fun c_8 => ?_) (fun c_8 => ?_)
    · skip
      refine v_iload (pc := 75) 1 rfl dX12_catches_75 ?_
      refine v_iconst (pc := 77) dX12_catches_77 ?_
      refine v_iload (pc := 78) 0 rfl dX12_catches_78 ?_
      refine v_imul (pc := 80) dX12_catches_80 ?_
      refine v_icmp_gt (pc := 81) 107 dX12_catches_81 (by decide) (by unfold iB; omega) (by unfold iB; omega) (fun c_9 => ?_) (fun c_9 => ?_)
      · skip
        refine v_iconst (pc := 107) dX12_catches_107 ?_
        exact hret () _ _ _ _ _ _ trivial (congrArg (fun z => some (ai z)) (by unfold fCat kCat kAbs; (repeat' split) <;> omega)) rfl (Nat.le_of_ble_eq_true rfl) (Nat.le_of_ble_eq_true rfl) dX12_catches_108
      · skip
        refine v_iload (pc := 84) 7 rfl dX12_catches_84 ?_
        refine v_bipush (pc := 86) dX12_catches_86 (by decide) ?_
        refine v_aload_n (pc := 88) 2 rfl dX12_catches_88 ?_
        refine v_get (pc := 89) (v := ar (ad 1)) 1 (Or.inl r0) fl_12_9_12 rfl dX12_catches_89 ?_
        refine v_bipush (pc := 92) dX12_catches_92 (by decide) ?_
        refine v_iload_n (pc := 94) 3 rfl dX12_catches_94 ?_
        refine v_iadd (pc := 95) dX12_catches_95 ?_
        refine v_iald (pc := 96) (Or.inl r1) (by omega) (by omega) (by decide) dX12_catches_96 ?_
        refine v_imul (pc := 97) dX12_catches_97 ?_
        refine v_icmp_gt (pc := 98) 107 dX12_catches_98 (by decide) (by unfold iB; omega) (by unfold iB; omega) (fun c_10 => ?_) (fun c_10 => ?_)
        · skip
          refine v_iconst (pc := 107) dX12_catches_107 ?_
          exact hret () _ _ _ _ _ _ trivial (congrArg (fun z => some (ai z)) (by unfold fCat kCat kAbs; (repeat' split) <;> omega)) rfl (Nat.le_of_ble_eq_true rfl) (Nat.le_of_ble_eq_true rfl) dX12_catches_108
        · skip
          refine v_iload_n (pc := 101) 4 rfl dX12_catches_101 ?_
          refine v_iconst (pc := 102) dX12_catches_102 ?_
          refine v_idiv (pc := 103) (by omega) (by omega) (by unfold iB; omega) (by unfold iB; omega) dX12_catches_103 ?_
          refine v_goto (pc := 104) 108 dX12_catches_104 (by decide) ?_
          exact hret () _ _ _ _ _ _ trivial (congrArg (fun z => some (ai z)) (by unfold fCat kCat kAbs; (repeat' split) <;> omega)) rfl (Nat.le_of_ble_eq_true rfl) (Nat.le_of_ble_eq_true rfl) dX12_catches_108
    · skip
      refine v_iload (pc := 56) 7 rfl dX12_catches_56 ?_
      refine v_bipush (pc := 58) dX12_catches_58 (by decide) ?_
      refine v_aload_n (pc := 60) 2 rfl dX12_catches_60 ?_
      refine v_get (pc := 61) (v := ar (ad 1)) 1 (Or.inl r0) fl_12_9_12 rfl dX12_catches_61 ?_
      refine v_bipush (pc := 64) dX12_catches_64 (by decide) ?_
      refine v_iload_n (pc := 66) 3 rfl dX12_catches_66 ?_
      refine v_iadd (pc := 67) dX12_catches_67 ?_
      refine v_iald (pc := 68) (Or.inl r1) (by omega) (by omega) (by decide) dX12_catches_68 ?_
      refine v_imul (pc := 69) dX12_catches_69 ?_
      refine v_icmp_gt (pc := 70) 75 dX12_catches_70 (by decide) (by unfold iB; omega) (by unfold iB; omega) (fun c_11 => ?_) (fun c_11 => ?_)
      · skip
        refine v_iload (pc := 75) 1 rfl dX12_catches_75 ?_
        refine v_iconst (pc := 77) dX12_catches_77 ?_
        refine v_iload (pc := 78) 0 rfl dX12_catches_78 ?_
        refine v_imul (pc := 80) dX12_catches_80 ?_
        refine v_icmp_gt (pc := 81) 107 dX12_catches_81 (by decide) (by unfold iB; omega) (by unfold iB; omega) (fun c_12 => ?_) (fun c_12 => ?_)
        · skip
          refine v_iconst (pc := 107) dX12_catches_107 ?_
          exact hret () _ _ _ _ _ _ trivial (congrArg (fun z => some (ai z)) (by unfold fCat kCat kAbs; (repeat' split) <;> omega)) rfl (Nat.le_of_ble_eq_true rfl) (Nat.le_of_ble_eq_true rfl) dX12_catches_108
        · skip
          refine v_iload (pc := 84) 7 rfl dX12_catches_84 ?_
          refine v_bipush (pc := 86) dX12_catches_86 (by decide) ?_
          refine v_aload_n (pc := 88) 2 rfl dX12_catches_88 ?_
          refine v_get (pc := 89) (v := ar (ad 1)) 1 (Or.inl r0) fl_12_9_12 rfl dX12_catches_89 ?_
          refine v_bipush (pc := 92) dX12_catches_92 (by decide) ?_
          refine v_iload_n (pc := 94) 3 rfl dX12_catches_94 ?_
          refine v_iadd (pc := 95) dX12_catches_95 ?_
          refine v_iald (pc := 96) (Or.inl r1) (by omega) (by omega) (by decide) dX12_catches_96 ?_
          refine v_imul (pc := 97) dX12_catches_97 ?_
          refine v_icmp_gt (pc := 98) 107 dX12_catches_98 (by decide) (by unfold iB; omega) (by unfold iB; omega) (fun c_13 => ?_) (fun c_13 => ?_)
          · skip
            refine v_iconst (pc := 107) dX12_catches_107 ?_
            exact hret () _ _ _ _ _ _ trivial (congrArg (fun z => some (ai z)) (by unfold fCat kCat kAbs; (repeat' split) <;> omega)) rfl (Nat.le_of_ble_eq_true rfl) (Nat.le_of_ble_eq_true rfl) dX12_catches_108
          · skip
            refine v_iload_n (pc := 101) 4 rfl dX12_catches_101 ?_
            refine v_iconst (pc := 102) dX12_catches_102 ?_
            refine v_idiv (pc := 103) (by omega) (by omega) (by unfold iB; omega) (by unfold iB; omega) dX12_catches_103 ?_
            refine v_goto (pc := 104) 108 dX12_catches_104 (by decide) ?_
            exact hret () _ _ _ _ _ _ trivial (congrArg (fun z => some (ai z)) (by unfold fCat kCat kAbs; (repeat' split) <;> omega)) rfl (Nat.le_of_ble_eq_true rfl) (Nat.le_of_ble_eq_true rfl) dX12_catches_108
      · skip
        refine v_iload_n (pc := 73) 4 rfl dX12_catches_73 ?_
        exact hret () _ _ _ _ _ _ trivial (congrArg (fun z => some (ai z)) (by unfold fCat kCat kAbs; (repeat' split) <;> omega)) rfl (Nat.le_of_ble_eq_true rfl) (Nat.le_of_ble_eq_true rfl) dX12_catches_74
set_option maxHeartbeats 4000000 in
set_option maxRecDepth 100000 in
theorem c_X12_caught {gS : sG} (ad : Nat → Nat) (v : Nat → Int) (h : Nat) (f : Int → Int) (by0 : Int → Int) (tr0 : Int → Int) (p : Int) (n : Int) (force : Int) (draw : Int) (hf : PF f p) (hg : GF f) (hn : 0 ≤ n ∧ n ≤ 99) (hwf : wfS 0 (SL f)) (hfo : 0 ≤ force ∧ force ≤ 20) (hdr : 0 ≤ draw ∧ draw ≤ 9) : Ct gS (S := (Nat → Int) × (Int → Int) × (Int → Int)) yX12_caught cX12_caught 5 (some .int) 3 76 0 0 [ar h, ai p, ai n, ai force, ai draw] [(h, co 12 (mO ad v)), ((ad 9), cn 0 6 by0), ((ad 10), cn 1 64 tr0)] (fun q => q ∈ ([((ad 1), cn 0 936 f)] : aW)) (fun u => vK v u.1 ∧ u.1 13 = v 13 ∧ u.1 15 = v 15) (fun u => some (ai (fCat f p n force draw (kOp f p n 0)))) (fun u => [(h, co 12 (mO ad u.1)), ((ad 9), cn 0 6 u.2.1), ((ad 10), cn 1 64 u.2.2)]) := by
  refine ct_I RX12 [(0, ar h), (1, ai p), (2, ai n), (3, ai force), (4, ai draw)] (by decide) rfl (Nat.le_of_ble_eq_true rfl) rfl (fun x hgS hro hret => ?_)
  subst hgS
  have r0 := hro _ (mem_at 0 rfl)
  have hob := kOp_b (p := p) (more := 0) hwf hg hn (by omega)
  show V x cX12_caught RX12 5 (rmU 3 76 0 0) [(h, co 12 (mO ad v)), ((ad 9), cn 0 6 by0), ((ad 10), cn 1 64 tr0)] 0 [(0, ar h), (1, ai p), (2, ai n), (3, ai force), (4, ai draw)] [] 0 0
  refine v_aload_n (pc := 0) 0 rfl dX12_caught_0 ?_
  refine v_iload_n (pc := 1) 1 rfl dX12_caught_1 ?_
  refine v_iload_n (pc := 2) 2 rfl dX12_caught_2 ?_
  refine v_iload_n (pc := 3) 3 rfl dX12_caught_3 ?_
  refine v_iload (pc := 4) 4 rfl dX12_caught_4 ?_
  refine v_aload_n (pc := 6) 0 rfl dX12_caught_6 ?_
  refine v_iload_n (pc := 7) 1 rfl dX12_caught_7 ?_
  refine v_iload_n (pc := 8) 2 rfl dX12_caught_8 ?_
  refine v_iconst (pc := 9) dX12_caught_9 ?_
  refine v_callV (pc := 10) [0, 1, 2] [] [] (As := [ai p, ai n, ai 0]) (rest := [ai draw, ai force, ai n, ai p, ar h]) (c_X12_opensBy ad v h f by0 tr0 p n 0 (by first | assumption | omega) (by first | assumption | omega) (by first | assumption | omega) (by first | assumption | omega) (by first | assumption | omega)) (c := 12) rfl (Or.inr ⟨0, rfl⟩) wl_X12_156 wi_X12_opensBy wv_X12_X12_opensBy_X12_opensBy wk_X12_opensBy wz_X12 md_X12_opensBy rfl (Nat.le_of_ble_eq_true rfl) ⟨Nat.le_of_ble_eq_true rfl, Nat.le_of_ble_eq_true rfl, Nat.le_of_ble_eq_true rfl, Nat.le_of_ble_eq_true rfl⟩ rfl rfl rfl rfl (by decide) (ro_cons (Or.inl r0) ro_nil) dX12_caught_10 (fun u hu => ?_)
  obtain ⟨v2_1, by2_2, tr2_3⟩ := u
  have g_4 : vK v v2_1 ∧ v2_1 13 = v 13 ∧ v2_1 15 = v 15 := hu
  show V x cX12_caught RX12 5 (rmU 3 76 0 0) [(h, co 12 (mO ad v2_1)), ((ad 9), cn 0 6 by2_2), ((ad 10), cn 1 64 tr2_3)] 13 [(0, ar h), (1, ai p), (2, ai n), (3, ai force), (4, ai draw)] [ai (kOp f p n 0), ai draw, ai force, ai n, ai p, ar h] 0 0
  have hkeep := g_4
  refine v_callV (pc := 13) [] [0, 1, 2] [(h, co 12 (mO ad v2_1)), ((ad 9), cn 0 6 by2_2), ((ad 10), cn 1 64 tr2_3)] (As := [ai p, ai n, ai force, ai draw, ai (kOp f p n 0)]) (rest := []) (c_X12_catches ad v2_1 h f p n force draw (kOp f p n 0) (by first | assumption | omega) (by first | assumption | omega) (by first | assumption | omega) (by first | assumption | omega) (by first | assumption | omega) (by first | assumption | omega)) (c := 12) rfl (Or.inr ⟨0, rfl⟩) wl_X12_159 wi_X12_catches wv_X12_X12_catches_X12_catches wk_X12_catches wz_X12 md_X12_catches rfl (Nat.le_of_ble_eq_true rfl) ⟨Nat.le_of_ble_eq_true rfl, Nat.le_of_ble_eq_true rfl, Nat.le_of_ble_eq_true rfl, Nat.le_of_ble_eq_true rfl⟩ rfl rfl rfl rfl (by decide) (ro_cons (Or.inr ⟨0, rfl, by decide⟩) (ro_cons (Or.inl r0) ro_nil)) dX12_caught_13 (fun u hu => ?_)
  show V x cX12_caught RX12 5 (rmU 3 76 0 0) [(h, co 12 (mO ad v2_1)), ((ad 9), cn 0 6 by2_2), ((ad 10), cn 1 64 tr2_3)] 16 [(0, ar h), (1, ai p), (2, ai n), (3, ai force), (4, ai draw)] [ai (fCat f p n force draw (kOp f p n 0))] 0 0
  exact hret (v2_1, by2_2, tr2_3) _ _ _ _ _ _ (by exact hkeep) (congrArg (fun z => some (ai z)) (by rfl)) rfl (Nat.le_of_ble_eq_true rfl) (Nat.le_of_ble_eq_true rfl) dX12_caught_16
set_option maxHeartbeats 4000000 in
set_option maxRecDepth 100000 in
theorem c_X12_allBy {gS : sG} (ad : Nat → Nat) (v : Nat → Int) (h : Nat) (f : Int → Int) (p : Int) (n : Int) (force : Int) (opens : Int) (hf : PF f p) (hg : GF f) (hn : 0 ≤ n ∧ n ≤ 99) (hfo : 0 ≤ force ∧ force ≤ 20) (hop : 0 ≤ opens ∧ opens ≤ 28100) : Ct gS (S := Unit) yX12_allBy cX12_allBy 10 (some .int) 2 45 0 0 [ar h, ai p, ai n, ai force, ai opens] [] (fun q => q ∈ ([(h, co 12 (mO ad v)), ((ad 1), cn 0 936 f)] : aW)) (fun _ => True) (fun _ => some (ai (fAll f p n force opens))) (fun _ => []) := by
  refine ct_I RX12 [(0, ar h), (1, ai p), (2, ai n), (3, ai force), (4, ai opens)] (by decide) rfl (Nat.le_of_ble_eq_true rfl) rfl (fun x hgS hro hret => ?_)
  subst hgS
  have r0 := hro _ (mem_at 0 rfl)
  have r1 := hro _ (mem_at 1 rfl)
  obtain ⟨hp, hf1, hf2, hf3, hf4, hf5, hf6, hf7, hf8⟩ := id hf
  obtain ⟨hg0, hg1, hg2, hg3, hg4, hg5, hg6, hg7⟩ := id hg
  have hwb := kWide_b hg
  have hub := fUn_b hf
  have htb := fTu_b hf hn hfo
  show V x cX12_allBy RX12 10 (rmU 2 45 0 0) [] 0 [(0, ar h), (1, ai p), (2, ai n), (3, ai force), (4, ai opens)] [] 0 0
  refine v_iload (pc := 0) 4 rfl dX12_allBy_0 ?_
  refine v_bipush (pc := 2) dX12_allBy_2 (by decide) ?_
  refine v_aload_n (pc := 4) 0 rfl dX12_allBy_4 ?_
  refine v_get (pc := 5) (v := ar (ad 1)) 1 (Or.inl r0) fl_12_9_12 rfl dX12_allBy_5 ?_
  refine v_bipush (pc := 8) dX12_allBy_8 (by decide) ?_
  refine v_iload_n (pc := 10) 1 rfl dX12_allBy_10 ?_
  refine v_iadd (pc := 11) dX12_allBy_11 ?_
  refine v_iald (pc := 12) (Or.inl r1) (by omega) (by omega) (by decide) dX12_allBy_12 ?_
  refine v_imul (pc := 13) dX12_allBy_13 ?_
  refine v_icmp_le (pc := 14) 19 dX12_allBy_14 (by decide) (by unfold iB; omega) (by unfold iB; omega) (fun c_1 => ?_) (fun c_1 => ?_)
  · skip
    refine v_aload_n (pc := 19) 0 rfl dX12_allBy_19 ?_
    refine v_iload_n (pc := 20) 1 rfl dX12_allBy_20 ?_
    refine v_callV (pc := 21) [] [] [] (As := [ai p]) (rest := []) (c_X12_unsureOf ad v h f p (by first | assumption | omega)) (c := 12) rfl (Or.inl r0) wl_X12_140 wi_X12_unsureOf wv_X12_X12_unsureOf_X12_unsureOf wk_X12_unsureOf wz_X12 md_X12_unsureOf rfl (Nat.le_of_ble_eq_true rfl) ⟨Nat.le_of_ble_eq_true rfl, Nat.le_of_ble_eq_true rfl, Nat.le_of_ble_eq_true rfl, Nat.le_of_ble_eq_true rfl⟩ rfl rfl rfl rfl (by decide) (ro_cons (Or.inl r0) (ro_cons (Or.inl r1) ro_nil)) dX12_allBy_21 (fun u hu => ?_)
    show V x cX12_allBy RX12 10 (rmU 2 45 0 0) [] 24 [(0, ar h), (1, ai p), (2, ai n), (3, ai force), (4, ai opens)] [ai (kUnsOf (f (7 + p)) (f (19 + p)) (f (31 + p)))] 0 0
    refine v_eqi (y := (fUn f p)) (rfl) ?_
    refine v_istore (pc := 24) (L2 := [(5, ai (fUn f p)), (0, ar h), (1, ai p), (2, ai n), (3, ai force), (4, ai opens)]) rfl (by decide) dX12_allBy_24 ?_
    refine v_aload_n (pc := 26) 1 rfl dX12_allBy_26 ?_
    refine v_sipush (pc := 27) dX12_allBy_27 (by decide) ?_
    refine v_bipush (pc := 30) dX12_allBy_30 (by decide) ?_
    refine v_callV (pc := 32) [] [] [] (As := [ai 221, ai 6]) (rest := []) (c_X12_tellsOf ad v h f 221 6 (by first | assumption | omega) (by first | assumption | omega)) (c := 12) rfl (Or.inl r0) wl_X12_129 wi_X12_tellsOf wv_X12_X12_tellsOf_X12_tellsOf wk_X12_tellsOf wz_X12 md_X12_tellsOf rfl (Nat.le_of_ble_eq_true rfl) ⟨Nat.le_of_ble_eq_true rfl, Nat.le_of_ble_eq_true rfl, Nat.le_of_ble_eq_true rfl, Nat.le_of_ble_eq_true rfl⟩ rfl rfl rfl rfl (by decide) (ro_cons (Or.inl r0) (ro_cons (Or.inl r1) ro_nil)) dX12_allBy_32 (fun u hu => ?_)
    show V x cX12_allBy RX12 10 (rmU 2 45 0 0) [] 35 [(5, ai (fUn f p)), (0, ar h), (1, ai p), (2, ai n), (3, ai force), (4, ai opens)] [ai (if f 5 = -1 then 6 else f (221 + f 5))] 0 0
    refine v_eqi (y := (kWide f)) (rfl) ?_
    refine v_istore (pc := 35) (L2 := [(6, ai (kWide f)), (5, ai (fUn f p)), (0, ar h), (1, ai p), (2, ai n), (3, ai force), (4, ai opens)]) rfl (by decide) dX12_allBy_35 ?_
    refine v_aload_n (pc := 37) 2 rfl dX12_allBy_37 ?_
    refine v_iload_n (pc := 38) 3 rfl dX12_allBy_38 ?_
    refine v_iload_n (pc := 39) 4 rfl dX12_allBy_39 ?_
    refine v_iload_n (pc := 40) 5 rfl dX12_allBy_40 ?_
    refine v_callV (pc := 41) [] [] [] (As := [ai p, ai n, ai force]) (rest := []) (c_X12_turnOf ad v h f p n force (by first | assumption | omega) (by first | assumption | omega) (by first | assumption | omega) (by first | assumption | omega)) (c := 12) rfl (Or.inl r0) wl_X12_152 wi_X12_turnOf wv_X12_X12_turnOf_X12_turnOf wk_X12_turnOf wz_X12 md_X12_turnOf rfl (Nat.le_of_ble_eq_true rfl) ⟨Nat.le_of_ble_eq_true rfl, Nat.le_of_ble_eq_true rfl, Nat.le_of_ble_eq_true rfl, Nat.le_of_ble_eq_true rfl⟩ rfl rfl rfl rfl (by decide) (ro_cons (Or.inl r0) (ro_cons (Or.inl r1) ro_nil)) dX12_allBy_41 (fun u hu => ?_)
    show V x cX12_allBy RX12 10 (rmU 2 45 0 0) [] 44 [(6, ai (kWide f)), (5, ai (fUn f p)), (0, ar h), (1, ai p), (2, ai n), (3, ai force), (4, ai opens)] [ai (kTurn (f (7 + p)) (f (13 + p)) (f (49 + 4 * p + f 6 % 4)) n force)] 0 0
    refine v_eqi (y := (fTu f p n force)) (rfl) ?_
    refine v_iconst (pc := 44) dX12_allBy_44 ?_
    refine v_iload (pc := 45) 1 rfl dX12_allBy_45 ?_
    refine v_imul (pc := 47) dX12_allBy_47 ?_
    refine v_isub (pc := 48) dX12_allBy_48 ?_
    refine v_bipush (pc := 49) dX12_allBy_49 (by decide) ?_
    refine v_isub (pc := 51) dX12_allBy_51 ?_
    refine v_istore (pc := 52) (L2 := [(7, ai (((fTu f p n force) - (4 * (fUn f p))) - 50)), (6, ai (kWide f)), (5, ai (fUn f p)), (0, ar h), (1, ai p), (2, ai n), (3, ai force), (4, ai opens)]) rfl (by decide) dX12_allBy_52 ?_
    have hO : ∃ o : Int, o = fTu f p n force - 4 * fUn f p - 50 := ⟨_, rfl⟩
    obtain ⟨off0, hoff⟩ := hO
    refine v_iconst (pc := 54) dX12_allBy_54 ?_
    refine v_istore (pc := 55) (L2 := [(8, ai 0), (7, ai (((fTu f p n force) - (4 * (fUn f p))) - 50)), (6, ai (kWide f)), (5, ai (fUn f p)), (0, ar h), (1, ai p), (2, ai n), (3, ai force), (4, ai opens)]) rfl (by decide) dX12_allBy_55 ?_
    refine v_iconst (pc := 57) dX12_allBy_57 ?_
    refine v_istore (pc := 58) (L2 := [(9, ai 0), (8, ai 0), (7, ai (((fTu f p n force) - (4 * (fUn f p))) - 50)), (6, ai (kWide f)), (5, ai (fUn f p)), (0, ar h), (1, ai p), (2, ai n), (3, ai force), (4, ai opens)]) rfl (by decide) dX12_allBy_58 ?_
    have lp60 : ∀ (mm : Nat) (off : Int) (al0 : Int) (dw : Int), (10 - dw).toNat = mm → (0 ≤ dw ∧ dw ≤ 10) → (off = off0 + dw * fUn f p) → (al0 = cnt (fUn f p) (kWide f) off0 dw.toNat) → V x cX12_allBy RX12 10 (rmU 2 45 0 0) [] 60 [(0, ar h), (1, ai p), (2, ai n), (3, ai force), (4, ai opens), (5, ai (fUn f p)), (6, ai (kWide f)), (7, ai off), (8, ai al0), (9, ai dw)] [] 0 0 := by
      intro mm
      induction mm using Nat.strongRecOn with
      | _ mm ih =>
        intro off al0 dw hmm hd ho hal
        have hmc := mulc hub hd
        have hcb := cnt_b (fUn f p) (kWide f) off0 dw.toNat
        refine v_iload (pc := 60) 9 rfl dX12_allBy_60 ?_
        refine v_bipush (pc := 62) dX12_allBy_62 (by decide) ?_
        refine v_icmp_ge (pc := 64) 105 dX12_allBy_64 (by decide) (by unfold iB; omega) (by unfold iB; omega) (fun c_2 => ?_) (fun c_2 => ?_)
        · skip
          refine v_iload (pc := 105) 8 rfl dX12_allBy_105 ?_
          exact hret () _ _ _ _ _ _ trivial (congrArg (fun z => some (ai z)) (by unfold fAll kAll; rw [if_neg (by omega), hal, show dw.toNat = 10 by omega, hoff])) rfl (Nat.le_of_ble_eq_true rfl) (Nat.le_of_ble_eq_true rfl) dX12_allBy_107
        · skip
          refine v_iload (pc := 67) 8 rfl dX12_allBy_67 ?_
          refine v_iload (pc := 69) 7 rfl dX12_allBy_69 ?_
          refine v_iload (pc := 71) 6 rfl dX12_allBy_71 ?_
          refine v_icmp_gt (pc := 73) 88 dX12_allBy_73 (by decide) (by unfold iB; omega) (by unfold iB; omega) (fun c_3 => ?_) (fun c_3 => ?_)
          · skip
            refine v_iconst (pc := 88) dX12_allBy_88 ?_
            refine v_iadd (pc := 89) dX12_allBy_89 ?_
            refine v_istore (pc := 90) (L2 := [(8, ai (al0 + 0)), (0, ar h), (1, ai p), (2, ai n), (3, ai force), (4, ai opens), (5, ai (fUn f p)), (6, ai (kWide f)), (7, ai off), (9, ai dw)]) rfl (by decide) dX12_allBy_90 ?_
            refine v_iload (pc := 92) 8 rfl dX12_allBy_92 ?_
            refine v_iload (pc := 94) 6 rfl dX12_allBy_94 ?_
            refine v_iadd (pc := 96) dX12_allBy_96 ?_
            refine v_istore (pc := 97) (L2 := [(7, ai (off + (fUn f p))), (8, ai (al0 + 0)), (0, ar h), (1, ai p), (2, ai n), (3, ai force), (4, ai opens), (5, ai (fUn f p)), (6, ai (kWide f)), (9, ai dw)]) rfl (by decide) dX12_allBy_97 ?_
            refine v_iinc (pc := 99) 9 (L2 := [(9, ai (dw + 1)), (7, ai (off + (fUn f p))), (8, ai (al0 + 0)), (0, ar h), (1, ai p), (2, ai n), (3, ai force), (4, ai opens), (5, ai (fUn f p)), (6, ai (kWide f))]) rfl rfl (by decide) dX12_allBy_99 ?_
            refine v_goto (pc := 102) 60 dX12_allBy_102 (by decide) ?_
            refine v_sub (L2 := [(0, ar h), (1, ai p), (2, ai n), (3, ai force), (4, ai opens), (5, ai (fUn f p)), (6, ai (kWide f)), (7, ai (off + (fUn f p))), (8, ai (al0 + 0)), (9, ai (dw + 1))]) [3, 4, 5, 6, 7, 8, 9, 1, 2, 0] rfl ?_
            exact ih _ (by omega) (off + (fUn f p)) (al0 + 0) (dw + 1) rfl (by omega) (by rw [ho, Int.add_mul]; omega) (by rw [hal, show (dw + 1).toNat = dw.toNat + 1 by omega]; rw [cnt_succ, show ((dw.toNat : Nat) : Int) = dw by omega, ← ho]; split <;> omega)
          · skip
            refine v_iload (pc := 76) 7 rfl dX12_allBy_76 ?_
            refine v_iload (pc := 78) 6 rfl dX12_allBy_78 ?_
            refine v_ineg (pc := 80) dX12_allBy_80 ?_
            refine v_icmp_lt (pc := 81) 88 dX12_allBy_81 (by decide) (by unfold iB; omega) (by unfold iB; omega) (fun c_4 => ?_) (fun c_4 => ?_)
            · skip
              refine v_iconst (pc := 88) dX12_allBy_88 ?_
              refine v_iadd (pc := 89) dX12_allBy_89 ?_
              refine v_istore (pc := 90) (L2 := [(8, ai (al0 + 0)), (0, ar h), (1, ai p), (2, ai n), (3, ai force), (4, ai opens), (5, ai (fUn f p)), (6, ai (kWide f)), (7, ai off), (9, ai dw)]) rfl (by decide) dX12_allBy_90 ?_
              refine v_iload (pc := 92) 8 rfl dX12_allBy_92 ?_
              refine v_iload (pc := 94) 6 rfl dX12_allBy_94 ?_
              refine v_iadd (pc := 96) dX12_allBy_96 ?_
              refine v_istore (pc := 97) (L2 := [(7, ai (off + (fUn f p))), (8, ai (al0 + 0)), (0, ar h), (1, ai p), (2, ai n), (3, ai force), (4, ai opens), (5, ai (fUn f p)), (6, ai (kWide f)), (9, ai dw)]) rfl (by decide) dX12_allBy_97 ?_
              refine v_iinc (pc := 99) 9 (L2 := [(9, ai (dw + 1)), (7, ai (off + (fUn f p))), (8, ai (al0 + 0)), (0, ar h), (1, ai p), (2, ai n), (3, ai force), (4, ai opens), (5, ai (fUn f p)), (6, ai (kWide f))]) rfl rfl (by decide) dX12_allBy_99 ?_
              refine v_goto (pc := 102) 60 dX12_allBy_102 (by decide) ?_
              refine v_sub (L2 := [(0, ar h), (1, ai p), (2, ai n), (3, ai force), (4, ai opens), (5, ai (fUn f p)), (6, ai (kWide f)), (7, ai (off + (fUn f p))), (8, ai (al0 + 0)), (9, ai (dw + 1))]) [3, 4, 5, 6, 7, 8, 9, 1, 2, 0] rfl ?_
              exact ih _ (by omega) (off + (fUn f p)) (al0 + 0) (dw + 1) rfl (by omega) (by rw [ho, Int.add_mul]; omega) (by rw [hal, show (dw + 1).toNat = dw.toNat + 1 by omega]; rw [cnt_succ, show ((dw.toNat : Nat) : Int) = dw by omega, ← ho]; split <;> omega)
            · skip
              refine v_iconst (pc := 84) dX12_allBy_84 ?_
              refine v_goto (pc := 85) 89 dX12_allBy_85 (by decide) ?_
              refine v_iadd (pc := 89) dX12_allBy_89 ?_
              refine v_istore (pc := 90) (L2 := [(8, ai (al0 + 1)), (0, ar h), (1, ai p), (2, ai n), (3, ai force), (4, ai opens), (5, ai (fUn f p)), (6, ai (kWide f)), (7, ai off), (9, ai dw)]) rfl (by decide) dX12_allBy_90 ?_
              refine v_iload (pc := 92) 8 rfl dX12_allBy_92 ?_
              refine v_iload (pc := 94) 6 rfl dX12_allBy_94 ?_
              refine v_iadd (pc := 96) dX12_allBy_96 ?_
              refine v_istore (pc := 97) (L2 := [(7, ai (off + (fUn f p))), (8, ai (al0 + 1)), (0, ar h), (1, ai p), (2, ai n), (3, ai force), (4, ai opens), (5, ai (fUn f p)), (6, ai (kWide f)), (9, ai dw)]) rfl (by decide) dX12_allBy_97 ?_
              refine v_iinc (pc := 99) 9 (L2 := [(9, ai (dw + 1)), (7, ai (off + (fUn f p))), (8, ai (al0 + 1)), (0, ar h), (1, ai p), (2, ai n), (3, ai force), (4, ai opens), (5, ai (fUn f p)), (6, ai (kWide f))]) rfl rfl (by decide) dX12_allBy_99 ?_
              refine v_goto (pc := 102) 60 dX12_allBy_102 (by decide) ?_
              refine v_sub (L2 := [(0, ar h), (1, ai p), (2, ai n), (3, ai force), (4, ai opens), (5, ai (fUn f p)), (6, ai (kWide f)), (7, ai (off + (fUn f p))), (8, ai (al0 + 1)), (9, ai (dw + 1))]) [3, 4, 5, 6, 7, 8, 9, 1, 2, 0] rfl ?_
              exact ih _ (by omega) (off + (fUn f p)) (al0 + 1) (dw + 1) rfl (by omega) (by rw [ho, Int.add_mul]; omega) (by rw [hal, show (dw + 1).toNat = dw.toNat + 1 by omega]; rw [cnt_succ, show ((dw.toNat : Nat) : Int) = dw by omega, ← ho]; split <;> omega)
    refine v_sub (L2 := [(0, ar h), (1, ai p), (2, ai n), (3, ai force), (4, ai opens), (5, ai (fUn f p)), (6, ai (kWide f)), (7, ai (((fTu f p n force) - (4 * (fUn f p))) - 50)), (8, ai 0), (9, ai 0)]) [5, 6, 7, 8, 9, 4, 3, 2, 1, 0] rfl ?_
    exact lp60 _ (((fTu f p n force) - (4 * (fUn f p))) - 50) 0 0 rfl (by omega) (by omega) (by rfl)
  · skip
    refine v_iconst (pc := 17) dX12_allBy_17 ?_
    exact hret () _ _ _ _ _ _ trivial (congrArg (fun z => some (ai z)) (by unfold fAll kAll; rw [if_pos (by omega)])) rfl (Nat.le_of_ble_eq_true rfl) (Nat.le_of_ble_eq_true rfl) dX12_allBy_18
set_option maxHeartbeats 4000000 in
set_option maxRecDepth 100000 in
theorem c_X12_bestOf {gS : sG} (ad : Nat → Nat) (v : Nat → Int) (h : Nat) (f : Int → Int) (by0 : Int → Int) (tr0 : Int → Int) (p : Int) (n : Int) (hf : PF f p) (hg : GF f) (hn : 0 ≤ n ∧ n ≤ 99) (hwf : wfS 0 (SL f)) : Ct gS (S := (Nat → Int) × (Int → Int) × (Int → Int)) yX12_bestOf cX12_bestOf 7 (some .int) 3 76 0 0 [ar h, ai p, ai n] [(h, co 12 (mO ad v)), ((ad 9), cn 0 6 by0), ((ad 10), cn 1 64 tr0)] (fun q => q ∈ ([((ad 1), cn 0 936 f)] : aW)) (fun u => vK v u.1 ∧ u.1 15 = v 15 ∧ u.1 13 = (fBst f p n 21).2) (fun u => some (ai (fBest f p n))) (fun u => [(h, co 12 (mO ad u.1)), ((ad 9), cn 0 6 u.2.1), ((ad 10), cn 1 64 u.2.2)]) := by
  refine ct_I RX12 [(0, ar h), (1, ai p), (2, ai n)] (by decide) rfl (Nat.le_of_ble_eq_true rfl) rfl (fun x hgS hro hret => ?_)
  subst hgS
  have r0 := hro _ (mem_at 0 rfl)
  have hob := kOp_b (p := p) (more := 0) hwf hg hn (by omega)
  have hFb : ∀ k, 0 ≤ fAll f p n k (kOp f p n 0) ∧ fAll f p n k (kOp f p n 0) ≤ 10 := fun k => kAll_b _ _ _ _ _
  show V x cX12_bestOf RX12 7 (rmU 3 76 0 0) [(h, co 12 (mO ad v)), ((ad 9), cn 0 6 by0), ((ad 10), cn 1 64 tr0)] 0 [(0, ar h), (1, ai p), (2, ai n)] [] 0 0
  refine v_aload_n (pc := 0) 0 rfl dX12_bestOf_0 ?_
  refine v_iload_n (pc := 1) 1 rfl dX12_bestOf_1 ?_
  refine v_iload_n (pc := 2) 2 rfl dX12_bestOf_2 ?_
  refine v_iconst (pc := 3) dX12_bestOf_3 ?_
  refine v_callV (pc := 4) [0, 1, 2] [] [] (As := [ai p, ai n, ai 0]) (rest := []) (c_X12_opensBy ad v h f by0 tr0 p n 0 (by first | assumption | omega) (by first | assumption | omega) (by first | assumption | omega) (by first | assumption | omega) (by first | assumption | omega)) (c := 12) rfl (Or.inr ⟨0, rfl⟩) wl_X12_156 wi_X12_opensBy wv_X12_X12_opensBy_X12_opensBy wk_X12_opensBy wz_X12 md_X12_opensBy rfl (Nat.le_of_ble_eq_true rfl) ⟨Nat.le_of_ble_eq_true rfl, Nat.le_of_ble_eq_true rfl, Nat.le_of_ble_eq_true rfl, Nat.le_of_ble_eq_true rfl⟩ rfl rfl rfl rfl (by decide) (ro_cons (Or.inl r0) ro_nil) dX12_bestOf_4 (fun u hu => ?_)
  obtain ⟨v2_1, by2_2, tr2_3⟩ := u
  have g_4 : vK v v2_1 ∧ v2_1 13 = v 13 ∧ v2_1 15 = v 15 := hu
  show V x cX12_bestOf RX12 7 (rmU 3 76 0 0) [(h, co 12 (mO ad v2_1)), ((ad 9), cn 0 6 by2_2), ((ad 10), cn 1 64 tr2_3)] 7 [(0, ar h), (1, ai p), (2, ai n)] [ai (kOp f p n 0)] 0 0
  have hkeep := g_4
  refine v_istore_n (pc := 7) (L2 := [(3, ai (kOp f p n 0)), (0, ar h), (1, ai p), (2, ai n)]) rfl (by decide) dX12_bestOf_7 ?_
  refine v_iconst (pc := 8) dX12_bestOf_8 ?_
  refine v_istore (pc := 9) (L2 := [(4, ai (-1)), (3, ai (kOp f p n 0)), (0, ar h), (1, ai p), (2, ai n)]) rfl (by decide) dX12_bestOf_9 ?_
  refine v_iconst (pc := 11) dX12_bestOf_11 ?_
  refine v_istore (pc := 12) (L2 := [(5, ai 0), (4, ai (-1)), (3, ai (kOp f p n 0)), (0, ar h), (1, ai p), (2, ai n)]) rfl (by decide) dX12_bestOf_12 ?_
  have lp14 : ∀ (mm : Nat) (mo : Int) (fo : Int) (v1 : Nat → Int) (by1 : Int → Int) (tr1 : Int → Int), (21 - fo).toNat = mm → (0 ≤ fo ∧ fo ≤ 21) → (mo = (fBst f p n fo.toNat).1) → (0 < fo → v1 13 = (fBst f p n fo.toNat).2) → (vK v v1 ∧ v1 15 = v 15) → V x cX12_bestOf RX12 7 (rmU 3 76 0 0) [(h, co 12 (mO ad v1)), ((ad 9), cn 0 6 by1), ((ad 10), cn 1 64 tr1)] 14 [(0, ar h), (1, ai p), (2, ai n), (3, ai (kOp f p n 0)), (4, ai mo), (5, ai fo)] [] 0 0 := by
    intro mm
    induction mm using Nat.strongRecOn with
    | _ mm ih =>
      intro mo fo v1 by1 tr1 hmm hfo hmo hv13 hvk
      have hbb := bst_b hFb fo.toNat
      have hbe : (fBst f p n (fo + 1).toNat) = if (fBst f p n fo.toNat).1 < fAll f p n fo (kOp f p n 0) then (fAll f p n fo (kOp f p n 0), fo) else fBst f p n fo.toNat := by
        rw [show (fo + 1).toNat = fo.toNat + 1 by omega]
        have e : ((fo.toNat : Nat) : Int) = fo := by omega
        show (bst _ _) = _
        rw [bst_succ, e]
        rfl
      have hz0 : fo = 0 → (fBst f p n fo.toNat).1 = -1 := fun q => by subst q; rfl
      change -1 ≤ (fBst f p n fo.toNat).1 ∧ (fBst f p n fo.toNat).1 ≤ 10 ∧ 0 ≤ (fBst f p n fo.toNat).2 ∧ (fBst f p n fo.toNat).2 ≤ (fo.toNat : Int) ∧ (0 < fo.toNat → 0 ≤ (fBst f p n fo.toNat).1) at hbb
      refine v_iload (pc := 14) 5 rfl dX12_bestOf_14 ?_
      refine v_bipush (pc := 16) dX12_bestOf_16 (by decide) ?_
      refine v_icmp_gt (pc := 18) 74 dX12_bestOf_18 (by decide) (by unfold iB; omega) (by unfold iB; omega) (fun c_5 => ?_) (fun c_5 => ?_)
      · skip
        refine v_iload (pc := 74) 4 rfl dX12_bestOf_74 ?_
        exact hret (v1, by1, tr1) _ _ _ _ _ _ (by exact ⟨hvk.1, hvk.2, by have q := hv13 (by omega); rw [show fo = 21 by omega] at q; exact q⟩) (congrArg (fun z => some (ai z)) (by rw [hmo, show fo = 21 by omega]; rfl)) rfl (Nat.le_of_ble_eq_true rfl) (Nat.le_of_ble_eq_true rfl) dX12_bestOf_76
      · skip
        refine v_aload_n (pc := 21) 0 rfl dX12_bestOf_21 ?_
        refine v_iload_n (pc := 22) 1 rfl dX12_bestOf_22 ?_
        refine v_iload_n (pc := 23) 2 rfl dX12_bestOf_23 ?_
        refine v_iload (pc := 24) 5 rfl dX12_bestOf_24 ?_
        refine v_iload_n (pc := 26) 3 rfl dX12_bestOf_26 ?_
        refine v_callV (pc := 27) [] [0, 1, 2] [(h, co 12 (mO ad v1)), ((ad 9), cn 0 6 by1), ((ad 10), cn 1 64 tr1)] (As := [ai p, ai n, ai fo, ai (kOp f p n 0)]) (rest := []) (c_X12_allBy ad v1 h f p n fo (kOp f p n 0) (by first | assumption | omega) (by first | assumption | omega) (by first | assumption | omega) (by first | assumption | omega) (by first | assumption | omega)) (c := 12) rfl (Or.inr ⟨0, rfl⟩) wl_X12_170 wi_X12_allBy wv_X12_X12_allBy_X12_allBy wk_X12_allBy wz_X12 md_X12_allBy rfl (Nat.le_of_ble_eq_true rfl) ⟨Nat.le_of_ble_eq_true rfl, Nat.le_of_ble_eq_true rfl, Nat.le_of_ble_eq_true rfl, Nat.le_of_ble_eq_true rfl⟩ rfl rfl rfl rfl (by decide) (ro_cons (Or.inr ⟨0, rfl, by decide⟩) (ro_cons (Or.inl r0) ro_nil)) dX12_bestOf_27 (fun u hu => ?_)
        show V x cX12_bestOf RX12 7 (rmU 3 76 0 0) [(h, co 12 (mO ad v1)), ((ad 9), cn 0 6 by1), ((ad 10), cn 1 64 tr1)] 30 [(0, ar h), (1, ai p), (2, ai n), (3, ai (kOp f p n 0)), (4, ai mo), (5, ai fo)] [ai (fAll f p n fo (kOp f p n 0))] 0 0
        have hb1 := hFb fo
        refine v_istore (pc := 30) (L2 := [(6, ai (fAll f p n fo (kOp f p n 0))), (0, ar h), (1, ai p), (2, ai n), (3, ai (kOp f p n 0)), (4, ai mo), (5, ai fo)]) rfl (by decide) dX12_bestOf_30 ?_
        refine v_aload_n (pc := 32) 1 rfl dX12_bestOf_32 ?_
        refine v_iload (pc := 33) 0 rfl dX12_bestOf_33 ?_
        refine v_iload (pc := 35) 5 rfl dX12_bestOf_35 ?_
        refine v_icmp_le (pc := 37) 45 dX12_bestOf_37 (by decide) (by unfold iB; omega) (by unfold iB; omega) (fun c_6 => ?_) (fun c_6 => ?_)
        · skip
          refine v_aload_n (pc := 45) 1 rfl dX12_bestOf_45 ?_
          refine v_get (pc := 46) (v := ai (v1 13)) 13 (Or.inr ⟨0, rfl⟩) fl_12_184_12 rfl dX12_bestOf_46 ?_
          refine v_put (pc := 49) 13 0 rfl fl_12_184_12 ck_12 ft_12_13 (okV_i _) (Nat.le_of_ble_eq_true rfl) (ws2 := [(h, co 12 (mO ad (nup v1 13 (v1 13)))), ((ad 9), cn 0 6 by1), ((ad 10), cn 1 64 tr1)]) rfl dX12_bestOf_49 ?_
          refine v_iload (pc := 52) 0 rfl dX12_bestOf_52 ?_
          refine v_iload (pc := 54) 5 rfl dX12_bestOf_54 ?_
          refine v_icmp_le (pc := 56) 64 dX12_bestOf_56 (by decide) (by unfold iB; omega) (by unfold iB; omega) (fun c_7 => ?_) (fun c_7 => ?_)
          · skip
            refine v_iload (pc := 64) 5 rfl dX12_bestOf_64 ?_
            refine v_istore (pc := 66) (L2 := [(4, ai mo), (6, ai (fAll f p n fo (kOp f p n 0))), (0, ar h), (1, ai p), (2, ai n), (3, ai (kOp f p n 0)), (5, ai fo)]) rfl (by decide) dX12_bestOf_66 ?_
            refine v_iinc (pc := 68) 6 (L2 := [(5, ai (fo + 1)), (4, ai mo), (6, ai (fAll f p n fo (kOp f p n 0))), (0, ar h), (1, ai p), (2, ai n), (3, ai (kOp f p n 0))]) rfl rfl (by decide) dX12_bestOf_68 ?_
            refine v_goto (pc := 71) 14 dX12_bestOf_71 (by decide) ?_
            refine v_sub (L2 := [(0, ar h), (1, ai p), (2, ai n), (3, ai (kOp f p n 0)), (4, ai mo), (5, ai (fo + 1))]) [3, 4, 5, 6, 1, 0] rfl ?_
            exact ih _ (by omega) mo (fo + 1) (nup v1 13 (v1 13)) by1 tr1 rfl (by omega) (by rw [hbe]; split <;> first | (dsimp only; omega) | omega) (by intro _; rw [hbe]; split <;> first | (simp [nup]; done) | (simp [nup]; omega) | (simp [nup]; exact hv13 (by omega)) | (exfalso; omega)) (by exact ⟨vK_up hvk.1 (by decide) (by decide) (by decide) (by decide), hvk.2⟩)
          · skip
            refine v_iload (pc := 59) 0 rfl dX12_bestOf_59 ?_
            refine v_goto (pc := 61) 66 dX12_bestOf_61 (by decide) ?_
            refine v_istore (pc := 66) (L2 := [(4, ai (fAll f p n fo (kOp f p n 0))), (6, ai (fAll f p n fo (kOp f p n 0))), (0, ar h), (1, ai p), (2, ai n), (3, ai (kOp f p n 0)), (5, ai fo)]) rfl (by decide) dX12_bestOf_66 ?_
            refine v_iinc (pc := 68) 6 (L2 := [(5, ai (fo + 1)), (4, ai (fAll f p n fo (kOp f p n 0))), (6, ai (fAll f p n fo (kOp f p n 0))), (0, ar h), (1, ai p), (2, ai n), (3, ai (kOp f p n 0))]) rfl rfl (by decide) dX12_bestOf_68 ?_
            refine v_goto (pc := 71) 14 dX12_bestOf_71 (by decide) ?_
            refine v_sub (L2 := [(0, ar h), (1, ai p), (2, ai n), (3, ai (kOp f p n 0)), (4, ai (fAll f p n fo (kOp f p n 0))), (5, ai (fo + 1))]) [3, 4, 5, 6, 1, 0] rfl ?_
            exact ih _ (by omega) (fAll f p n fo (kOp f p n 0)) (fo + 1) (nup v1 13 (v1 13)) by1 tr1 rfl (by omega) (by rw [hbe]; split <;> first | (dsimp only; omega) | omega) (by intro _; rw [hbe]; split <;> first | (simp [nup]; done) | (simp [nup]; omega) | (simp [nup]; exact hv13 (by omega)) | (exfalso; omega)) (by exact ⟨vK_up hvk.1 (by decide) (by decide) (by decide) (by decide), hvk.2⟩)
        · skip
          refine v_iload (pc := 40) 6 rfl dX12_bestOf_40 ?_
          refine v_goto (pc := 42) 49 dX12_bestOf_42 (by decide) ?_
          refine v_put (pc := 49) 13 0 rfl fl_12_184_12 ck_12 ft_12_13 (okV_i _) (Nat.le_of_ble_eq_true rfl) (ws2 := [(h, co 12 (mO ad (nup v1 13 fo))), ((ad 9), cn 0 6 by1), ((ad 10), cn 1 64 tr1)]) rfl dX12_bestOf_49 ?_
          refine v_iload (pc := 52) 0 rfl dX12_bestOf_52 ?_
          refine v_iload (pc := 54) 5 rfl dX12_bestOf_54 ?_
          refine v_icmp_le (pc := 56) 64 dX12_bestOf_56 (by decide) (by unfold iB; omega) (by unfold iB; omega) (fun c_8 => ?_) (fun c_8 => ?_)
          · skip
            refine v_iload (pc := 64) 5 rfl dX12_bestOf_64 ?_
            refine v_istore (pc := 66) (L2 := [(4, ai mo), (6, ai (fAll f p n fo (kOp f p n 0))), (0, ar h), (1, ai p), (2, ai n), (3, ai (kOp f p n 0)), (5, ai fo)]) rfl (by decide) dX12_bestOf_66 ?_
            refine v_iinc (pc := 68) 6 (L2 := [(5, ai (fo + 1)), (4, ai mo), (6, ai (fAll f p n fo (kOp f p n 0))), (0, ar h), (1, ai p), (2, ai n), (3, ai (kOp f p n 0))]) rfl rfl (by decide) dX12_bestOf_68 ?_
            refine v_goto (pc := 71) 14 dX12_bestOf_71 (by decide) ?_
            refine v_sub (L2 := [(0, ar h), (1, ai p), (2, ai n), (3, ai (kOp f p n 0)), (4, ai mo), (5, ai (fo + 1))]) [3, 4, 5, 6, 1, 0] rfl ?_
            exact ih _ (by omega) mo (fo + 1) (nup v1 13 fo) by1 tr1 rfl (by omega) (by rw [hbe]; split <;> first | (dsimp only; omega) | omega) (by intro _; rw [hbe]; split <;> first | (simp [nup]; done) | (simp [nup]; omega) | (simp [nup]; exact hv13 (by omega)) | (exfalso; omega)) (by exact ⟨vK_up hvk.1 (by decide) (by decide) (by decide) (by decide), hvk.2⟩)
          · skip
            refine v_iload (pc := 59) 0 rfl dX12_bestOf_59 ?_
            refine v_goto (pc := 61) 66 dX12_bestOf_61 (by decide) ?_
            refine v_istore (pc := 66) (L2 := [(4, ai (fAll f p n fo (kOp f p n 0))), (6, ai (fAll f p n fo (kOp f p n 0))), (0, ar h), (1, ai p), (2, ai n), (3, ai (kOp f p n 0)), (5, ai fo)]) rfl (by decide) dX12_bestOf_66 ?_
            refine v_iinc (pc := 68) 6 (L2 := [(5, ai (fo + 1)), (4, ai (fAll f p n fo (kOp f p n 0))), (6, ai (fAll f p n fo (kOp f p n 0))), (0, ar h), (1, ai p), (2, ai n), (3, ai (kOp f p n 0))]) rfl rfl (by decide) dX12_bestOf_68 ?_
            refine v_goto (pc := 71) 14 dX12_bestOf_71 (by decide) ?_
            refine v_sub (L2 := [(0, ar h), (1, ai p), (2, ai n), (3, ai (kOp f p n 0)), (4, ai (fAll f p n fo (kOp f p n 0))), (5, ai (fo + 1))]) [3, 4, 5, 6, 1, 0] rfl ?_
            exact ih _ (by omega) (fAll f p n fo (kOp f p n 0)) (fo + 1) (nup v1 13 fo) by1 tr1 rfl (by omega) (by rw [hbe]; split <;> first | (dsimp only; omega) | omega) (by intro _; rw [hbe]; split <;> first | (simp [nup]; done) | (simp [nup]; omega) | (simp [nup]; exact hv13 (by omega)) | (exfalso; omega)) (by exact ⟨vK_up hvk.1 (by decide) (by decide) (by decide) (by decide), hvk.2⟩)
  refine v_sub (L2 := [(0, ar h), (1, ai p), (2, ai n), (3, ai (kOp f p n 0)), (4, ai (-1)), (5, ai 0)]) [3, 4, 5, 2, 1, 0] rfl ?_
  exact lp14 _ (-1) 0 v2_1 by2_2 tr2_3 rfl (by omega) (by rfl) (by intro q; exact absurd q (by decide)) (by exact ⟨hkeep.1, hkeep.2.2⟩)
