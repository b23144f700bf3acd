set_option maxHeartbeats 4000000 in
set_option maxRecDepth 100000 in
theorem c_X12_mostOf {gS : sG} (ad : Nat → Nat) (v : Nat → Int) (h : Nat) (f : Int → Int) (by0 : Int → Int) (tr0 : Int → Int) (p : Int) (hf : PF f p) (hg : GF f) (hwf : wfS 0 (SL f)) : Ct gS (S := (Nat → Int) × (Int → Int) × (Int → Int)) yX12_mostOf cX12_mostOf 3 (some .int) 4 102 0 0 [ar h, ai p] [(h, co 12 (mO ad v)), ((ad 9), cn 0 6 by0), ((ad 10), cn 1 64 tr0)] (fun q => q ∈ ([((ad 1), cn 0 936 f)] : aW)) (fun u => vK v u.1) (fun u => some (ai (fMost f p))) (fun u => [(h, co 12 (mO ad u.1)), ((ad 9), cn 0 6 u.2.1), ((ad 10), cn 1 64 u.2.2)]) := by
  refine ct_I RX12 [(0, ar h), (1, ai p)] (by decide) rfl (Nat.le_of_ble_eq_true rfl) rfl (fun x hgS hro hret => ?_)
  subst hgS
  have r0 := hro _ (mem_at 0 rfl)
  show V x cX12_mostOf RX12 3 (rmU 4 102 0 0) [(h, co 12 (mO ad v)), ((ad 9), cn 0 6 by0), ((ad 10), cn 1 64 tr0)] 0 [(0, ar h), (1, ai p)] [] 0 0
  refine v_bipush (pc := 0) dX12_mostOf_0 (by decide) ?_
  refine v_istore_n (pc := 2) (L2 := [(2, ai 99), (0, ar h), (1, ai p)]) rfl (by decide) dX12_mostOf_2 ?_
  have lp3 : ∀ (mm : Nat) (n : Int) (v1 : Nat → Int) (by1 : Int → Int) (tr1 : Int → Int), (n).toNat = mm → (0 ≤ n ∧ n ≤ 99) → (fMost f p = mst (fBest f p) n.toNat) → (vK v v1) → V x cX12_mostOf RX12 3 (rmU 4 102 0 0) [(h, co 12 (mO ad v1)), ((ad 9), cn 0 6 by1), ((ad 10), cn 1 64 tr1)] 3 [(0, ar h), (1, ai p), (2, ai n)] [] 0 0 := by
    intro mm
    induction mm using Nat.strongRecOn with
    | _ mm ih =>
      intro n v1 by1 tr1 hmm hn hm hvk
      refine v_iload_n (pc := 3) 2 rfl dX12_mostOf_3 ?_
      refine v_if_le (pc := 4) 25 dX12_mostOf_4 (by decide) (by unfold iB; omega) (fun c_1 => ?_) (fun c_1 => ?_)
      · skip
        refine v_iconst (pc := 25) dX12_mostOf_25 ?_
        exact hret (v1, by1, tr1) _ _ _ _ _ _ (by exact hvk) (congrArg (fun z => some (ai z)) (by rw [hm, show n.toNat = 0 by omega]; rfl)) rfl (Nat.le_of_ble_eq_true rfl) (Nat.le_of_ble_eq_true rfl) dX12_mostOf_26
      · skip
        refine v_aload_n (pc := 7) 0 rfl dX12_mostOf_7 ?_
        refine v_iload_n (pc := 8) 1 rfl dX12_mostOf_8 ?_
        refine v_iload_n (pc := 9) 2 rfl dX12_mostOf_9 ?_
        refine v_callV (pc := 10) [0, 1, 2] [] [] (As := [ai p, ai n]) (rest := []) (c_X12_bestOf ad v1 h f by1 tr1 p n (by first | assumption | omega) (by first | assumption | omega) (by first | assumption | omega) (by first | assumption | omega)) (c := 12) rfl (Or.inr ⟨0, rfl⟩) wl_X12_187 wi_X12_bestOf wv_X12_X12_bestOf_X12_bestOf wk_X12_bestOf wz_X12 md_X12_bestOf rfl (Nat.le_of_ble_eq_true rfl) ⟨Nat.le_of_ble_eq_true rfl, Nat.le_of_ble_eq_true rfl, Nat.le_of_ble_eq_true rfl, Nat.le_of_ble_eq_true rfl⟩ rfl rfl rfl rfl (by decide) (ro_cons (Or.inl r0) ro_nil) dX12_mostOf_10 (fun u hu => ?_)
        obtain ⟨v2_2, by2_3, tr2_4⟩ := u
        have g_5 : vK v1 v2_2 ∧ v2_2 15 = v1 15 ∧ v2_2 13 = (fBst f p n 21).2 := hu
        show V x cX12_mostOf RX12 3 (rmU 4 102 0 0) [(h, co 12 (mO ad v2_2)), ((ad 9), cn 0 6 by2_3), ((ad 10), cn 1 64 tr2_4)] 13 [(0, ar h), (1, ai p), (2, ai n)] [ai (fBest f p n)] 0 0
        have hkeep := g_5.1
        have hbb := fBest_b (f := f) (p := p) (n := n)
        refine v_iconst (pc := 13) dX12_mostOf_13 ?_
        refine v_icmp_lt (pc := 14) 19 dX12_mostOf_14 (by decide) (by unfold iB; omega) (by unfold iB; omega) (fun c_6 => ?_) (fun c_6 => ?_)
        · skip
          refine v_iinc (pc := 19) 2 (L2 := [(2, ai (n + (-1))), (0, ar h), (1, ai p)]) rfl rfl (by decide) dX12_mostOf_19 ?_
          refine v_goto (pc := 22) 3 dX12_mostOf_22 (by decide) ?_
          refine v_sub (L2 := [(0, ar h), (1, ai p), (2, ai (n + (-1)))]) [1, 2, 0] rfl ?_
          exact ih _ (by omega) (n + (-1)) v2_2 by2_3 tr2_4 rfl (by omega) (by rw [hm, show n.toNat = (n + -1).toNat + 1 by omega, mst_succ, show (((n + -1).toNat : Nat) : Int) + 1 = n by omega, if_neg (by omega)]) (by exact vK_tr hvk hkeep)
        · skip
          refine v_iload_n (pc := 17) 2 rfl dX12_mostOf_17 ?_
          exact hret (v2_2, by2_3, tr2_4) _ _ _ _ _ _ (by exact vK_tr hvk hkeep) (congrArg (fun z => some (ai z)) (by rw [hm, show n.toNat = (n + -1).toNat + 1 by omega, mst_succ, show (((n + -1).toNat : Nat) : Int) + 1 = n by omega, if_pos (by omega)])) rfl (Nat.le_of_ble_eq_true rfl) (Nat.le_of_ble_eq_true rfl) dX12_mostOf_18
  refine v_sub (L2 := [(0, ar h), (1, ai p), (2, ai 99)]) [1, 2, 0] rfl ?_
  exact lp3 _ 99 v by0 tr0 rfl (by omega) (by rfl) (by exact vK_rf v)
set_option maxHeartbeats 4000000 in
set_option maxRecDepth 100000 in
theorem c_X12_sumBy {gS : sG} (ad : Nat → Nat) (v : Nat → Int) (h : Nat) (f : Int → Int) (by0 : Int → Int) (tr0 : Int → Int) (p : Int) (n : Int) (force : Int) (hf : PF f p) (hg : GF f) (hn : 0 ≤ n ∧ n ≤ 99) (hfo : 0 ≤ force ∧ force ≤ 20) (hwf : wfS 0 (SL f)) : Ct gS (S := (Nat → Int) × (Int → Int) × (Int → Int)) yX12_sumBy cX12_sumBy 7 (some .int) 3 76 0 0 [ar h, ai p, ai n, ai force] [(h, co 12 (mO ad v)), ((ad 9), cn 0 6 by0), ((ad 10), cn 1 64 tr0)] (fun q => q ∈ ([((ad 1), cn 0 936 f)] : aW)) (fun u => vK v u.1) (fun u => some (ai (fSum f p n force 10))) (fun u => [(h, co 12 (mO ad u.1)), ((ad 9), cn 0 6 u.2.1), ((ad 10), cn 1 64 u.2.2)]) := by
  refine ct_I RX12 [(0, ar h), (1, ai p), (2, ai n), (3, ai force)] (by decide) rfl (Nat.le_of_ble_eq_true rfl) rfl (fun x hgS hro hret => ?_)
  subst hgS
  have r0 := hro _ (mem_at 0 rfl)
  have hob := kOp_b (p := p) (more := 0) hwf hg hn (by omega)
  show V x cX12_sumBy RX12 7 (rmU 3 76 0 0) [(h, co 12 (mO ad v)), ((ad 9), cn 0 6 by0), ((ad 10), cn 1 64 tr0)] 0 [(0, ar h), (1, ai p), (2, ai n), (3, ai force)] [] 0 0
  refine v_aload_n (pc := 0) 0 rfl dX12_sumBy_0 ?_
  refine v_iload_n (pc := 1) 1 rfl dX12_sumBy_1 ?_
  refine v_iload_n (pc := 2) 2 rfl dX12_sumBy_2 ?_
  refine v_iconst (pc := 3) dX12_sumBy_3 ?_
  refine v_callV (pc := 4) [0, 1, 2] [] [] (As := [ai p, ai n, ai 0]) (rest := []) (c_X12_opensBy ad v h f by0 tr0 p n 0 (by first | assumption | omega) (by first | assumption | omega) (by first | assumption | omega) (by first | assumption | omega) (by first | assumption | omega)) (c := 12) rfl (Or.inr ⟨0, rfl⟩) wl_X12_156 wi_X12_opensBy wv_X12_X12_opensBy_X12_opensBy wk_X12_opensBy wz_X12 md_X12_opensBy rfl (Nat.le_of_ble_eq_true rfl) ⟨Nat.le_of_ble_eq_true rfl, Nat.le_of_ble_eq_true rfl, Nat.le_of_ble_eq_true rfl, Nat.le_of_ble_eq_true rfl⟩ rfl rfl rfl rfl (by decide) (ro_cons (Or.inl r0) ro_nil) dX12_sumBy_4 (fun u hu => ?_)
  obtain ⟨v2_1, by2_2, tr2_3⟩ := u
  have g_4 : vK v v2_1 ∧ v2_1 13 = v 13 ∧ v2_1 15 = v 15 := hu
  show V x cX12_sumBy RX12 7 (rmU 3 76 0 0) [(h, co 12 (mO ad v2_1)), ((ad 9), cn 0 6 by2_2), ((ad 10), cn 1 64 tr2_3)] 7 [(0, ar h), (1, ai p), (2, ai n), (3, ai force)] [ai (kOp f p n 0)] 0 0
  have hkeep := g_4.1
  refine v_istore (pc := 7) (L2 := [(4, ai (kOp f p n 0)), (0, ar h), (1, ai p), (2, ai n), (3, ai force)]) rfl (by decide) dX12_sumBy_7 ?_
  refine v_iconst (pc := 9) dX12_sumBy_9 ?_
  refine v_istore (pc := 10) (L2 := [(5, ai 0), (4, ai (kOp f p n 0)), (0, ar h), (1, ai p), (2, ai n), (3, ai force)]) rfl (by decide) dX12_sumBy_10 ?_
  refine v_iconst (pc := 12) dX12_sumBy_12 ?_
  refine v_istore (pc := 13) (L2 := [(6, ai 0), (5, ai 0), (4, ai (kOp f p n 0)), (0, ar h), (1, ai p), (2, ai n), (3, ai force)]) rfl (by decide) dX12_sumBy_13 ?_
  have lp15 : ∀ (mm : Nat) (sm : Int) (dw : Int), (10 - dw).toNat = mm → (0 ≤ dw ∧ dw ≤ 10) → (sm = fSum f p n force dw.toNat) → V x cX12_sumBy RX12 7 (rmU 3 76 0 0) [(h, co 12 (mO ad v2_1)), ((ad 9), cn 0 6 by2_2), ((ad 10), cn 1 64 tr2_3)] 15 [(0, ar h), (1, ai p), (2, ai n), (3, ai force), (4, ai (kOp f p n 0)), (5, ai sm), (6, ai dw)] [] 0 0 := by
    intro mm
    induction mm using Nat.strongRecOn with
    | _ mm ih =>
      intro sm dw hmm hd hsm
      refine v_iload (pc := 15) 6 rfl dX12_sumBy_15 ?_
      refine v_bipush (pc := 17) dX12_sumBy_17 (by decide) ?_
      refine v_icmp_ge (pc := 19) 44 dX12_sumBy_19 (by decide) (by unfold iB; omega) (by unfold iB; omega) (fun c_5 => ?_) (fun c_5 => ?_)
      · skip
        refine v_iload (pc := 44) 5 rfl dX12_sumBy_44 ?_
        exact hret (v2_1, by2_2, tr2_3) _ _ _ _ _ _ (by exact hkeep) (congrArg (fun z => some (ai z)) (by rw [hsm, show dw.toNat = 10 by omega])) rfl (Nat.le_of_ble_eq_true rfl) (Nat.le_of_ble_eq_true rfl) dX12_sumBy_46
      · skip
        refine v_iload (pc := 22) 5 rfl dX12_sumBy_22 ?_
        refine v_aload_n (pc := 24) 0 rfl dX12_sumBy_24 ?_
        refine v_iload_n (pc := 25) 1 rfl dX12_sumBy_25 ?_
        refine v_iload_n (pc := 26) 2 rfl dX12_sumBy_26 ?_
        refine v_iload_n (pc := 27) 3 rfl dX12_sumBy_27 ?_
        refine v_iload (pc := 28) 6 rfl dX12_sumBy_28 ?_
        refine v_iload (pc := 30) 4 rfl dX12_sumBy_30 ?_
        refine v_callV (pc := 32) [] [0, 1, 2] [(h, co 12 (mO ad v2_1)), ((ad 9), cn 0 6 by2_2), ((ad 10), cn 1 64 tr2_3)] (As := [ai p, ai n, ai force, ai dw, ai (kOp f p n 0)]) (rest := [ai sm]) (c_X12_catches ad v2_1 h f p n force dw (kOp f p n 0) (by first | assumption | omega) (by first | assumption | omega) (by first | assumption | omega) (by first | assumption | omega) (by first | assumption | omega) (by first | assumption | omega)) (c := 12) rfl (Or.inr ⟨0, rfl⟩) wl_X12_159 wi_X12_catches wv_X12_X12_catches_X12_catches wk_X12_catches wz_X12 md_X12_catches rfl (Nat.le_of_ble_eq_true rfl) ⟨Nat.le_of_ble_eq_true rfl, Nat.le_of_ble_eq_true rfl, Nat.le_of_ble_eq_true rfl, Nat.le_of_ble_eq_true rfl⟩ rfl rfl rfl rfl (by decide) (ro_cons (Or.inr ⟨0, rfl, by decide⟩) (ro_cons (Or.inl r0) ro_nil)) dX12_sumBy_32 (fun u hu => ?_)
        show V x cX12_sumBy RX12 7 (rmU 3 76 0 0) [(h, co 12 (mO ad v2_1)), ((ad 9), cn 0 6 by2_2), ((ad 10), cn 1 64 tr2_3)] 35 [(0, ar h), (1, ai p), (2, ai n), (3, ai force), (4, ai (kOp f p n 0)), (5, ai sm), (6, ai dw)] [ai (fCat f p n force dw (kOp f p n 0)), ai sm] 0 0
        refine v_iadd (pc := 35) dX12_sumBy_35 ?_
        refine v_istore (pc := 36) (L2 := [(5, ai (sm + (fCat f p n force dw (kOp f p n 0)))), (0, ar h), (1, ai p), (2, ai n), (3, ai force), (4, ai (kOp f p n 0)), (6, ai dw)]) rfl (by decide) dX12_sumBy_36 ?_
        refine v_iinc (pc := 38) 6 (L2 := [(6, ai (dw + 1)), (5, ai (sm + (fCat f p n force dw (kOp f p n 0)))), (0, ar h), (1, ai p), (2, ai n), (3, ai force), (4, ai (kOp f p n 0))]) rfl rfl (by decide) dX12_sumBy_38 ?_
        refine v_goto (pc := 41) 15 dX12_sumBy_41 (by decide) ?_
        refine v_sub (L2 := [(0, ar h), (1, ai p), (2, ai n), (3, ai force), (4, ai (kOp f p n 0)), (5, ai (sm + (fCat f p n force dw (kOp f p n 0)))), (6, ai (dw + 1))]) [2, 3, 4, 5, 6, 1, 0] rfl ?_
        exact ih _ (by omega) (sm + (fCat f p n force dw (kOp f p n 0))) (dw + 1) rfl (by omega) (by rw [hsm, show (dw + 1).toNat = dw.toNat + 1 by omega]; show _ = smR _ _; rw [smR_succ, show ((dw.toNat : Nat) : Int) = dw by omega]; rfl)
  refine v_sub (L2 := [(0, ar h), (1, ai p), (2, ai n), (3, ai force), (4, ai (kOp f p n 0)), (5, ai 0), (6, ai 0)]) [3, 4, 5, 6, 2, 1, 0] rfl ?_
  exact lp15 _ 0 0 rfl (by omega) (by rfl)
set_option maxHeartbeats 4000000 in
set_option maxRecDepth 100000 in
theorem c_X12_learnsBy {gS : sG} (ad : Nat → Nat) (v : Nat → Int) (h : Nat) (f : Int → Int) (p : Int) (n : Int) (hf : PF f p) (hn : 0 ≤ n ∧ n ≤ 99) : Ct gS (S := Int → Int) yX12_learnsBy cX12_learnsBy 5 none 1 22 0 0 [ar h, ai p, ai n] [((ad 1), cn 0 936 f)] (fun q => q ∈ ([(h, co 12 (mO ad v))] : aW)) (fun u => u = kLrn f p n) (fun u => none) (fun u => [((ad 1), cn 0 936 u)]) := by
  refine ct_V RX12 [(0, ar h), (1, ai p), (2, ai n)] (by decide) rfl (Nat.le_of_ble_eq_true rfl) rfl (fun x hgS hnm hro hret => ?_)
  subst hgS
  have r0 := hro _ (mem_at 0 rfl)
  obtain ⟨hp, hf1, hf2, hf3, hf4, hf5, hf6, hf7, hf8⟩ := id hf
  show V x cX12_learnsBy RX12 5 (rmU 1 22 0 0) [((ad 1), cn 0 936 f)] 0 [(0, ar h), (1, ai p), (2, ai n)] [] 0 0
  refine v_aload_n (pc := 0) 0 rfl dX12_learnsBy_0 ?_
  refine v_get (pc := 1) (v := ar (ad 1)) 1 (Or.inl r0) fl_12_9_12 rfl dX12_learnsBy_1 ?_
  refine v_bipush (pc := 4) dX12_learnsBy_4 (by decide) ?_
  refine v_iload_n (pc := 6) 1 rfl dX12_learnsBy_6 ?_
  refine v_iadd (pc := 7) dX12_learnsBy_7 ?_
  refine v_iald (pc := 8) (Or.inr ⟨0, rfl⟩) (by omega) (by omega) (by decide) dX12_learnsBy_8 ?_
  refine v_istore_n (pc := 9) (L2 := [(3, ai (f (37 + p))), (0, ar h), (1, ai p), (2, ai n)]) rfl (by decide) dX12_learnsBy_9 ?_
  refine v_iload_n (pc := 10) 3 rfl dX12_learnsBy_10 ?_
  refine v_iload_n (pc := 11) 0 rfl dX12_learnsBy_11 ?_
  refine v_isub (pc := 12) dX12_learnsBy_12 ?_
  refine v_bipush (pc := 13) dX12_learnsBy_13 (by decide) ?_
  refine v_iconst (pc := 15) dX12_learnsBy_15 ?_
  refine v_callS (pc := 16) [] [0] [((ad 1), cn 0 936 f)] (As := [ai (n - (f (37 + p))), ai (-5), ai 5]) (rest := []) (c_X12_in (n - (f (37 + p))) (-5) 5 (by first | assumption | omega) (by first | assumption | omega) (by first | assumption | omega)) wl_X12_41 ws_X12_in wk_X12_in wz_X12 md_X12_in rfl (Nat.le_of_ble_eq_true rfl) ⟨Nat.le_of_ble_eq_true rfl, Nat.le_of_ble_eq_true rfl, Nat.le_of_ble_eq_true rfl, Nat.le_of_ble_eq_true rfl⟩ rfl rfl rfl rfl (by decide) ro_nil dX12_learnsBy_16 (fun u hu => ?_)
  show V x cX12_learnsBy RX12 5 (rmU 1 22 0 0) [((ad 1), cn 0 936 f)] 19 [(3, ai (f (37 + p))), (0, ar h), (1, ai p), (2, ai n)] [ai (if (-5) ≤ (n - (f (37 + p))) ∧ (n - (f (37 + p))) ≤ 5 then 1 else 0)] 0 0
  refine v_istore (pc := 19) (L2 := [(4, ai (if (-5) ≤ (n - (f (37 + p))) ∧ (n - (f (37 + p))) ≤ 5 then 1 else 0)), (3, ai (f (37 + p))), (0, ar h), (1, ai p), (2, ai n)]) rfl (by decide) dX12_learnsBy_19 ?_
  refine v_aload_n (pc := 21) 2 rfl dX12_learnsBy_21 ?_
  refine v_get (pc := 22) (v := ar (ad 1)) 1 (Or.inl r0) fl_12_9_12 rfl dX12_learnsBy_22 ?_
  refine v_bipush (pc := 25) dX12_learnsBy_25 (by decide) ?_
  refine v_iload_n (pc := 27) 3 rfl dX12_learnsBy_27 ?_
  refine v_iadd (pc := 28) dX12_learnsBy_28 ?_
  refine v_dup2 (pc := 29) rfl rfl dX12_learnsBy_29 ?_
  refine v_iald (pc := 30) (Or.inr ⟨0, rfl⟩) (by omega) (by omega) (by decide) dX12_learnsBy_30 ?_
  refine v_iload (pc := 31) 0 rfl dX12_learnsBy_31 ?_
  refine v_ifb_eq (pc := 33) 54 dX12_learnsBy_33 (by decide) (fun c_1 => ?_) (fun c_1 => ?_)
  · skip
    refine v_iconst (pc := 54) dX12_learnsBy_54 ?_
    refine v_iadd (pc := 55) dX12_learnsBy_55 ?_
    refine v_iast (pc := 56) 0 rfl (by omega) (by omega) (by decide) (ws2 := [((ad 1), cn 0 936 (aup f (19 + p) ((f (19 + p)) + 0)))]) rfl dX12_learnsBy_56 ?_
    refine v_aload_n (pc := 57) 2 rfl dX12_learnsBy_57 ?_
    refine v_get (pc := 58) (v := ar (ad 1)) 1 (Or.inl r0) fl_12_9_12 rfl dX12_learnsBy_58 ?_
    refine v_bipush (pc := 61) dX12_learnsBy_61 (by decide) ?_
    refine v_iload_n (pc := 63) 3 rfl dX12_learnsBy_63 ?_
    refine v_iadd (pc := 64) dX12_learnsBy_64 ?_
    refine v_iload_n (pc := 65) 4 rfl dX12_learnsBy_65 ?_
    refine v_iload_n (pc := 66) 1 rfl dX12_learnsBy_66 ?_
    refine v_icmp_le (pc := 67) 74 dX12_learnsBy_67 (by decide) (by unfold iB; omega) (by unfold iB; omega) (fun c_2 => ?_) (fun c_2 => ?_)
    · skip
      refine v_iload_n (pc := 74) 1 rfl dX12_learnsBy_74 ?_
      refine v_iast (pc := 75) 0 rfl (by omega) (by omega) (by decide) (ws2 := [((ad 1), cn 0 936 (aup (aup f (19 + p) ((f (19 + p)) + 0)) (37 + p) (f (37 + p))))]) rfl dX12_learnsBy_75 ?_
      exact hret (aup (aup f (19 + p) ((f (19 + p)) + 0)) (37 + p) (f (37 + p))) _ _ _ _ _ (by (unfold kLrn; (repeat' split) <;> first | rfl | (exfalso; omega) | (congr 2; omega) | (simp; done))) rfl rfl (Nat.le_of_ble_eq_true rfl) (Nat.le_of_ble_eq_true rfl) dX12_learnsBy_76
    · skip
      refine v_iload_n (pc := 70) 4 rfl dX12_learnsBy_70 ?_
      refine v_goto (pc := 71) 75 dX12_learnsBy_71 (by decide) ?_
      refine v_iast (pc := 75) 0 rfl (by omega) (by omega) (by decide) (ws2 := [((ad 1), cn 0 936 (aup (aup f (19 + p) ((f (19 + p)) + 0)) (37 + p) n))]) rfl dX12_learnsBy_75 ?_
      exact hret (aup (aup f (19 + p) ((f (19 + p)) + 0)) (37 + p) n) _ _ _ _ _ (by (unfold kLrn; (repeat' split) <;> first | rfl | (exfalso; omega) | (congr 2; omega) | (simp; done))) rfl rfl (Nat.le_of_ble_eq_true rfl) (Nat.le_of_ble_eq_true rfl) dX12_learnsBy_76
  · skip
    refine v_aload_n (pc := 36) 2 rfl dX12_learnsBy_36 ?_
    refine v_get (pc := 37) (v := ar (ad 1)) 1 (Or.inl r0) fl_12_9_12 rfl dX12_learnsBy_37 ?_
    refine v_bipush (pc := 40) dX12_learnsBy_40 (by decide) ?_
    refine v_iload_n (pc := 42) 3 rfl dX12_learnsBy_42 ?_
    refine v_iadd (pc := 43) dX12_learnsBy_43 ?_
    refine v_iald (pc := 44) (Or.inr ⟨0, rfl⟩) (by omega) (by omega) (by decide) dX12_learnsBy_44 ?_
    refine v_bipush (pc := 45) dX12_learnsBy_45 (by decide) ?_
    refine v_icmp_ge (pc := 47) 54 dX12_learnsBy_47 (by decide) (by unfold iB; omega) (by unfold iB; omega) (fun c_3 => ?_) (fun c_3 => ?_)
    · skip
      refine v_iconst (pc := 54) dX12_learnsBy_54 ?_
      refine v_iadd (pc := 55) dX12_learnsBy_55 ?_
      refine v_iast (pc := 56) 0 rfl (by omega) (by omega) (by decide) (ws2 := [((ad 1), cn 0 936 (aup f (19 + p) ((f (19 + p)) + 0)))]) rfl dX12_learnsBy_56 ?_
      refine v_aload_n (pc := 57) 2 rfl dX12_learnsBy_57 ?_
      refine v_get (pc := 58) (v := ar (ad 1)) 1 (Or.inl r0) fl_12_9_12 rfl dX12_learnsBy_58 ?_
      refine v_bipush (pc := 61) dX12_learnsBy_61 (by decide) ?_
      refine v_iload_n (pc := 63) 3 rfl dX12_learnsBy_63 ?_
      refine v_iadd (pc := 64) dX12_learnsBy_64 ?_
      refine v_iload_n (pc := 65) 4 rfl dX12_learnsBy_65 ?_
      refine v_iload_n (pc := 66) 1 rfl dX12_learnsBy_66 ?_
      refine v_icmp_le (pc := 67) 74 dX12_learnsBy_67 (by decide) (by unfold iB; omega) (by unfold iB; omega) (fun c_4 => ?_) (fun c_4 => ?_)
      · skip
        refine v_iload_n (pc := 74) 1 rfl dX12_learnsBy_74 ?_
        refine v_iast (pc := 75) 0 rfl (by omega) (by omega) (by decide) (ws2 := [((ad 1), cn 0 936 (aup (aup f (19 + p) ((f (19 + p)) + 0)) (37 + p) (f (37 + p))))]) rfl dX12_learnsBy_75 ?_
        exact hret (aup (aup f (19 + p) ((f (19 + p)) + 0)) (37 + p) (f (37 + p))) _ _ _ _ _ (by (unfold kLrn; (repeat' split) <;> first | rfl | (exfalso; omega) | (congr 2; omega) | (simp; done))) rfl rfl (Nat.le_of_ble_eq_true rfl) (Nat.le_of_ble_eq_true rfl) dX12_learnsBy_76
      · skip
        refine v_iload_n (pc := 70) 4 rfl dX12_learnsBy_70 ?_
        refine v_goto (pc := 71) 75 dX12_learnsBy_71 (by decide) ?_
        refine v_iast (pc := 75) 0 rfl (by omega) (by omega) (by decide) (ws2 := [((ad 1), cn 0 936 (aup (aup f (19 + p) ((f (19 + p)) + 0)) (37 + p) n))]) rfl dX12_learnsBy_75 ?_
        exact hret (aup (aup f (19 + p) ((f (19 + p)) + 0)) (37 + p) n) _ _ _ _ _ (by (unfold kLrn; (repeat' split) <;> first | rfl | (exfalso; omega) | (congr 2; omega) | (simp; done))) rfl rfl (Nat.le_of_ble_eq_true rfl) (Nat.le_of_ble_eq_true rfl) dX12_learnsBy_76
    · skip
      refine v_iconst (pc := 50) dX12_learnsBy_50 ?_
      refine v_goto (pc := 51) 55 dX12_learnsBy_51 (by decide) ?_
      refine v_iadd (pc := 55) dX12_learnsBy_55 ?_
      refine v_iast (pc := 56) 0 rfl (by omega) (by omega) (by decide) (ws2 := [((ad 1), cn 0 936 (aup f (19 + p) ((f (19 + p)) + 1)))]) rfl dX12_learnsBy_56 ?_
      refine v_aload_n (pc := 57) 2 rfl dX12_learnsBy_57 ?_
      refine v_get (pc := 58) (v := ar (ad 1)) 1 (Or.inl r0) fl_12_9_12 rfl dX12_learnsBy_58 ?_
      refine v_bipush (pc := 61) dX12_learnsBy_61 (by decide) ?_
      refine v_iload_n (pc := 63) 3 rfl dX12_learnsBy_63 ?_
      refine v_iadd (pc := 64) dX12_learnsBy_64 ?_
      refine v_iload_n (pc := 65) 4 rfl dX12_learnsBy_65 ?_
      refine v_iload_n (pc := 66) 1 rfl dX12_learnsBy_66 ?_
      refine v_icmp_le (pc := 67) 74 dX12_learnsBy_67 (by decide) (by unfold iB; omega) (by unfold iB; omega) (fun c_5 => ?_) (fun c_5 => ?_)
      · skip
        refine v_iload_n (pc := 74) 1 rfl dX12_learnsBy_74 ?_
        refine v_iast (pc := 75) 0 rfl (by omega) (by omega) (by decide) (ws2 := [((ad 1), cn 0 936 (aup (aup f (19 + p) ((f (19 + p)) + 1)) (37 + p) (f (37 + p))))]) rfl dX12_learnsBy_75 ?_
        exact hret (aup (aup f (19 + p) ((f (19 + p)) + 1)) (37 + p) (f (37 + p))) _ _ _ _ _ (by (unfold kLrn; (repeat' split) <;> first | rfl | (exfalso; omega) | (congr 2; omega) | (simp; done))) rfl rfl (Nat.le_of_ble_eq_true rfl) (Nat.le_of_ble_eq_true rfl) dX12_learnsBy_76
      · skip
        refine v_iload_n (pc := 70) 4 rfl dX12_learnsBy_70 ?_
        refine v_goto (pc := 71) 75 dX12_learnsBy_71 (by decide) ?_
        refine v_iast (pc := 75) 0 rfl (by omega) (by omega) (by decide) (ws2 := [((ad 1), cn 0 936 (aup (aup f (19 + p) ((f (19 + p)) + 1)) (37 + p) n))]) rfl dX12_learnsBy_75 ?_
        exact hret (aup (aup f (19 + p) ((f (19 + p)) + 1)) (37 + p) n) _ _ _ _ _ (by (unfold kLrn; (repeat' split) <;> first | rfl | (exfalso; omega) | (congr 2; omega) | (simp; done))) rfl rfl (Nat.le_of_ble_eq_true rfl) (Nat.le_of_ble_eq_true rfl) dX12_learnsBy_76
set_option maxHeartbeats 4000000 in
set_option maxRecDepth 100000 in
theorem c_X12_power {gS : sG} (n : Int) (k : Int) (hn : 0 ≤ n ∧ n ≤ 10) (hk : 0 ≤ k ∧ k ≤ 20) : Ct gS (S := Unit) yX12_power cX12_power 5 (some .long) 0 0 0 0 [ai n, ai k] [] (fun q => q ∈ ([] : aW)) (fun _ => True) (fun _ => some (al (n ^ k.toNat))) (fun _ => []) := by
  refine ct_L RX12 [(0, ai n), (1, ai k)] (by decide) rfl (Nat.le_of_ble_eq_true rfl) rfl (fun x hgS hro hret => ?_)
  subst hgS
  show V x cX12_power RX12 5 (rmU 0 0 0 0) [] 0 [(0, ai n), (1, ai k)] [] 0 0
  refine v_lconst1 (pc := 0) dX12_power_0 ?_
  refine v_lstore_n (pc := 1) (L2 := [(2, al 1), (0, ai n), (1, ai k)]) rfl (by decide) dX12_power_1 ?_
  refine v_iconst (pc := 2) dX12_power_2 ?_
  refine v_istore (pc := 3) (L2 := [(4, ai 0), (2, al 1), (0, ai n), (1, ai k)]) rfl (by decide) dX12_power_3 ?_
  have lp5 : ∀ (mm : Nat) (pw : Int) (j : Int), (k - j).toNat = mm → (0 ≤ j ∧ j ≤ k) → (pw = n ^ j.toNat) → V x cX12_power RX12 5 (rmU 0 0 0 0) [] 5 [(0, ai n), (1, ai k), (2, al pw), (4, ai j)] [] 0 0 := by
    intro mm
    induction mm using Nat.strongRecOn with
    | _ mm ih =>
      intro pw j hmm hj hpw
      refine v_iload (pc := 5) 3 rfl dX12_power_5 ?_
      refine v_iload_n (pc := 7) 1 rfl dX12_power_7 ?_
      refine v_icmp_ge (pc := 8) 22 dX12_power_8 (by decide) (by unfold iB; omega) (by unfold iB; omega) (fun c_1 => ?_) (fun c_1 => ?_)
      · skip
        refine v_lload_n (pc := 22) 2 rfl dX12_power_22 ?_
        exact hret () _ _ _ _ _ _ trivial (congrArg (fun z => some (al z)) (by rw [hpw, show j = k by omega])) rfl (Nat.le_of_ble_eq_true rfl) (Nat.le_of_ble_eq_true rfl) dX12_power_23
      · skip
        refine v_lload_n (pc := 11) 2 rfl dX12_power_11 ?_
        refine v_iload_n (pc := 12) 0 rfl dX12_power_12 ?_
        refine v_i2l (pc := 13) (by unfold iB; omega) dX12_power_13 ?_
        refine v_lmul (pc := 14) dX12_power_14 ?_
        refine v_lstore_n (pc := 15) (L2 := [(2, al (pw * n)), (0, ai n), (1, ai k), (4, ai j)]) rfl (by decide) dX12_power_15 ?_
        refine v_iinc (pc := 16) 3 (L2 := [(4, ai (j + 1)), (2, al (pw * n)), (0, ai n), (1, ai k)]) rfl rfl (by decide) dX12_power_16 ?_
        refine v_goto (pc := 19) 5 dX12_power_19 (by decide) ?_
        refine v_sub (L2 := [(0, ai n), (1, ai k), (2, al (pw * n)), (4, ai (j + 1))]) [2, 3, 1, 0] rfl ?_
        exact ih _ (by omega) (pw * n) (j + 1) rfl (by omega) (by rw [hpw, show (j + 1).toNat = j.toNat + 1 by omega, Int.pow_succ])
  refine v_sub (L2 := [(0, ai n), (1, ai k), (2, al 1), (4, ai 0)]) [2, 3, 1, 0] rfl ?_
  exact lp5 _ 1 0 rfl (by omega) (by simp)
set_option maxHeartbeats 4000000 in
set_option maxRecDepth 100000 in
theorem c_X12_lowest {gS : sG} (up : Int) (low : Int) (part : Int) (hu : 0 ≤ up ∧ up ≤ 1000000000000) (hl : 0 < low ∧ low ≤ 1000000000000) (hp : -2147483648 ≤ part ∧ part < 2147483648) : Ct gS (S := Unit) yX12_lowest cX12_lowest 11 (some .long) 0 0 0 0 [al up, al low, ai part] [] (fun q => q ∈ ([] : aW)) (fun _ => True) (fun _ => some (al (kFr up low part))) (fun _ => []) := by
  refine ct_L RX12 [(0, al up), (2, al low), (4, ai part)] (by decide) rfl (Nat.le_of_ble_eq_true rfl) rfl (fun x hgS hro hret => ?_)
  subst hgS
  show V x cX12_lowest RX12 11 (rmU 0 0 0 0) [] 0 [(0, al up), (2, al low), (4, ai part)] [] 0 0
  refine v_lload_n (pc := 0) 0 rfl dX12_lowest_0 ?_
  refine v_lstore (pc := 1) (L2 := [(5, al up), (0, al up), (2, al low), (4, ai part)]) rfl (by decide) dX12_lowest_1 ?_
  refine v_lload_n (pc := 3) 2 rfl dX12_lowest_3 ?_
  refine v_lstore (pc := 4) (L2 := [(7, al low), (5, al up), (0, al up), (2, al low), (4, ai part)]) rfl (by decide) dX12_lowest_4 ?_
  have lp6 : ∀ (mm : Nat) (xx : Int) (yy : Int), (yy).toNat = mm → (0 ≤ xx ∧ xx ≤ 1000000000000) → (0 ≤ yy ∧ yy ≤ 1000000000000) → (kGcd xx yy = kGcd up low) → (0 < xx ∨ 0 < yy) → V x cX12_lowest RX12 11 (rmU 0 0 0 0) [] 6 [(0, al up), (2, al low), (4, ai part), (5, al xx), (7, al yy)] [] 0 0 := by
    intro mm
    induction mm using Nat.strongRecOn with
    | _ mm ih =>
      intro xx yy hmm hx hy hgc hpos
      refine v_lload (pc := 6) 4 rfl dX12_lowest_6 ?_
      refine v_lconst0 (pc := 8) dX12_lowest_8 ?_
      refine v_lcmp (pc := 9) (by unfold lB; omega) (by unfold lB; omega) dX12_lowest_9 ?_
      refine v_if_eq (pc := 10) 31 dX12_lowest_10 (by decide) (acmp_iB _ _) (fun c_1 => ?_) (fun c_1 => ?_)
      · skip
        have c_1 := acmp_eq.mp c_1
        refine v_iload (pc := 31) 2 rfl dX12_lowest_31 ?_
        refine v_if_ne (pc := 33) 40 dX12_lowest_33 (by decide) (by unfold iB; omega) (fun c_2 => ?_) (fun c_2 => ?_)
        · skip
          refine v_lload_n (pc := 40) 1 rfl dX12_lowest_40 ?_
          refine v_lload (pc := 41) 3 rfl dX12_lowest_41 ?_
          refine v_ldiv (pc := 43) (by omega) (by omega) (by unfold lB; omega) (by unfold lB; omega) dX12_lowest_43 ?_
          exact hret () _ _ _ _ _ _ trivial (congrArg (fun z => some (al z)) (by (have e0 : yy = 0 := (by omega)); subst e0; rw [kGcd_0 hx.1] at hgc; unfold kFr; rw [← hgc]; first | rw [if_pos (by omega)] | rw [if_neg (by omega)])) rfl (Nat.le_of_ble_eq_true rfl) (Nat.le_of_ble_eq_true rfl) dX12_lowest_44
        · skip
          refine v_lload_n (pc := 36) 0 rfl dX12_lowest_36 ?_
          refine v_goto (pc := 37) 41 dX12_lowest_37 (by decide) ?_
          refine v_lload (pc := 41) 3 rfl dX12_lowest_41 ?_
          refine v_ldiv (pc := 43) (by omega) (by omega) (by unfold lB; omega) (by unfold lB; omega) dX12_lowest_43 ?_
          exact hret () _ _ _ _ _ _ trivial (congrArg (fun z => some (al z)) (by (have e0 : yy = 0 := (by omega)); subst e0; rw [kGcd_0 hx.1] at hgc; unfold kFr; rw [← hgc]; first | rw [if_pos (by omega)] | rw [if_neg (by omega)])) rfl (Nat.le_of_ble_eq_true rfl) (Nat.le_of_ble_eq_true rfl) dX12_lowest_44
      · skip
        have c_1 : ¬ _ = _ := fun z => c_1 (acmp_eq.mpr z)
        have hmy : 0 ≤ xx % yy ∧ xx % yy ≤ 1000000000000 := ⟨Int.emod_nonneg xx (by omega), Int.le_of_lt (Int.lt_of_lt_of_le (Int.emod_lt_of_pos xx (by omega)) hy.2)⟩
        have hmy2 := Int.emod_lt_of_pos xx (b := yy) (by omega)
        refine v_lload (pc := 13) 3 rfl dX12_lowest_13 ?_
        refine v_lload (pc := 15) 4 rfl dX12_lowest_15 ?_
        refine v_lrem (pc := 17) (by omega) (by omega) (by unfold lB; omega) (by unfold lB; omega) dX12_lowest_17 ?_
        refine v_lstore (pc := 18) (L2 := [(9, al (xx % yy)), (0, al up), (2, al low), (4, ai part), (5, al xx), (7, al yy)]) rfl (by decide) dX12_lowest_18 ?_
        refine v_lload (pc := 20) 5 rfl dX12_lowest_20 ?_
        refine v_lstore (pc := 22) (L2 := [(5, al yy), (9, al (xx % yy)), (0, al up), (2, al low), (4, ai part), (7, al yy)]) rfl (by decide) dX12_lowest_22 ?_
        refine v_lload (pc := 24) 1 rfl dX12_lowest_24 ?_
        refine v_lstore (pc := 26) (L2 := [(7, al (xx % yy)), (5, al yy), (9, al (xx % yy)), (0, al up), (2, al low), (4, ai part)]) rfl (by decide) dX12_lowest_26 ?_
        refine v_goto (pc := 28) 6 dX12_lowest_28 (by decide) ?_
        refine v_sub (L2 := [(0, al up), (2, al low), (4, ai part), (5, al yy), (7, al (xx % yy))]) [3, 4, 5, 1, 0] rfl ?_
        exact ih _ (by omega) yy (xx % yy) rfl (by omega) (by exact hmy) (by rw [kGcd_step (by omega) (by omega)]; exact hgc) (by omega)
  refine v_sub (L2 := [(0, al up), (2, al low), (4, ai part), (5, al up), (7, al low)]) [2, 3, 4, 1, 0] rfl ?_
  exact lp6 _ up low rfl (by omega) (by omega) (by rfl) (by omega)
set_option maxHeartbeats 4000000 in
set_option maxRecDepth 100000 in
theorem c_X12_isUnder {gS : sG} (kd : Int) (k : Int) (hb_kd : -2147483648 ≤ kd ∧ kd < 2147483648) (hk : -2147483640 ≤ k ∧ k < 2147483640) : Ct gS (S := Unit) yX12_isUnder cX12_isUnder 2 (some .boolean) 0 0 0 0 [ai kd, ai k] [] (fun q => q ∈ ([] : aW)) (fun _ => True) (fun _ => some (ai (if k = 0 ∨ k = kd ∨ (0 < k ∧ k < 4 ∧ kd = k + 3) then 1 else 0))) (fun _ => []) := by
  refine ct_Z RX12 [(0, ai kd), (1, ai k)] (by decide) rfl (Nat.le_of_ble_eq_true rfl) rfl (fun x hgS hro hret => ?_)
  subst hgS
  show V x cX12_isUnder RX12 2 (rmU 0 0 0 0) [] 0 [(0, ai kd), (1, ai k)] [] 0 0
  refine v_iload_n (pc := 0) 1 rfl dX12_isUnder_0 ?_
  refine v_if_eq (pc := 1) 25 dX12_isUnder_1 (by decide) (by unfold iB; omega) (fun c_1 => ?_) (fun c_1 => ?_)
  · skip
    refine v_iconst (pc := 25) dX12_isUnder_25 ?_
    refine v_goto (pc := 26) 30 dX12_isUnder_26 (by decide) ?_
    exact hret () _ _ _ _ _ _ trivial (congrArg (fun z => some (ai z)) (by split <;> omega)) (Or.inr rfl) rfl (Nat.le_of_ble_eq_true rfl) (Nat.le_of_ble_eq_true rfl) dX12_isUnder_30
  · skip
    refine v_iload_n (pc := 4) 1 rfl dX12_isUnder_4 ?_
    refine v_iload_n (pc := 5) 0 rfl dX12_isUnder_5 ?_
    refine v_icmp_eq (pc := 6) 25 dX12_isUnder_6 (by decide) (by unfold iB; omega) (by unfold iB; omega) (fun c_2 => ?_) (fun c_2 => ?_)
    · skip
      refine v_iconst (pc := 25) dX12_isUnder_25 ?_
      refine v_goto (pc := 26) 30 dX12_isUnder_26 (by decide) ?_
      exact hret () _ _ _ _ _ _ trivial (congrArg (fun z => some (ai z)) (by split <;> omega)) (Or.inr rfl) rfl (Nat.le_of_ble_eq_true rfl) (Nat.le_of_ble_eq_true rfl) dX12_isUnder_30
    · skip
      refine v_iload_n (pc := 9) 1 rfl dX12_isUnder_9 ?_
      refine v_if_le (pc := 10) 29 dX12_isUnder_10 (by decide) (by unfold iB; omega) (fun c_3 => ?_) (fun c_3 => ?_)
      · skip
        refine v_iconst (pc := 29) dX12_isUnder_29 ?_
        exact hret () _ _ _ _ _ _ trivial (congrArg (fun z => some (ai z)) (by split <;> omega)) (Or.inl rfl) rfl (Nat.le_of_ble_eq_true rfl) (Nat.le_of_ble_eq_true rfl) dX12_isUnder_30
      · skip
        refine v_iload_n (pc := 13) 1 rfl dX12_isUnder_13 ?_
        refine v_iconst (pc := 14) dX12_isUnder_14 ?_
        refine v_icmp_ge (pc := 15) 29 dX12_isUnder_15 (by decide) (by unfold iB; omega) (by unfold iB; omega) (fun c_4 => ?_) (fun c_4 => ?_)
        · skip
          refine v_iconst (pc := 29) dX12_isUnder_29 ?_
          exact hret () _ _ _ _ _ _ trivial (congrArg (fun z => some (ai z)) (by split <;> omega)) (Or.inl rfl) rfl (Nat.le_of_ble_eq_true rfl) (Nat.le_of_ble_eq_true rfl) dX12_isUnder_30
        · skip
          refine v_iload_n (pc := 18) 0 rfl dX12_isUnder_18 ?_
          refine v_iload_n (pc := 19) 1 rfl dX12_isUnder_19 ?_
          refine v_iconst (pc := 20) dX12_isUnder_20 ?_
          refine v_iadd (pc := 21) dX12_isUnder_21 ?_
          refine v_icmp_ne (pc := 22) 29 dX12_isUnder_22 (by decide) (by unfold iB; omega) (by unfold iB; omega) (fun c_5 => ?_) (fun c_5 => ?_)
          · skip
            refine v_iconst (pc := 29) dX12_isUnder_29 ?_
            exact hret () _ _ _ _ _ _ trivial (congrArg (fun z => some (ai z)) (by split <;> omega)) (Or.inl rfl) rfl (Nat.le_of_ble_eq_true rfl) (Nat.le_of_ble_eq_true rfl) dX12_isUnder_30
          · skip
            refine v_iconst (pc := 25) dX12_isUnder_25 ?_
            refine v_goto (pc := 26) 30 dX12_isUnder_26 (by decide) ?_
            exact hret () _ _ _ _ _ _ trivial (congrArg (fun z => some (ai z)) (by split <;> omega)) (Or.inr rfl) rfl (Nat.le_of_ble_eq_true rfl) (Nat.le_of_ble_eq_true rfl) dX12_isUnder_30
