set_option maxHeartbeats 4000000 in
set_option maxRecDepth 100000 in
theorem c_X12_looksForMosts {gS : sG} (ad : Nat → Nat) (v : Nat → Int) (h : Nat) (f : Int → Int) (by0 : Int → Int) (tr0 : Int → Int) (ms : Int → Int) (hS : SOK f) : Ct gS (S := (Int → Int) × (Nat → Int) × (Int → Int) × (Int → Int)) yX12_looksForMosts cX12_looksForMosts 2 none 5 124 0 0 [ar h] [((ad 18), cn 0 6 ms), (h, co 12 (mO ad v)), ((ad 9), cn 0 6 by0), ((ad 10), cn 1 64 tr0)] (fun q => q ∈ ([((ad 1), cn 0 936 f)] : aW)) (fun u => (∀ j : Int, 0 ≤ j → j < f 0 → u.1 j = fMost f j) ∧ vK v u.2.1) (fun u => none) (fun u => [((ad 18), cn 0 6 u.1), (h, co 12 (mO ad u.2.1)), ((ad 9), cn 0 6 u.2.2.1), ((ad 10), cn 1 64 u.2.2.2)]) := by
  refine ct_V RX12 [(0, ar h)] (by decide) rfl (Nat.le_of_ble_eq_true rfl) rfl (fun x hgS hnm hro hret => ?_)
  subst hgS
  have r0 := hro _ (mem_at 0 rfl)
  obtain ⟨hg, hSp, hSh, hSs, hSb, hSt, hwf⟩ := id hS
  obtain ⟨hg0, hg1, hg2, hg3, hg4, hg5, hg6, hg7⟩ := id hg
  show V x cX12_looksForMosts RX12 2 (rmU 5 124 0 0) [((ad 18), cn 0 6 ms), (h, co 12 (mO ad v)), ((ad 9), cn 0 6 by0), ((ad 10), cn 1 64 tr0)] 0 [(0, ar h)] [] 0 0
  refine v_iconst (pc := 0) dX12_looksForMosts_0 ?_
  refine v_istore_n (pc := 1) (L2 := [(1, ai 0), (0, ar h)]) rfl (by decide) dX12_looksForMosts_1 ?_
  have lp2 : ∀ (mm : Nat) (p : Int) (ms1 : Int → Int) (v1 : Nat → Int) (by1 : Int → Int) (tr1 : Int → Int), (f 0 - p).toNat = mm → (0 ≤ p ∧ p ≤ f 0) → (∀ j : Int, 0 ≤ j → j < p → ms1 j = fMost f j) → (vK v v1) → V x cX12_looksForMosts RX12 2 (rmU 5 124 0 0) [((ad 18), cn 0 6 ms1), (h, co 12 (mO ad v1)), ((ad 9), cn 0 6 by1), ((ad 10), cn 1 64 tr1)] 2 [(0, ar h), (1, ai p)] [] 0 0 := by
    intro mm
    induction mm using Nat.strongRecOn with
    | _ mm ih =>
      intro p ms1 v1 by1 tr1 hmm hp hms hvk
      refine v_iload_n (pc := 2) 1 rfl dX12_looksForMosts_2 ?_
      refine v_aload_n (pc := 3) 0 rfl dX12_looksForMosts_3 ?_
      refine v_get (pc := 4) (v := ar (ad 1)) 1 (Or.inr ⟨1, rfl⟩) fl_12_9_12 rfl dX12_looksForMosts_4 ?_
      refine v_iconst (pc := 7) dX12_looksForMosts_7 ?_
      refine v_iald (pc := 8) (Or.inl r0) (by omega) (by omega) (by decide) dX12_looksForMosts_8 ?_
      refine v_icmp_ge (pc := 9) 29 dX12_looksForMosts_9 (by decide) (by unfold iB; omega) (by unfold iB; omega) (fun c_1 => ?_) (fun c_1 => ?_)
      · skip
        exact hret (ms1, v1, by1, tr1) _ _ _ _ _ (by exact ⟨fun j j0 j1 => hms j j0 (by omega), hvk⟩) rfl rfl (Nat.le_of_ble_eq_true rfl) (Nat.le_of_ble_eq_true rfl) dX12_looksForMosts_29
      · skip
        have hf := hSp p (by omega) (by omega)
        refine v_aload_n (pc := 12) 0 rfl dX12_looksForMosts_12 ?_
        refine v_get (pc := 13) (v := ar (ad 18)) 18 (Or.inr ⟨1, rfl⟩) fl_12_28_12 rfl dX12_looksForMosts_13 ?_
        refine v_iload_n (pc := 16) 1 rfl dX12_looksForMosts_16 ?_
        refine v_aload_n (pc := 17) 0 rfl dX12_looksForMosts_17 ?_
        refine v_iload_n (pc := 18) 1 rfl dX12_looksForMosts_18 ?_
        refine v_callV (pc := 19) [1, 2, 3] [0] [((ad 18), cn 0 6 ms1)] (As := [ai p]) (rest := [ai p, ar (ad 18)]) (c_X12_mostOf ad v1 h f by1 tr1 p (by assumption) (by assumption) (by assumption)) (c := 12) rfl (Or.inr ⟨1, rfl⟩) wl_X12_190 wi_X12_mostOf wv_X12_X12_mostOf_X12_mostOf wk_X12_mostOf wz_X12 md_X12_mostOf rfl (Nat.le_of_ble_eq_true rfl) ⟨Nat.le_of_ble_eq_true rfl, Nat.le_of_ble_eq_true rfl, Nat.le_of_ble_eq_true rfl, Nat.le_of_ble_eq_true rfl⟩ rfl rfl rfl rfl (by decide) (ro_cons (Or.inl r0) ro_nil) dX12_looksForMosts_19 (fun u hu => ?_)
        obtain ⟨v2_2, by2_3, tr2_4⟩ := u
        have g_5 : vK v1 v2_2 := hu
        show V x cX12_looksForMosts RX12 2 (rmU 5 124 0 0) [((ad 18), cn 0 6 ms1), (h, co 12 (mO ad v2_2)), ((ad 9), cn 0 6 by2_3), ((ad 10), cn 1 64 tr2_4)] 22 [(0, ar h), (1, ai p)] [ai (fMost f p), ai p, ar (ad 18)] 0 0
        have hkeep := g_5
        refine v_iast (pc := 22) 0 rfl (by omega) (by omega) (by decide) (ws2 := [((ad 18), cn 0 6 (aup ms1 p (fMost f p))), (h, co 12 (mO ad v2_2)), ((ad 9), cn 0 6 by2_3), ((ad 10), cn 1 64 tr2_4)]) rfl dX12_looksForMosts_22 ?_
        refine v_iinc (pc := 23) 1 (L2 := [(1, ai (p + 1)), (0, ar h)]) rfl rfl (by decide) dX12_looksForMosts_23 ?_
        refine v_goto (pc := 26) 2 dX12_looksForMosts_26 (by decide) ?_
        refine v_sub (L2 := [(0, ar h), (1, ai (p + 1))]) [1, 0] rfl ?_
        exact ih _ (by omega) (p + 1) (aup ms1 p (fMost f p)) v2_2 by2_3 tr2_4 rfl (by omega) (by intro j j0 j1; unfold aup; split <;> first | (rename_i e; rw [e]; done) | exact hms j j0 (by omega)) (by exact vK_tr hvk hkeep)
  refine v_sub (L2 := [(0, ar h), (1, ai 0)]) [1, 0] rfl ?_
  exact lp2 _ 0 ms v by0 tr0 rfl (by omega) (by intro j j0 j1; omega) (by exact vK_rf v)
set_option maxHeartbeats 4000000 in
set_option maxRecDepth 100000 in
theorem c_X12_aheadOf {gS : sG} (ad : Nat → Nat) (v : Nat → Int) (h : Nat) (f : Int → Int) (ms : Int → Int) (p : Int) (hg : GF f) (hmsb : ∀ j : Int, 0 ≤ j → j < f 0 → 0 ≤ ms j ∧ ms j ≤ 99) (hp : 0 ≤ p ∧ p < f 0) : Ct gS (S := Unit) yX12_aheadOf cX12_aheadOf 4 (some .int) 0 0 0 0 [ar h, ai p] [] (fun q => q ∈ ([(h, co 12 (mO ad v)), ((ad 1), cn 0 936 f), ((ad 18), cn 0 6 ms)] : aW)) (fun _ => True) (fun _ => some (ai (ahd ms p (f 0).toNat))) (fun _ => []) := by
  refine ct_I RX12 [(0, ar h), (1, ai p)] (by decide) rfl (Nat.le_of_ble_eq_true rfl) rfl (fun x hgS hro hret => ?_)
  subst hgS
  have r0 := hro _ (mem_at 0 rfl)
  have r1 := hro _ (mem_at 1 rfl)
  have r2 := hro _ (mem_at 2 rfl)
  obtain ⟨hg0, hg1, hg2, hg3, hg4, hg5, hg6, hg7⟩ := id hg
  have hmp := hmsb p hp.1 hp.2
  show V x cX12_aheadOf RX12 4 (rmU 0 0 0 0) [] 0 [(0, ar h), (1, ai p)] [] 0 0
  refine v_iconst (pc := 0) dX12_aheadOf_0 ?_
  refine v_istore_n (pc := 1) (L2 := [(2, ai 0), (0, ar h), (1, ai p)]) rfl (by decide) dX12_aheadOf_1 ?_
  refine v_iconst (pc := 2) dX12_aheadOf_2 ?_
  refine v_istore_n (pc := 3) (L2 := [(3, ai 0), (2, ai 0), (0, ar h), (1, ai p)]) rfl (by decide) dX12_aheadOf_3 ?_
  have lp4 : ∀ (mm : Nat) (n : Int) (q : Int), (f 0 - q).toNat = mm → (0 ≤ q ∧ q ≤ f 0) → (n = ahd ms p q.toNat) → V x cX12_aheadOf RX12 4 (rmU 0 0 0 0) [] 4 [(0, ar h), (1, ai p), (2, ai n), (3, ai q)] [] 0 0 := by
    intro mm
    induction mm using Nat.strongRecOn with
    | _ mm ih =>
      intro n q hmm hq hn
      refine v_iload_n (pc := 4) 3 rfl dX12_aheadOf_4 ?_
      refine v_aload_n (pc := 5) 0 rfl dX12_aheadOf_5 ?_
      refine v_get (pc := 6) (v := ar (ad 1)) 1 (Or.inl r0) fl_12_9_12 rfl dX12_aheadOf_6 ?_
      refine v_iconst (pc := 9) dX12_aheadOf_9 ?_
      refine v_iald (pc := 10) (Or.inl r1) (by omega) (by omega) (by decide) dX12_aheadOf_10 ?_
      refine v_icmp_ge (pc := 11) 63 dX12_aheadOf_11 (by decide) (by unfold iB; omega) (by unfold iB; omega) (fun c_1 => ?_) (fun c_1 => ?_)
      · skip
        refine v_iload_n (pc := 63) 2 rfl dX12_aheadOf_63 ?_
        exact hret () _ _ _ _ _ _ trivial (congrArg (fun z => some (ai z)) (by rw [hn, show q = f 0 by omega])) rfl (Nat.le_of_ble_eq_true rfl) (Nat.le_of_ble_eq_true rfl) dX12_aheadOf_64
      · skip
        have hmq := hmsb q (by omega) (by omega)
        refine v_iload_n (pc := 14) 2 rfl dX12_aheadOf_14 ?_
        refine v_aload_n (pc := 15) 0 rfl dX12_aheadOf_15 ?_
        refine v_get (pc := 16) (v := ar (ad 18)) 18 (Or.inl r0) fl_12_28_12 rfl dX12_aheadOf_16 ?_
        refine v_iload_n (pc := 19) 3 rfl dX12_aheadOf_19 ?_
        refine v_iald (pc := 20) (Or.inl r2) (by omega) (by omega) (by decide) dX12_aheadOf_20 ?_
        refine v_aload_n (pc := 21) 0 rfl dX12_aheadOf_21 ?_
        refine v_get (pc := 22) (v := ar (ad 18)) 18 (Or.inl r0) fl_12_28_12 rfl dX12_aheadOf_22 ?_
        refine v_iload_n (pc := 25) 1 rfl dX12_aheadOf_25 ?_
        refine v_iald (pc := 26) (Or.inl r2) (by omega) (by omega) (by decide) dX12_aheadOf_26 ?_
        refine v_icmp_gt (pc := 27) 50 dX12_aheadOf_27 (by decide) (by unfold iB; omega) (by unfold iB; omega) (fun c_2 => ?_) (fun c_2 => ?_)
        · skip
          refine v_iconst (pc := 50) dX12_aheadOf_50 ?_
          refine v_goto (pc := 51) 55 dX12_aheadOf_51 (by decide) ?_
          refine v_iadd (pc := 55) dX12_aheadOf_55 ?_
          refine v_istore_n (pc := 56) (L2 := [(2, ai (n + 1)), (0, ar h), (1, ai p), (3, ai q)]) rfl (by decide) dX12_aheadOf_56 ?_
          refine v_iinc (pc := 57) 3 (L2 := [(3, ai (q + 1)), (2, ai (n + 1)), (0, ar h), (1, ai p)]) rfl rfl (by decide) dX12_aheadOf_57 ?_
          refine v_goto (pc := 60) 4 dX12_aheadOf_60 (by decide) ?_
          refine v_sub (L2 := [(0, ar h), (1, ai p), (2, ai (n + 1)), (3, ai (q + 1))]) [2, 3, 1, 0] rfl ?_
          exact ih _ (by omega) (n + 1) (q + 1) rfl (by omega) (by rw [hn, show (q + 1).toNat = q.toNat + 1 by omega, ahd_succ, show ((q.toNat : Nat) : Int) = q by omega]; congr 1; first | rw [if_pos (by omega)] | rw [if_neg (by omega)])
        · skip
          refine v_aload_n (pc := 30) 0 rfl dX12_aheadOf_30 ?_
          refine v_get (pc := 31) (v := ar (ad 18)) 18 (Or.inl r0) fl_12_28_12 rfl dX12_aheadOf_31 ?_
          refine v_iload_n (pc := 34) 3 rfl dX12_aheadOf_34 ?_
          refine v_iald (pc := 35) (Or.inl r2) (by omega) (by omega) (by decide) dX12_aheadOf_35 ?_
          refine v_aload_n (pc := 36) 0 rfl dX12_aheadOf_36 ?_
          refine v_get (pc := 37) (v := ar (ad 18)) 18 (Or.inl r0) fl_12_28_12 rfl dX12_aheadOf_37 ?_
          refine v_iload_n (pc := 40) 1 rfl dX12_aheadOf_40 ?_
          refine v_iald (pc := 41) (Or.inl r2) (by omega) (by omega) (by decide) dX12_aheadOf_41 ?_
          refine v_icmp_ne (pc := 42) 54 dX12_aheadOf_42 (by decide) (by unfold iB; omega) (by unfold iB; omega) (fun c_3 => ?_) (fun c_3 => ?_)
          · skip
            refine v_iconst (pc := 54) dX12_aheadOf_54 ?_
            refine v_iadd (pc := 55) dX12_aheadOf_55 ?_
            refine v_istore_n (pc := 56) (L2 := [(2, ai (n + 0)), (0, ar h), (1, ai p), (3, ai q)]) rfl (by decide) dX12_aheadOf_56 ?_
            refine v_iinc (pc := 57) 3 (L2 := [(3, ai (q + 1)), (2, ai (n + 0)), (0, ar h), (1, ai p)]) rfl rfl (by decide) dX12_aheadOf_57 ?_
            refine v_goto (pc := 60) 4 dX12_aheadOf_60 (by decide) ?_
            refine v_sub (L2 := [(0, ar h), (1, ai p), (2, ai (n + 0)), (3, ai (q + 1))]) [2, 3, 1, 0] rfl ?_
            exact ih _ (by omega) (n + 0) (q + 1) rfl (by omega) (by rw [hn, show (q + 1).toNat = q.toNat + 1 by omega, ahd_succ, show ((q.toNat : Nat) : Int) = q by omega]; congr 1; first | rw [if_pos (by omega)] | rw [if_neg (by omega)])
          · skip
            refine v_iload_n (pc := 45) 3 rfl dX12_aheadOf_45 ?_
            refine v_iload_n (pc := 46) 1 rfl dX12_aheadOf_46 ?_
            refine v_icmp_ge (pc := 47) 54 dX12_aheadOf_47 (by decide) (by unfold iB; omega) (by unfold iB; omega) (fun c_4 => ?_) (fun c_4 => ?_)
            · skip
              refine v_iconst (pc := 54) dX12_aheadOf_54 ?_
              refine v_iadd (pc := 55) dX12_aheadOf_55 ?_
              refine v_istore_n (pc := 56) (L2 := [(2, ai (n + 0)), (0, ar h), (1, ai p), (3, ai q)]) rfl (by decide) dX12_aheadOf_56 ?_
              refine v_iinc (pc := 57) 3 (L2 := [(3, ai (q + 1)), (2, ai (n + 0)), (0, ar h), (1, ai p)]) rfl rfl (by decide) dX12_aheadOf_57 ?_
              refine v_goto (pc := 60) 4 dX12_aheadOf_60 (by decide) ?_
              refine v_sub (L2 := [(0, ar h), (1, ai p), (2, ai (n + 0)), (3, ai (q + 1))]) [2, 3, 1, 0] rfl ?_
              exact ih _ (by omega) (n + 0) (q + 1) rfl (by omega) (by rw [hn, show (q + 1).toNat = q.toNat + 1 by omega, ahd_succ, show ((q.toNat : Nat) : Int) = q by omega]; congr 1; first | rw [if_pos (by omega)] | rw [if_neg (by omega)])
            · skip
              refine v_iconst (pc := 50) dX12_aheadOf_50 ?_
              refine v_goto (pc := 51) 55 dX12_aheadOf_51 (by decide) ?_
              refine v_iadd (pc := 55) dX12_aheadOf_55 ?_
              refine v_istore_n (pc := 56) (L2 := [(2, ai (n + 1)), (0, ar h), (1, ai p), (3, ai q)]) rfl (by decide) dX12_aheadOf_56 ?_
              refine v_iinc (pc := 57) 3 (L2 := [(3, ai (q + 1)), (2, ai (n + 1)), (0, ar h), (1, ai p)]) rfl rfl (by decide) dX12_aheadOf_57 ?_
              refine v_goto (pc := 60) 4 dX12_aheadOf_60 (by decide) ?_
              refine v_sub (L2 := [(0, ar h), (1, ai p), (2, ai (n + 1)), (3, ai (q + 1))]) [2, 3, 1, 0] rfl ?_
              exact ih _ (by omega) (n + 1) (q + 1) rfl (by omega) (by rw [hn, show (q + 1).toNat = q.toNat + 1 by omega, ahd_succ, show ((q.toNat : Nat) : Int) = q by omega]; congr 1; first | rw [if_pos (by omega)] | rw [if_neg (by omega)])
  refine v_sub (L2 := [(0, ar h), (1, ai p), (2, ai 0), (3, ai 0)]) [2, 3, 1, 0] rfl ?_
  exact lp4 _ 0 0 rfl (by omega) (by rfl)
set_option maxHeartbeats 4000000 in
set_option maxRecDepth 100000 in
theorem c_X12_order {gS : sG} (ad : Nat → Nat) (v : Nat → Int) (h : Nat) (f : Int → Int) (by0 : Int → Int) (tr0 : Int → Int) (ms : Int → Int) (k : Int) (hS : SOK f) (hb_k : -2147483648 ≤ k ∧ k < 2147483648) : Ct gS (S := (Int → Int) × (Nat → Int) × (Int → Int) × (Int → Int)) yX12_order cX12_order 4 (some .int) 6 145 0 0 [ar h, ai k] [((ad 18), cn 0 6 ms), (h, co 12 (mO ad v)), ((ad 9), cn 0 6 by0), ((ad 10), cn 1 64 tr0)] (fun q => q ∈ ([((ad 1), cn 0 936 f)] : aW)) (fun u => vK v u.2.1) (fun u => some (ai (qOrder f k))) (fun u => [((ad 18), cn 0 6 u.1), (h, co 12 (mO ad u.2.1)), ((ad 9), cn 0 6 u.2.2.1), ((ad 10), cn 1 64 u.2.2.2)]) := by
  refine ct_I RX12 [(0, ar h), (1, ai k)] (by decide) rfl (Nat.le_of_ble_eq_true rfl) rfl (fun x hgS hro hret => ?_)
  subst hgS
  have r0 := hro _ (mem_at 0 rfl)
  obtain ⟨hg, hSp, hSh, hSs, hSb, hSt, hwf⟩ := id hS
  obtain ⟨hg0, hg1, hg2, hg3, hg4, hg5, hg6, hg7⟩ := id hg
  show V x cX12_order RX12 4 (rmU 6 145 0 0) [((ad 18), cn 0 6 ms), (h, co 12 (mO ad v)), ((ad 9), cn 0 6 by0), ((ad 10), cn 1 64 tr0)] 0 [(0, ar h), (1, ai k)] [] 0 0
  refine v_aload_n (pc := 0) 0 rfl dX12_order_0 ?_
  refine v_iload_n (pc := 1) 1 rfl dX12_order_1 ?_
  refine v_callV (pc := 2) [] [0, 1, 2, 3] [((ad 18), cn 0 6 ms), (h, co 12 (mO ad v)), ((ad 9), cn 0 6 by0), ((ad 10), cn 1 64 tr0)] (As := [ai k]) (rest := []) (c_X12_isPlayer ad v h f k (by first | omega | assumption) (by assumption)) (c := 12) rfl (Or.inr ⟨1, rfl⟩) wl_X12_136 wi_X12_isPlayer wv_X12_X12_isPlayer_X12_isPlayer wk_X12_isPlayer wz_X12 md_X12_isPlayer rfl (Nat.le_of_ble_eq_true rfl) ⟨Nat.le_of_ble_eq_true rfl, Nat.le_of_ble_eq_true rfl, Nat.le_of_ble_eq_true rfl, Nat.le_of_ble_eq_true rfl⟩ rfl rfl rfl rfl (by decide) (ro_cons (Or.inr ⟨1, rfl, by decide⟩) (ro_cons (Or.inl r0) ro_nil)) dX12_order_2 (fun u hu => ?_)
  show V x cX12_order RX12 4 (rmU 6 145 0 0) [((ad 18), cn 0 6 ms), (h, co 12 (mO ad v)), ((ad 9), cn 0 6 by0), ((ad 10), cn 1 64 tr0)] 5 [(0, ar h), (1, ai k)] [ai (if 0 ≤ k ∧ k ≤ (f 0) - 1 then 1 else 0)] 0 0
  refine v_ifb_ne (pc := 5) 10 dX12_order_5 (by decide) (fun c_1 => ?_) (fun c_1 => ?_)
  · skip
    refine v_aload_n (pc := 10) 0 rfl dX12_order_10 ?_
    refine v_callV (pc := 11) [0, 1, 2, 3] [] [] (As := []) (rest := []) (c_X12_looksForMosts ad v h f by0 tr0 ms (by assumption)) (c := 12) rfl (Or.inr ⟨1, rfl⟩) wl_X12_229 wi_X12_looksForMosts wv_X12_X12_looksForMosts_X12_looksForMosts wk_X12_looksForMosts wz_X12 md_X12_looksForMosts rfl (Nat.le_of_ble_eq_true rfl) ⟨Nat.le_of_ble_eq_true rfl, Nat.le_of_ble_eq_true rfl, Nat.le_of_ble_eq_true rfl, Nat.le_of_ble_eq_true rfl⟩ rfl rfl rfl rfl (by decide) (ro_cons (Or.inl r0) ro_nil) dX12_order_11 (fun u hu => ?_)
    obtain ⟨ms2_2, v2_3, by2_4, tr2_5⟩ := u
    have g_6 : (∀ j : Int, 0 ≤ j → j < f 0 → ms2_2 j = fMost f j) ∧ vK v v2_3 := hu
    show V x cX12_order RX12 4 (rmU 6 145 0 0) [((ad 18), cn 0 6 ms2_2), (h, co 12 (mO ad v2_3)), ((ad 9), cn 0 6 by2_4), ((ad 10), cn 1 64 tr2_5)] 14 [(0, ar h), (1, ai k)] [] 0 0
    have hkeep := g_6.2
    have hms := g_6.1
    refine v_iconst (pc := 14) dX12_order_14 ?_
    refine v_istore_n (pc := 15) (L2 := [(2, ai 0), (0, ar h), (1, ai k)]) rfl (by decide) dX12_order_15 ?_
    refine v_iconst (pc := 16) dX12_order_16 ?_
    refine v_istore_n (pc := 17) (L2 := [(3, ai 0), (2, ai 0), (0, ar h), (1, ai k)]) rfl (by decide) dX12_order_17 ?_
    have lp18 : ∀ (mm : Nat) (who : Int) (p : Int), (f 0 - p).toNat = mm → (0 ≤ p ∧ p ≤ f 0) → (who = ordL (fMost f) (f 0).toNat k p.toNat) → V x cX12_order RX12 4 (rmU 6 145 0 0) [((ad 18), cn 0 6 ms2_2), (h, co 12 (mO ad v2_3)), ((ad 9), cn 0 6 by2_4), ((ad 10), cn 1 64 tr2_5)] 18 [(0, ar h), (1, ai k), (2, ai who), (3, ai p)] [] 0 0 := by
      intro mm
      induction mm using Nat.strongRecOn with
      | _ mm ih =>
        intro who p hmm hp hw
        refine v_iload_n (pc := 18) 3 rfl dX12_order_18 ?_
        refine v_aload_n (pc := 19) 0 rfl dX12_order_19 ?_
        refine v_get (pc := 20) (v := ar (ad 1)) 1 (Or.inr ⟨1, rfl⟩) fl_12_9_12 rfl dX12_order_20 ?_
        refine v_iconst (pc := 23) dX12_order_23 ?_
        refine v_iald (pc := 24) (Or.inl r0) (by omega) (by omega) (by decide) dX12_order_24 ?_
        refine v_icmp_ge (pc := 25) 49 dX12_order_25 (by decide) (by unfold iB; omega) (by unfold iB; omega) (fun c_7 => ?_) (fun c_7 => ?_)
        · skip
          refine v_iload_n (pc := 49) 2 rfl dX12_order_49 ?_
          exact hret (ms2_2, v2_3, by2_4, tr2_5) _ _ _ _ _ _ (by exact hkeep) (congrArg (fun z => some (ai z)) (by unfold qOrder; rw [if_neg (by omega), hw, show p = f 0 by omega])) rfl (Nat.le_of_ble_eq_true rfl) (Nat.le_of_ble_eq_true rfl) dX12_order_50
        · skip
          refine v_aload_n (pc := 28) 0 rfl dX12_order_28 ?_
          refine v_iload_n (pc := 29) 3 rfl dX12_order_29 ?_
          refine v_callV (pc := 30) [] [0, 1, 2, 3] [((ad 18), cn 0 6 ms2_2), (h, co 12 (mO ad v2_3)), ((ad 9), cn 0 6 by2_4), ((ad 10), cn 1 64 tr2_5)] (As := [ai p]) (rest := []) (c_X12_aheadOf ad v2_3 h f ms2_2 p (by assumption) (by intro j a b; rw [hms j a b]; exact fMost_b) (by first | omega | assumption)) (c := 12) rfl (Or.inr ⟨1, rfl⟩) wl_X12_232 wi_X12_aheadOf wv_X12_X12_aheadOf_X12_aheadOf wk_X12_aheadOf wz_X12 md_X12_aheadOf rfl (Nat.le_of_ble_eq_true rfl) ⟨Nat.le_of_ble_eq_true rfl, Nat.le_of_ble_eq_true rfl, Nat.le_of_ble_eq_true rfl, Nat.le_of_ble_eq_true rfl⟩ rfl rfl rfl rfl (by decide) (ro_cons (Or.inr ⟨1, rfl, by decide⟩) (ro_cons (Or.inl r0) (ro_cons (Or.inr ⟨0, rfl, by decide⟩) ro_nil))) dX12_order_30 (fun u hu => ?_)
          show V x cX12_order RX12 4 (rmU 6 145 0 0) [((ad 18), cn 0 6 ms2_2), (h, co 12 (mO ad v2_3)), ((ad 9), cn 0 6 by2_4), ((ad 10), cn 1 64 tr2_5)] 33 [(0, ar h), (1, ai k), (2, ai who), (3, ai p)] [ai (ahd ms2_2 p (f 0).toNat)] 0 0
          have hae : (ahd ms2_2 p (f 0).toNat) = ahd (fMost f) p (f 0).toNat := ahd_congr _ (fun j a b => hms j a (by omega)) (hms p (by omega) (by omega))
          have hab := ahd_b (fMost f) p (f 0).toNat
          refine v_eqi (y := (ahd (fMost f) p (f 0).toNat)) (hae) ?_
          refine v_iload_n (pc := 33) 1 rfl dX12_order_33 ?_
          refine v_icmp_ne (pc := 34) 41 dX12_order_34 (by decide) (by unfold iB; omega) (by unfold iB; omega) (fun c_8 => ?_) (fun c_8 => ?_)
          · skip
            refine v_iload_n (pc := 41) 2 rfl dX12_order_41 ?_
            refine v_istore_n (pc := 42) (L2 := [(2, ai who), (0, ar h), (1, ai k), (3, ai p)]) rfl (by decide) dX12_order_42 ?_
            refine v_iinc (pc := 43) 3 (L2 := [(3, ai (p + 1)), (2, ai who), (0, ar h), (1, ai k)]) rfl rfl (by decide) dX12_order_43 ?_
            refine v_goto (pc := 46) 18 dX12_order_46 (by decide) ?_
            refine v_sub (L2 := [(0, ar h), (1, ai k), (2, ai who), (3, ai (p + 1))]) [2, 3, 1, 0] rfl ?_
            exact ih _ (by omega) who (p + 1) rfl (by omega) (by rw [show (p + 1).toNat = p.toNat + 1 by omega]; show _ = (if _ then _ else _); rw [show ((p.toNat : Nat) : Int) = p by omega]; first | (rw [if_pos (by omega)]; done) | (rw [if_neg (by omega)]; exact hw))
          · skip
            refine v_iload_n (pc := 37) 3 rfl dX12_order_37 ?_
            refine v_goto (pc := 38) 42 dX12_order_38 (by decide) ?_
            refine v_istore_n (pc := 42) (L2 := [(2, ai p), (0, ar h), (1, ai k), (3, ai p)]) rfl (by decide) dX12_order_42 ?_
            refine v_iinc (pc := 43) 3 (L2 := [(3, ai (p + 1)), (2, ai p), (0, ar h), (1, ai k)]) rfl rfl (by decide) dX12_order_43 ?_
            refine v_goto (pc := 46) 18 dX12_order_46 (by decide) ?_
            refine v_sub (L2 := [(0, ar h), (1, ai k), (2, ai p), (3, ai (p + 1))]) [2, 3, 1, 0] rfl ?_
            exact ih _ (by omega) p (p + 1) rfl (by omega) (by rw [show (p + 1).toNat = p.toNat + 1 by omega]; show _ = (if _ then _ else _); rw [show ((p.toNat : Nat) : Int) = p by omega]; first | (rw [if_pos (by omega)]; done) | (rw [if_neg (by omega)]; exact hw))
    refine v_sub (L2 := [(0, ar h), (1, ai k), (2, ai 0), (3, ai 0)]) [2, 3, 1, 0] rfl ?_
    exact lp18 _ 0 0 rfl (by omega) (by rfl)
  · skip
    refine v_iconst (pc := 8) dX12_order_8 ?_
    exact hret (ms, v, by0, tr0) _ _ _ _ _ _ (by exact vK_rf v) (congrArg (fun z => some (ai z)) (by unfold qOrder; (repeat' split) <;> first | rfl | omega | (exfalso; omega))) rfl (Nat.le_of_ble_eq_true rfl) (Nat.le_of_ble_eq_true rfl) dX12_order_9
set_option maxHeartbeats 4000000 in
set_option maxRecDepth 100000 in
theorem c_X12_meets {gS : sG} (ad : Nat → Nat) (v : Nat → Int) (h : Nat) (f : Int → Int) (by0 : Int → Int) (tr0 : Int → Int) (ms : Int → Int) (pt : Int → Int) (p : Int) (q : Int) (hS : SOK f) (hmsb : ∀ j : Int, 0 ≤ j → j < f 0 → 0 ≤ ms j ∧ ms j ≤ 99) (hp : 0 ≤ p ∧ p < f 0) (hq : 0 ≤ q ∧ q < f 0) (hpq : p ≠ q) : Ct gS (S := (Int → Int) × (Nat → Int) × (Int → Int) × (Int → Int)) yX12_meets cX12_meets 6 none 5 128 0 0 [ar h, ai p, ai q] [((ad 19), cn 0 6 pt), (h, co 12 (mO ad v)), ((ad 9), cn 0 6 by0), ((ad 10), cn 1 64 tr0)] (fun q => q ∈ ([((ad 1), cn 0 936 f), ((ad 18), cn 0 6 ms)] : aW)) (fun u => u.1 = mt f ms pt p q ∧ u.2.1 3 = v 3 ∧ u.2.1 21 = v 21) (fun u => none) (fun u => [((ad 19), cn 0 6 u.1), (h, co 12 (mO ad u.2.1)), ((ad 9), cn 0 6 u.2.2.1), ((ad 10), cn 1 64 u.2.2.2)]) := by
  refine ct_V RX12 [(0, ar h), (1, ai p), (2, ai q)] (by decide) rfl (Nat.le_of_ble_eq_true rfl) rfl (fun x hgS hnm hro hret => ?_)
  subst hgS
  have r0 := hro _ (mem_at 0 rfl)
  have r1 := hro _ (mem_at 1 rfl)
  obtain ⟨hg, hSp, hSh, hSs, hSb, hSt, hwf⟩ := id hS
  obtain ⟨hg0, hg1, hg2, hg3, hg4, hg5, hg6, hg7⟩ := id hg
  have hmp := hmsb p hp.1 hp.2
  have hmq := hmsb q hq.1 hq.2
  have hrb := rs_b (G := rsG f p q (mtN ms p q)) (fun _ => fBest_b) 4
  have e4 : (10 : Int) ^ 4 = 10000 := by decide
  rw [e4] at hrb
  show V x cX12_meets RX12 6 (rmU 5 128 0 0) [((ad 19), cn 0 6 pt), (h, co 12 (mO ad v)), ((ad 9), cn 0 6 by0), ((ad 10), cn 1 64 tr0)] 0 [(0, ar h), (1, ai p), (2, ai q)] [] 0 0
  refine v_aload_n (pc := 0) 0 rfl dX12_meets_0 ?_
  refine v_get (pc := 1) (v := ar (ad 18)) 18 (Or.inr ⟨1, rfl⟩) fl_12_28_12 rfl dX12_meets_1 ?_
  refine v_iload_n (pc := 4) 1 rfl dX12_meets_4 ?_
  refine v_iald (pc := 5) (Or.inl r1) (by omega) (by omega) (by decide) dX12_meets_5 ?_
  refine v_aload_n (pc := 6) 0 rfl dX12_meets_6 ?_
  refine v_get (pc := 7) (v := ar (ad 18)) 18 (Or.inr ⟨1, rfl⟩) fl_12_28_12 rfl dX12_meets_7 ?_
  refine v_iload_n (pc := 10) 2 rfl dX12_meets_10 ?_
  refine v_iald (pc := 11) (Or.inl r1) (by omega) (by omega) (by decide) dX12_meets_11 ?_
  refine v_icmp_le (pc := 12) 24 dX12_meets_12 (by decide) (by unfold iB; omega) (by unfold iB; omega) (fun c_1 => ?_) (fun c_1 => ?_)
  · skip
    refine v_aload_n (pc := 24) 0 rfl dX12_meets_24 ?_
    refine v_get (pc := 25) (v := ar (ad 18)) 18 (Or.inr ⟨1, rfl⟩) fl_12_28_12 rfl dX12_meets_25 ?_
    refine v_iload_n (pc := 28) 2 rfl dX12_meets_28 ?_
    refine v_iald (pc := 29) (Or.inl r1) (by omega) (by omega) (by decide) dX12_meets_29 ?_
    refine v_istore_n (pc := 30) (L2 := [(3, ai (ms q)), (0, ar h), (1, ai p), (2, ai q)]) rfl (by decide) dX12_meets_30 ?_
    refine v_aload_n (pc := 31) 1 rfl dX12_meets_31 ?_
    refine v_iload_n (pc := 32) 2 rfl dX12_meets_32 ?_
    refine v_iload_n (pc := 33) 3 rfl dX12_meets_33 ?_
    refine v_iload_n (pc := 34) 0 rfl dX12_meets_34 ?_
    refine v_iconst (pc := 35) dX12_meets_35 ?_
    refine v_icmp_ge (pc := 36) 43 dX12_meets_36 (by decide) (by unfold iB; omega) (by unfold iB; omega) (fun c_2 => ?_) (fun c_2 => ?_)
    · skip
      refine v_iload_n (pc := 43) 0 rfl dX12_meets_43 ?_
      refine v_iconst (pc := 44) dX12_meets_44 ?_
      refine v_callV (pc := 45) [1, 2, 3] [0] [((ad 19), cn 0 6 pt)] (As := [ai p, ai q, ai (ms q), ai 4]) (rest := []) (c_X12_raises ad v h f by0 tr0 p q (ms q) 4 (by assumption) (by first | omega | assumption) (by first | omega | assumption) (by first | omega | assumption) (by first | omega | assumption)) (c := 12) rfl (Or.inr ⟨1, rfl⟩) wl_X12_225 wi_X12_raises wv_X12_X12_raises_X12_raises wk_X12_raises wz_X12 md_X12_raises rfl (Nat.le_of_ble_eq_true rfl) ⟨Nat.le_of_ble_eq_true rfl, Nat.le_of_ble_eq_true rfl, Nat.le_of_ble_eq_true rfl, Nat.le_of_ble_eq_true rfl⟩ rfl rfl rfl rfl (by decide) (ro_cons (Or.inl r0) ro_nil) dX12_meets_45 (fun u hu => ?_)
      obtain ⟨v2_3, by2_4, tr2_5⟩ := u
      have g_6 : (v2_3 3 = v 3 ∧ v2_3 21 = v 21) ∧ v2_3 16 = (rs (rsG f p q (ms q)) (4 : Int).toNat).1 ∧ v2_3 17 = (rs (rsG f p q (ms q)) (4 : Int).toNat).2 := hu
      show V x cX12_meets RX12 6 (rmU 5 128 0 0) [((ad 19), cn 0 6 pt), (h, co 12 (mO ad v2_3)), ((ad 9), cn 0 6 by2_4), ((ad 10), cn 1 64 tr2_5)] 48 [(3, ai (ms q)), (0, ar h), (1, ai p), (2, ai q)] [] 0 0
      have hkeep := g_6.1
      have hn : (ms q) = mtN ms p q := by unfold mtN; (repeat' split) <;> omega
      have h16 : v2_3 16 = (rs (rsG f p q (mtN ms p q)) 4).1 := by rw [← hn]; exact g_6.2.1
      have h17 : v2_3 17 = (rs (rsG f p q (mtN ms p q)) 4).2 := by rw [← hn]; exact g_6.2.2
      refine v_ldc2 (pc := 48) (z := 10000) (bw_mem 1392 (by decide +kernel) rfl) dX12_meets_48 ?_
      refine v_aload_n (pc := 51) 1 rfl dX12_meets_51 ?_
      refine v_get (pc := 52) (v := al (v2_3 16)) 16 (Or.inr ⟨1, rfl⟩) fl_12_218_12 rfl dX12_meets_52 ?_
      refine v_lsub (pc := 55) dX12_meets_55 ?_
      refine v_aload_n (pc := 56) 1 rfl dX12_meets_56 ?_
      refine v_get (pc := 57) (v := al (v2_3 17)) 17 (Or.inr ⟨1, rfl⟩) fl_12_222_12 rfl dX12_meets_57 ?_
      refine v_lsub (pc := 60) dX12_meets_60 ?_
      refine v_lstore (pc := 61) (L2 := [(4, al ((10000 - (v2_3 16)) - (v2_3 17))), (3, ai (ms q)), (0, ar h), (1, ai p), (2, ai q)]) rfl (by decide) dX12_meets_61 ?_
      refine v_aload_n (pc := 63) 2 rfl dX12_meets_63 ?_
      refine v_get (pc := 64) (v := ar (ad 19)) 19 (Or.inr ⟨1, rfl⟩) fl_12_31_12 rfl dX12_meets_64 ?_
      refine v_iload_n (pc := 67) 3 rfl dX12_meets_67 ?_
      refine v_dup2 (pc := 68) rfl rfl dX12_meets_68 ?_
      refine v_iald (pc := 69) (Or.inr ⟨0, rfl⟩) (by omega) (by omega) (by decide) dX12_meets_69 ?_
      refine v_aload_n (pc := 70) 2 rfl dX12_meets_70 ?_
      refine v_get (pc := 71) (v := al (v2_3 16)) 16 (Or.inr ⟨1, rfl⟩) fl_12_218_12 rfl dX12_meets_71 ?_
      refine v_lload (pc := 74) 0 rfl dX12_meets_74 ?_
      refine v_lcmp (pc := 76) (by unfold lB; omega) (by unfold lB; omega) dX12_meets_76 ?_
      refine v_if_le (pc := 77) 84 dX12_meets_77 (by decide) (acmp_iB _ _) (fun c_7 => ?_) (fun c_7 => ?_)
      · skip
        have c_7 := acmp_le.mp c_7
        refine v_aload_n (pc := 84) 2 rfl dX12_meets_84 ?_
        refine v_get (pc := 85) (v := al (v2_3 16)) 16 (Or.inr ⟨1, rfl⟩) fl_12_218_12 rfl dX12_meets_85 ?_
        refine v_lload (pc := 88) 0 rfl dX12_meets_88 ?_
        refine v_lcmp (pc := 90) (by unfold lB; omega) (by unfold lB; omega) dX12_meets_90 ?_
        refine v_if_ne (pc := 91) 98 dX12_meets_91 (by decide) (acmp_iB _ _) (fun c_8 => ?_) (fun c_8 => ?_)
        · skip
          have c_8 : ¬ _ = _ := fun z => c_8 (acmp_eq.mpr z)
          refine v_iconst (pc := 98) dX12_meets_98 ?_
          refine v_iadd (pc := 99) dX12_meets_99 ?_
          refine v_iast (pc := 100) 0 rfl (by omega) (by omega) (by decide) (ws2 := [((ad 19), cn 0 6 (aup pt p ((pt p) + 0))), (h, co 12 (mO ad v2_3)), ((ad 9), cn 0 6 by2_4), ((ad 10), cn 1 64 tr2_5)]) rfl dX12_meets_100 ?_
          refine v_aload_n (pc := 101) 2 rfl dX12_meets_101 ?_
          refine v_get (pc := 102) (v := ar (ad 19)) 19 (Or.inr ⟨1, rfl⟩) fl_12_31_12 rfl dX12_meets_102 ?_
          refine v_iload_n (pc := 105) 4 rfl dX12_meets_105 ?_
          refine v_dup2 (pc := 106) rfl rfl dX12_meets_106 ?_
          refine v_iald (pc := 107) (Or.inr ⟨0, rfl⟩) (by omega) (by omega) (by decide) dX12_meets_107 ?_
          refine v_aload_n (pc := 108) 2 rfl dX12_meets_108 ?_
          refine v_get (pc := 109) (v := al (v2_3 16)) 16 (Or.inr ⟨1, rfl⟩) fl_12_218_12 rfl dX12_meets_109 ?_
          refine v_lload (pc := 112) 0 rfl dX12_meets_112 ?_
          refine v_lcmp (pc := 114) (by unfold lB; omega) (by unfold lB; omega) dX12_meets_114 ?_
          refine v_if_ge (pc := 115) 122 dX12_meets_115 (by decide) (acmp_iB _ _) (fun c_9 => ?_) (fun c_9 => ?_)
          · skip
            have c_9 := acmp_ge.mp c_9
            refine v_aload_n (pc := 122) 2 rfl dX12_meets_122 ?_
            refine v_get (pc := 123) (v := al (v2_3 16)) 16 (Or.inr ⟨1, rfl⟩) fl_12_218_12 rfl dX12_meets_123 ?_
            refine v_lload (pc := 126) 0 rfl dX12_meets_126 ?_
            refine v_lcmp (pc := 128) (by unfold lB; omega) (by unfold lB; omega) dX12_meets_128 ?_
            refine v_if_ne (pc := 129) 136 dX12_meets_129 (by decide) (acmp_iB _ _) (fun c_10 => ?_) (fun c_10 => ?_)
            · skip
              have c_10 : ¬ _ = _ := fun z => c_10 (acmp_eq.mpr z)
              refine v_iconst (pc := 136) dX12_meets_136 ?_
              refine v_iadd (pc := 137) dX12_meets_137 ?_
              refine v_iast (pc := 138) 0 rfl (by omega) (by omega) (by decide) (ws2 := [((ad 19), cn 0 6 (aup (aup pt p ((pt p) + 0)) q (((aup pt p ((pt p) + 0)) q) + 0))), (h, co 12 (mO ad v2_3)), ((ad 9), cn 0 6 by2_4), ((ad 10), cn 1 64 tr2_5)]) rfl dX12_meets_138 ?_
              exact hret ((aup (aup pt p ((pt p) + 0)) q (((aup pt p ((pt p) + 0)) q) + 0)), v2_3, by2_4, tr2_5) _ _ _ _ _ (by (refine ⟨?_, hkeep⟩; unfold mt mtP mtW mtL; rw [aup_n _ _ (fun z => hpq z.symm)]; (repeat' split) <;> first | rfl | (exfalso; omega))) rfl rfl (Nat.le_of_ble_eq_true rfl) (Nat.le_of_ble_eq_true rfl) dX12_meets_139
            · skip
              have c_10 := acmp_eq.mp c_10
              refine v_iconst (pc := 132) dX12_meets_132 ?_
              refine v_goto (pc := 133) 137 dX12_meets_133 (by decide) ?_
              refine v_iadd (pc := 137) dX12_meets_137 ?_
              refine v_iast (pc := 138) 0 rfl (by omega) (by omega) (by decide) (ws2 := [((ad 19), cn 0 6 (aup (aup pt p ((pt p) + 0)) q (((aup pt p ((pt p) + 0)) q) + 1))), (h, co 12 (mO ad v2_3)), ((ad 9), cn 0 6 by2_4), ((ad 10), cn 1 64 tr2_5)]) rfl dX12_meets_138 ?_
              exact hret ((aup (aup pt p ((pt p) + 0)) q (((aup pt p ((pt p) + 0)) q) + 1)), v2_3, by2_4, tr2_5) _ _ _ _ _ (by (refine ⟨?_, hkeep⟩; unfold mt mtP mtW mtL; rw [aup_n _ _ (fun z => hpq z.symm)]; (repeat' split) <;> first | rfl | (exfalso; omega))) rfl rfl (Nat.le_of_ble_eq_true rfl) (Nat.le_of_ble_eq_true rfl) dX12_meets_139
          · skip
            have c_9 := acmp_lt.mp c_9
            refine v_iconst (pc := 118) dX12_meets_118 ?_
            refine v_goto (pc := 119) 137 dX12_meets_119 (by decide) ?_
            refine v_iadd (pc := 137) dX12_meets_137 ?_
            refine v_iast (pc := 138) 0 rfl (by omega) (by omega) (by decide) (ws2 := [((ad 19), cn 0 6 (aup (aup pt p ((pt p) + 0)) q (((aup pt p ((pt p) + 0)) q) + 2))), (h, co 12 (mO ad v2_3)), ((ad 9), cn 0 6 by2_4), ((ad 10), cn 1 64 tr2_5)]) rfl dX12_meets_138 ?_
            exact hret ((aup (aup pt p ((pt p) + 0)) q (((aup pt p ((pt p) + 0)) q) + 2)), v2_3, by2_4, tr2_5) _ _ _ _ _ (by (refine ⟨?_, hkeep⟩; unfold mt mtP mtW mtL; rw [aup_n _ _ (fun z => hpq z.symm)]; (repeat' split) <;> first | rfl | (exfalso; omega))) rfl rfl (Nat.le_of_ble_eq_true rfl) (Nat.le_of_ble_eq_true rfl) dX12_meets_139
        · skip
          have c_8 := acmp_eq.mp c_8
          refine v_iconst (pc := 94) dX12_meets_94 ?_
          refine v_goto (pc := 95) 99 dX12_meets_95 (by decide) ?_
          refine v_iadd (pc := 99) dX12_meets_99 ?_
          refine v_iast (pc := 100) 0 rfl (by omega) (by omega) (by decide) (ws2 := [((ad 19), cn 0 6 (aup pt p ((pt p) + 1))), (h, co 12 (mO ad v2_3)), ((ad 9), cn 0 6 by2_4), ((ad 10), cn 1 64 tr2_5)]) rfl dX12_meets_100 ?_
          refine v_aload_n (pc := 101) 2 rfl dX12_meets_101 ?_
          refine v_get (pc := 102) (v := ar (ad 19)) 19 (Or.inr ⟨1, rfl⟩) fl_12_31_12 rfl dX12_meets_102 ?_
          refine v_iload_n (pc := 105) 4 rfl dX12_meets_105 ?_
          refine v_dup2 (pc := 106) rfl rfl dX12_meets_106 ?_
          refine v_iald (pc := 107) (Or.inr ⟨0, rfl⟩) (by omega) (by omega) (by decide) dX12_meets_107 ?_
          refine v_aload_n (pc := 108) 2 rfl dX12_meets_108 ?_
          refine v_get (pc := 109) (v := al (v2_3 16)) 16 (Or.inr ⟨1, rfl⟩) fl_12_218_12 rfl dX12_meets_109 ?_
          refine v_lload (pc := 112) 0 rfl dX12_meets_112 ?_
          refine v_lcmp (pc := 114) (by unfold lB; omega) (by unfold lB; omega) dX12_meets_114 ?_
          refine v_if_ge (pc := 115) 122 dX12_meets_115 (by decide) (acmp_iB _ _) (fun c_11 => ?_) (fun c_11 => ?_)
          · skip
            have c_11 := acmp_ge.mp c_11
            refine v_aload_n (pc := 122) 2 rfl dX12_meets_122 ?_
            refine v_get (pc := 123) (v := al (v2_3 16)) 16 (Or.inr ⟨1, rfl⟩) fl_12_218_12 rfl dX12_meets_123 ?_
            refine v_lload (pc := 126) 0 rfl dX12_meets_126 ?_
            refine v_lcmp (pc := 128) (by unfold lB; omega) (by unfold lB; omega) dX12_meets_128 ?_
            refine v_if_ne (pc := 129) 136 dX12_meets_129 (by decide) (acmp_iB _ _) (fun c_12 => ?_) (fun c_12 => ?_)
            · skip
              have c_12 : ¬ _ = _ := fun z => c_12 (acmp_eq.mpr z)
              refine v_iconst (pc := 136) dX12_meets_136 ?_
              refine v_iadd (pc := 137) dX12_meets_137 ?_
              refine v_iast (pc := 138) 0 rfl (by omega) (by omega) (by decide) (ws2 := [((ad 19), cn 0 6 (aup (aup pt p ((pt p) + 1)) q (((aup pt p ((pt p) + 1)) q) + 0))), (h, co 12 (mO ad v2_3)), ((ad 9), cn 0 6 by2_4), ((ad 10), cn 1 64 tr2_5)]) rfl dX12_meets_138 ?_
              exact hret ((aup (aup pt p ((pt p) + 1)) q (((aup pt p ((pt p) + 1)) q) + 0)), v2_3, by2_4, tr2_5) _ _ _ _ _ (by (refine ⟨?_, hkeep⟩; unfold mt mtP mtW mtL; rw [aup_n _ _ (fun z => hpq z.symm)]; (repeat' split) <;> first | rfl | (exfalso; omega))) rfl rfl (Nat.le_of_ble_eq_true rfl) (Nat.le_of_ble_eq_true rfl) dX12_meets_139
            · skip
              have c_12 := acmp_eq.mp c_12
              refine v_iconst (pc := 132) dX12_meets_132 ?_
              refine v_goto (pc := 133) 137 dX12_meets_133 (by decide) ?_
              refine v_iadd (pc := 137) dX12_meets_137 ?_
              refine v_iast (pc := 138) 0 rfl (by omega) (by omega) (by decide) (ws2 := [((ad 19), cn 0 6 (aup (aup pt p ((pt p) + 1)) q (((aup pt p ((pt p) + 1)) q) + 1))), (h, co 12 (mO ad v2_3)), ((ad 9), cn 0 6 by2_4), ((ad 10), cn 1 64 tr2_5)]) rfl dX12_meets_138 ?_
              exact hret ((aup (aup pt p ((pt p) + 1)) q (((aup pt p ((pt p) + 1)) q) + 1)), v2_3, by2_4, tr2_5) _ _ _ _ _ (by (refine ⟨?_, hkeep⟩; unfold mt mtP mtW mtL; rw [aup_n _ _ (fun z => hpq z.symm)]; (repeat' split) <;> first | rfl | (exfalso; omega))) rfl rfl (Nat.le_of_ble_eq_true rfl) (Nat.le_of_ble_eq_true rfl) dX12_meets_139
          · skip
            have c_11 := acmp_lt.mp c_11
            refine v_iconst (pc := 118) dX12_meets_118 ?_
            refine v_goto (pc := 119) 137 dX12_meets_119 (by decide) ?_
            refine v_iadd (pc := 137) dX12_meets_137 ?_
            refine v_iast (pc := 138) 0 rfl (by omega) (by omega) (by decide) (ws2 := [((ad 19), cn 0 6 (aup (aup pt p ((pt p) + 1)) q (((aup pt p ((pt p) + 1)) q) + 2))), (h, co 12 (mO ad v2_3)), ((ad 9), cn 0 6 by2_4), ((ad 10), cn 1 64 tr2_5)]) rfl dX12_meets_138 ?_
            exact hret ((aup (aup pt p ((pt p) + 1)) q (((aup pt p ((pt p) + 1)) q) + 2)), v2_3, by2_4, tr2_5) _ _ _ _ _ (by (refine ⟨?_, hkeep⟩; unfold mt mtP mtW mtL; rw [aup_n _ _ (fun z => hpq z.symm)]; (repeat' split) <;> first | rfl | (exfalso; omega))) rfl rfl (Nat.le_of_ble_eq_true rfl) (Nat.le_of_ble_eq_true rfl) dX12_meets_139
      · skip
        have c_7 := acmp_gt.mp c_7
        refine v_iconst (pc := 80) dX12_meets_80 ?_
        refine v_goto (pc := 81) 99 dX12_meets_81 (by decide) ?_
        refine v_iadd (pc := 99) dX12_meets_99 ?_
        refine v_iast (pc := 100) 0 rfl (by omega) (by omega) (by decide) (ws2 := [((ad 19), cn 0 6 (aup pt p ((pt p) + 2))), (h, co 12 (mO ad v2_3)), ((ad 9), cn 0 6 by2_4), ((ad 10), cn 1 64 tr2_5)]) rfl dX12_meets_100 ?_
        refine v_aload_n (pc := 101) 2 rfl dX12_meets_101 ?_
        refine v_get (pc := 102) (v := ar (ad 19)) 19 (Or.inr ⟨1, rfl⟩) fl_12_31_12 rfl dX12_meets_102 ?_
        refine v_iload_n (pc := 105) 4 rfl dX12_meets_105 ?_
        refine v_dup2 (pc := 106) rfl rfl dX12_meets_106 ?_
        refine v_iald (pc := 107) (Or.inr ⟨0, rfl⟩) (by omega) (by omega) (by decide) dX12_meets_107 ?_
        refine v_aload_n (pc := 108) 2 rfl dX12_meets_108 ?_
        refine v_get (pc := 109) (v := al (v2_3 16)) 16 (Or.inr ⟨1, rfl⟩) fl_12_218_12 rfl dX12_meets_109 ?_
        refine v_lload (pc := 112) 0 rfl dX12_meets_112 ?_
        refine v_lcmp (pc := 114) (by unfold lB; omega) (by unfold lB; omega) dX12_meets_114 ?_
        refine v_if_ge (pc := 115) 122 dX12_meets_115 (by decide) (acmp_iB _ _) (fun c_13 => ?_) (fun c_13 => ?_)
        · skip
          have c_13 := acmp_ge.mp c_13
          refine v_aload_n (pc := 122) 2 rfl dX12_meets_122 ?_
          refine v_get (pc := 123) (v := al (v2_3 16)) 16 (Or.inr ⟨1, rfl⟩) fl_12_218_12 rfl dX12_meets_123 ?_
          refine v_lload (pc := 126) 0 rfl dX12_meets_126 ?_
          refine v_lcmp (pc := 128) (by unfold lB; omega) (by unfold lB; omega) dX12_meets_128 ?_
          refine v_if_ne (pc := 129) 136 dX12_meets_129 (by decide) (acmp_iB _ _) (fun c_14 => ?_) (fun c_14 => ?_)
          · skip
            have c_14 : ¬ _ = _ := fun z => c_14 (acmp_eq.mpr z)
            refine v_iconst (pc := 136) dX12_meets_136 ?_
            refine v_iadd (pc := 137) dX12_meets_137 ?_
            refine v_iast (pc := 138) 0 rfl (by omega) (by omega) (by decide) (ws2 := [((ad 19), cn 0 6 (aup (aup pt p ((pt p) + 2)) q (((aup pt p ((pt p) + 2)) q) + 0))), (h, co 12 (mO ad v2_3)), ((ad 9), cn 0 6 by2_4), ((ad 10), cn 1 64 tr2_5)]) rfl dX12_meets_138 ?_
            exact hret ((aup (aup pt p ((pt p) + 2)) q (((aup pt p ((pt p) + 2)) q) + 0)), v2_3, by2_4, tr2_5) _ _ _ _ _ (by (refine ⟨?_, hkeep⟩; unfold mt mtP mtW mtL; rw [aup_n _ _ (fun z => hpq z.symm)]; (repeat' split) <;> first | rfl | (exfalso; omega))) rfl rfl (Nat.le_of_ble_eq_true rfl) (Nat.le_of_ble_eq_true rfl) dX12_meets_139
          · skip
            have c_14 := acmp_eq.mp c_14
            refine v_iconst (pc := 132) dX12_meets_132 ?_
            refine v_goto (pc := 133) 137 dX12_meets_133 (by decide) ?_
            refine v_iadd (pc := 137) dX12_meets_137 ?_
            refine v_iast (pc := 138) 0 rfl (by omega) (by omega) (by decide) (ws2 := [((ad 19), cn 0 6 (aup (aup pt p ((pt p) + 2)) q (((aup pt p ((pt p) + 2)) q) + 1))), (h, co 12 (mO ad v2_3)), ((ad 9), cn 0 6 by2_4), ((ad 10), cn 1 64 tr2_5)]) rfl dX12_meets_138 ?_
            exact hret ((aup (aup pt p ((pt p) + 2)) q (((aup pt p ((pt p) + 2)) q) + 1)), v2_3, by2_4, tr2_5) _ _ _ _ _ (by (refine ⟨?_, hkeep⟩; unfold mt mtP mtW mtL; rw [aup_n _ _ (fun z => hpq z.symm)]; (repeat' split) <;> first | rfl | (exfalso; omega))) rfl rfl (Nat.le_of_ble_eq_true rfl) (Nat.le_of_ble_eq_true rfl) dX12_meets_139
        · skip
          have c_13 := acmp_lt.mp c_13
          refine v_iconst (pc := 118) dX12_meets_118 ?_
          refine v_goto (pc := 119) 137 dX12_meets_119 (by decide) ?_
          refine v_iadd (pc := 137) dX12_meets_137 ?_
          refine v_iast (pc := 138) 0 rfl (by omega) (by omega) (by decide) (ws2 := [((ad 19), cn 0 6 (aup (aup pt p ((pt p) + 2)) q (((aup pt p ((pt p) + 2)) q) + 2))), (h, co 12 (mO ad v2_3)), ((ad 9), cn 0 6 by2_4), ((ad 10), cn 1 64 tr2_5)]) rfl dX12_meets_138 ?_
          exact hret ((aup (aup pt p ((pt p) + 2)) q (((aup pt p ((pt p) + 2)) q) + 2)), v2_3, by2_4, tr2_5) _ _ _ _ _ (by (refine ⟨?_, hkeep⟩; unfold mt mtP mtW mtL; rw [aup_n _ _ (fun z => hpq z.symm)]; (repeat' split) <;> first | rfl | (exfalso; omega))) rfl rfl (Nat.le_of_ble_eq_true rfl) (Nat.le_of_ble_eq_true rfl) dX12_meets_139
    · skip
      refine v_iconst (pc := 39) dX12_meets_39 ?_
      refine v_goto (pc := 40) 44 dX12_meets_40 (by decide) ?_
      refine v_iconst (pc := 44) dX12_meets_44 ?_
      refine v_callV (pc := 45) [1, 2, 3] [0] [((ad 19), cn 0 6 pt)] (As := [ai p, ai q, ai 1, ai 4]) (rest := []) (c_X12_raises ad v h f by0 tr0 p q 1 4 (by assumption) (by first | omega | assumption) (by first | omega | assumption) (by first | omega | assumption) (by first | omega | assumption)) (c := 12) rfl (Or.inr ⟨1, rfl⟩) wl_X12_225 wi_X12_raises wv_X12_X12_raises_X12_raises wk_X12_raises wz_X12 md_X12_raises rfl (Nat.le_of_ble_eq_true rfl) ⟨Nat.le_of_ble_eq_true rfl, Nat.le_of_ble_eq_true rfl, Nat.le_of_ble_eq_true rfl, Nat.le_of_ble_eq_true rfl⟩ rfl rfl rfl rfl (by decide) (ro_cons (Or.inl r0) ro_nil) dX12_meets_45 (fun u hu => ?_)
      obtain ⟨v2_15, by2_16, tr2_17⟩ := u
      have g_18 : (v2_15 3 = v 3 ∧ v2_15 21 = v 21) ∧ v2_15 16 = (rs (rsG f p q 1) (4 : Int).toNat).1 ∧ v2_15 17 = (rs (rsG f p q 1) (4 : Int).toNat).2 := hu
      show V x cX12_meets RX12 6 (rmU 5 128 0 0) [((ad 19), cn 0 6 pt), (h, co 12 (mO ad v2_15)), ((ad 9), cn 0 6 by2_16), ((ad 10), cn 1 64 tr2_17)] 48 [(3, ai (ms q)), (0, ar h), (1, ai p), (2, ai q)] [] 0 0
      have hkeep := g_18.1
      have hn : 1 = mtN ms p q := by unfold mtN; (repeat' split) <;> omega
      have h16 : v2_15 16 = (rs (rsG f p q (mtN ms p q)) 4).1 := by rw [← hn]; exact g_18.2.1
      have h17 : v2_15 17 = (rs (rsG f p q (mtN ms p q)) 4).2 := by rw [← hn]; exact g_18.2.2
      refine v_ldc2 (pc := 48) (z := 10000) (bw_mem 1392 (by decide +kernel) rfl) dX12_meets_48 ?_
      refine v_aload_n (pc := 51) 1 rfl dX12_meets_51 ?_
      refine v_get (pc := 52) (v := al (v2_15 16)) 16 (Or.inr ⟨1, rfl⟩) fl_12_218_12 rfl dX12_meets_52 ?_
      refine v_lsub (pc := 55) dX12_meets_55 ?_
      refine v_aload_n (pc := 56) 1 rfl dX12_meets_56 ?_
      refine v_get (pc := 57) (v := al (v2_15 17)) 17 (Or.inr ⟨1, rfl⟩) fl_12_222_12 rfl dX12_meets_57 ?_
      refine v_lsub (pc := 60) dX12_meets_60 ?_
      refine v_lstore (pc := 61) (L2 := [(4, al ((10000 - (v2_15 16)) - (v2_15 17))), (3, ai (ms q)), (0, ar h), (1, ai p), (2, ai q)]) rfl (by decide) dX12_meets_61 ?_
      refine v_aload_n (pc := 63) 2 rfl dX12_meets_63 ?_
      refine v_get (pc := 64) (v := ar (ad 19)) 19 (Or.inr ⟨1, rfl⟩) fl_12_31_12 rfl dX12_meets_64 ?_
      refine v_iload_n (pc := 67) 3 rfl dX12_meets_67 ?_
      refine v_dup2 (pc := 68) rfl rfl dX12_meets_68 ?_
      refine v_iald (pc := 69) (Or.inr ⟨0, rfl⟩) (by omega) (by omega) (by decide) dX12_meets_69 ?_
      refine v_aload_n (pc := 70) 2 rfl dX12_meets_70 ?_
      refine v_get (pc := 71) (v := al (v2_15 16)) 16 (Or.inr ⟨1, rfl⟩) fl_12_218_12 rfl dX12_meets_71 ?_
      refine v_lload (pc := 74) 0 rfl dX12_meets_74 ?_
      refine v_lcmp (pc := 76) (by unfold lB; omega) (by unfold lB; omega) dX12_meets_76 ?_
      refine v_if_le (pc := 77) 84 dX12_meets_77 (by decide) (acmp_iB _ _) (fun c_19 => ?_) (fun c_19 => ?_)
      · skip
        have c_19 := acmp_le.mp c_19
        refine v_aload_n (pc := 84) 2 rfl dX12_meets_84 ?_
        refine v_get (pc := 85) (v := al (v2_15 16)) 16 (Or.inr ⟨1, rfl⟩) fl_12_218_12 rfl dX12_meets_85 ?_
        refine v_lload (pc := 88) 0 rfl dX12_meets_88 ?_
        refine v_lcmp (pc := 90) (by unfold lB; omega) (by unfold lB; omega) dX12_meets_90 ?_
        refine v_if_ne (pc := 91) 98 dX12_meets_91 (by decide) (acmp_iB _ _) (fun c_20 => ?_) (fun c_20 => ?_)
        · skip
          have c_20 : ¬ _ = _ := fun z => c_20 (acmp_eq.mpr z)
          refine v_iconst (pc := 98) dX12_meets_98 ?_
          refine v_iadd (pc := 99) dX12_meets_99 ?_
          refine v_iast (pc := 100) 0 rfl (by omega) (by omega) (by decide) (ws2 := [((ad 19), cn 0 6 (aup pt p ((pt p) + 0))), (h, co 12 (mO ad v2_15)), ((ad 9), cn 0 6 by2_16), ((ad 10), cn 1 64 tr2_17)]) rfl dX12_meets_100 ?_
          refine v_aload_n (pc := 101) 2 rfl dX12_meets_101 ?_
          refine v_get (pc := 102) (v := ar (ad 19)) 19 (Or.inr ⟨1, rfl⟩) fl_12_31_12 rfl dX12_meets_102 ?_
          refine v_iload_n (pc := 105) 4 rfl dX12_meets_105 ?_
          refine v_dup2 (pc := 106) rfl rfl dX12_meets_106 ?_
          refine v_iald (pc := 107) (Or.inr ⟨0, rfl⟩) (by omega) (by omega) (by decide) dX12_meets_107 ?_
          refine v_aload_n (pc := 108) 2 rfl dX12_meets_108 ?_
          refine v_get (pc := 109) (v := al (v2_15 16)) 16 (Or.inr ⟨1, rfl⟩) fl_12_218_12 rfl dX12_meets_109 ?_
          refine v_lload (pc := 112) 0 rfl dX12_meets_112 ?_
          refine v_lcmp (pc := 114) (by unfold lB; omega) (by unfold lB; omega) dX12_meets_114 ?_
          refine v_if_ge (pc := 115) 122 dX12_meets_115 (by decide) (acmp_iB _ _) (fun c_21 => ?_) (fun c_21 => ?_)
          · skip
            have c_21 := acmp_ge.mp c_21
            refine v_aload_n (pc := 122) 2 rfl dX12_meets_122 ?_
            refine v_get (pc := 123) (v := al (v2_15 16)) 16 (Or.inr ⟨1, rfl⟩) fl_12_218_12 rfl dX12_meets_123 ?_
            refine v_lload (pc := 126) 0 rfl dX12_meets_126 ?_
            refine v_lcmp (pc := 128) (by unfold lB; omega) (by unfold lB; omega) dX12_meets_128 ?_
            refine v_if_ne (pc := 129) 136 dX12_meets_129 (by decide) (acmp_iB _ _) (fun c_22 => ?_) (fun c_22 => ?_)
            · skip
              have c_22 : ¬ _ = _ := fun z => c_22 (acmp_eq.mpr z)
              refine v_iconst (pc := 136) dX12_meets_136 ?_
              refine v_iadd (pc := 137) dX12_meets_137 ?_
              refine v_iast (pc := 138) 0 rfl (by omega) (by omega) (by decide) (ws2 := [((ad 19), cn 0 6 (aup (aup pt p ((pt p) + 0)) q (((aup pt p ((pt p) + 0)) q) + 0))), (h, co 12 (mO ad v2_15)), ((ad 9), cn 0 6 by2_16), ((ad 10), cn 1 64 tr2_17)]) rfl dX12_meets_138 ?_
              exact hret ((aup (aup pt p ((pt p) + 0)) q (((aup pt p ((pt p) + 0)) q) + 0)), v2_15, by2_16, tr2_17) _ _ _ _ _ (by (refine ⟨?_, hkeep⟩; unfold mt mtP mtW mtL; rw [aup_n _ _ (fun z => hpq z.symm)]; (repeat' split) <;> first | rfl | (exfalso; omega))) rfl rfl (Nat.le_of_ble_eq_true rfl) (Nat.le_of_ble_eq_true rfl) dX12_meets_139
            · skip
              have c_22 := acmp_eq.mp c_22
              refine v_iconst (pc := 132) dX12_meets_132 ?_
              refine v_goto (pc := 133) 137 dX12_meets_133 (by decide) ?_
              refine v_iadd (pc := 137) dX12_meets_137 ?_
              refine v_iast (pc := 138) 0 rfl (by omega) (by omega) (by decide) (ws2 := [((ad 19), cn 0 6 (aup (aup pt p ((pt p) + 0)) q (((aup pt p ((pt p) + 0)) q) + 1))), (h, co 12 (mO ad v2_15)), ((ad 9), cn 0 6 by2_16), ((ad 10), cn 1 64 tr2_17)]) rfl dX12_meets_138 ?_
              exact hret ((aup (aup pt p ((pt p) + 0)) q (((aup pt p ((pt p) + 0)) q) + 1)), v2_15, by2_16, tr2_17) _ _ _ _ _ (by (refine ⟨?_, hkeep⟩; unfold mt mtP mtW mtL; rw [aup_n _ _ (fun z => hpq z.symm)]; (repeat' split) <;> first | rfl | (exfalso; omega))) rfl rfl (Nat.le_of_ble_eq_true rfl) (Nat.le_of_ble_eq_true rfl) dX12_meets_139
          · skip
            have c_21 := acmp_lt.mp c_21
            refine v_iconst (pc := 118) dX12_meets_118 ?_
            refine v_goto (pc := 119) 137 dX12_meets_119 (by decide) ?_
            refine v_iadd (pc := 137) dX12_meets_137 ?_
            refine v_iast (pc := 138) 0 rfl (by omega) (by omega) (by decide) (ws2 := [((ad 19), cn 0 6 (aup (aup pt p ((pt p) + 0)) q (((aup pt p ((pt p) + 0)) q) + 2))), (h, co 12 (mO ad v2_15)), ((ad 9), cn 0 6 by2_16), ((ad 10), cn 1 64 tr2_17)]) rfl dX12_meets_138 ?_
            exact hret ((aup (aup pt p ((pt p) + 0)) q (((aup pt p ((pt p) + 0)) q) + 2)), v2_15, by2_16, tr2_17) _ _ _ _ _ (by (refine ⟨?_, hkeep⟩; unfold mt mtP mtW mtL; rw [aup_n _ _ (fun z => hpq z.symm)]; (repeat' split) <;> first | rfl | (exfalso; omega))) rfl rfl (Nat.le_of_ble_eq_true rfl) (Nat.le_of_ble_eq_true rfl) dX12_meets_139
        · skip
          have c_20 := acmp_eq.mp c_20
          refine v_iconst (pc := 94) dX12_meets_94 ?_
          refine v_goto (pc := 95) 99 dX12_meets_95 (by decide) ?_
          refine v_iadd (pc := 99) dX12_meets_99 ?_
          refine v_iast (pc := 100) 0 rfl (by omega) (by omega) (by decide) (ws2 := [((ad 19), cn 0 6 (aup pt p ((pt p) + 1))), (h, co 12 (mO ad v2_15)), ((ad 9), cn 0 6 by2_16), ((ad 10), cn 1 64 tr2_17)]) rfl dX12_meets_100 ?_
          refine v_aload_n (pc := 101) 2 rfl dX12_meets_101 ?_
          refine v_get (pc := 102) (v := ar (ad 19)) 19 (Or.inr ⟨1, rfl⟩) fl_12_31_12 rfl dX12_meets_102 ?_
          refine v_iload_n (pc := 105) 4 rfl dX12_meets_105 ?_
          refine v_dup2 (pc := 106) rfl rfl dX12_meets_106 ?_
          refine v_iald (pc := 107) (Or.inr ⟨0, rfl⟩) (by omega) (by omega) (by decide) dX12_meets_107 ?_
          refine v_aload_n (pc := 108) 2 rfl dX12_meets_108 ?_
          refine v_get (pc := 109) (v := al (v2_15 16)) 16 (Or.inr ⟨1, rfl⟩) fl_12_218_12 rfl dX12_meets_109 ?_
          refine v_lload (pc := 112) 0 rfl dX12_meets_112 ?_
          refine v_lcmp (pc := 114) (by unfold lB; omega) (by unfold lB; omega) dX12_meets_114 ?_
          refine v_if_ge (pc := 115) 122 dX12_meets_115 (by decide) (acmp_iB _ _) (fun c_23 => ?_) (fun c_23 => ?_)
          · skip
            have c_23 := acmp_ge.mp c_23
            refine v_aload_n (pc := 122) 2 rfl dX12_meets_122 ?_
            refine v_get (pc := 123) (v := al (v2_15 16)) 16 (Or.inr ⟨1, rfl⟩) fl_12_218_12 rfl dX12_meets_123 ?_
            refine v_lload (pc := 126) 0 rfl dX12_meets_126 ?_
            refine v_lcmp (pc := 128) (by unfold lB; omega) (by unfold lB; omega) dX12_meets_128 ?_
            refine v_if_ne (pc := 129) 136 dX12_meets_129 (by decide) (acmp_iB _ _) (fun c_24 => ?_) (fun c_24 => ?_)
            · skip
              have c_24 : ¬ _ = _ := fun z => c_24 (acmp_eq.mpr z)
              refine v_iconst (pc := 136) dX12_meets_136 ?_
              refine v_iadd (pc := 137) dX12_meets_137 ?_
              refine v_iast (pc := 138) 0 rfl (by omega) (by omega) (by decide) (ws2 := [((ad 19), cn 0 6 (aup (aup pt p ((pt p) + 1)) q (((aup pt p ((pt p) + 1)) q) + 0))), (h, co 12 (mO ad v2_15)), ((ad 9), cn 0 6 by2_16), ((ad 10), cn 1 64 tr2_17)]) rfl dX12_meets_138 ?_
              exact hret ((aup (aup pt p ((pt p) + 1)) q (((aup pt p ((pt p) + 1)) q) + 0)), v2_15, by2_16, tr2_17) _ _ _ _ _ (by (refine ⟨?_, hkeep⟩; unfold mt mtP mtW mtL; rw [aup_n _ _ (fun z => hpq z.symm)]; (repeat' split) <;> first | rfl | (exfalso; omega))) rfl rfl (Nat.le_of_ble_eq_true rfl) (Nat.le_of_ble_eq_true rfl) dX12_meets_139
            · skip
              have c_24 := acmp_eq.mp c_24
              refine v_iconst (pc := 132) dX12_meets_132 ?_
              refine v_goto (pc := 133) 137 dX12_meets_133 (by decide) ?_
              refine v_iadd (pc := 137) dX12_meets_137 ?_
              refine v_iast (pc := 138) 0 rfl (by omega) (by omega) (by decide) (ws2 := [((ad 19), cn 0 6 (aup (aup pt p ((pt p) + 1)) q (((aup pt p ((pt p) + 1)) q) + 1))), (h, co 12 (mO ad v2_15)), ((ad 9), cn 0 6 by2_16), ((ad 10), cn 1 64 tr2_17)]) rfl dX12_meets_138 ?_
              exact hret ((aup (aup pt p ((pt p) + 1)) q (((aup pt p ((pt p) + 1)) q) + 1)), v2_15, by2_16, tr2_17) _ _ _ _ _ (by (refine ⟨?_, hkeep⟩; unfold mt mtP mtW mtL; rw [aup_n _ _ (fun z => hpq z.symm)]; (repeat' split) <;> first | rfl | (exfalso; omega))) rfl rfl (Nat.le_of_ble_eq_true rfl) (Nat.le_of_ble_eq_true rfl) dX12_meets_139
          · skip
            have c_23 := acmp_lt.mp c_23
            refine v_iconst (pc := 118) dX12_meets_118 ?_
            refine v_goto (pc := 119) 137 dX12_meets_119 (by decide) ?_
            refine v_iadd (pc := 137) dX12_meets_137 ?_
            refine v_iast (pc := 138) 0 rfl (by omega) (by omega) (by decide) (ws2 := [((ad 19), cn 0 6 (aup (aup pt p ((pt p) + 1)) q (((aup pt p ((pt p) + 1)) q) + 2))), (h, co 12 (mO ad v2_15)), ((ad 9), cn 0 6 by2_16), ((ad 10), cn 1 64 tr2_17)]) rfl dX12_meets_138 ?_
            exact hret ((aup (aup pt p ((pt p) + 1)) q (((aup pt p ((pt p) + 1)) q) + 2)), v2_15, by2_16, tr2_17) _ _ _ _ _ (by (refine ⟨?_, hkeep⟩; unfold mt mtP mtW mtL; rw [aup_n _ _ (fun z => hpq z.symm)]; (repeat' split) <;> first | rfl | (exfalso; omega))) rfl rfl (Nat.le_of_ble_eq_true rfl) (Nat.le_of_ble_eq_true rfl) dX12_meets_139
      · skip
        have c_19 := acmp_gt.mp c_19
        refine v_iconst (pc := 80) dX12_meets_80 ?_
        refine v_goto (pc := 81) 99 dX12_meets_81 (by decide) ?_
        refine v_iadd (pc := 99) dX12_meets_99 ?_
        refine v_iast (pc := 100) 0 rfl (by omega) (by omega) (by decide) (ws2 := [((ad 19), cn 0 6 (aup pt p ((pt p) + 2))), (h, co 12 (mO ad v2_15)), ((ad 9), cn 0 6 by2_16), ((ad 10), cn 1 64 tr2_17)]) rfl dX12_meets_100 ?_
        refine v_aload_n (pc := 101) 2 rfl dX12_meets_101 ?_
        refine v_get (pc := 102) (v := ar (ad 19)) 19 (Or.inr ⟨1, rfl⟩) fl_12_31_12 rfl dX12_meets_102 ?_
        refine v_iload_n (pc := 105) 4 rfl dX12_meets_105 ?_
        refine v_dup2 (pc := 106) rfl rfl dX12_meets_106 ?_
        refine v_iald (pc := 107) (Or.inr ⟨0, rfl⟩) (by omega) (by omega) (by decide) dX12_meets_107 ?_
        refine v_aload_n (pc := 108) 2 rfl dX12_meets_108 ?_
        refine v_get (pc := 109) (v := al (v2_15 16)) 16 (Or.inr ⟨1, rfl⟩) fl_12_218_12 rfl dX12_meets_109 ?_
        refine v_lload (pc := 112) 0 rfl dX12_meets_112 ?_
        refine v_lcmp (pc := 114) (by unfold lB; omega) (by unfold lB; omega) dX12_meets_114 ?_
        refine v_if_ge (pc := 115) 122 dX12_meets_115 (by decide) (acmp_iB _ _) (fun c_25 => ?_) (fun c_25 => ?_)
        · skip
          have c_25 := acmp_ge.mp c_25
          refine v_aload_n (pc := 122) 2 rfl dX12_meets_122 ?_
          refine v_get (pc := 123) (v := al (v2_15 16)) 16 (Or.inr ⟨1, rfl⟩) fl_12_218_12 rfl dX12_meets_123 ?_
          refine v_lload (pc := 126) 0 rfl dX12_meets_126 ?_
          refine v_lcmp (pc := 128) (by unfold lB; omega) (by unfold lB; omega) dX12_meets_128 ?_
          refine v_if_ne (pc := 129) 136 dX12_meets_129 (by decide) (acmp_iB _ _) (fun c_26 => ?_) (fun c_26 => ?_)
          · skip
            have c_26 : ¬ _ = _ := fun z => c_26 (acmp_eq.mpr z)
            refine v_iconst (pc := 136) dX12_meets_136 ?_
            refine v_iadd (pc := 137) dX12_meets_137 ?_
            refine v_iast (pc := 138) 0 rfl (by omega) (by omega) (by decide) (ws2 := [((ad 19), cn 0 6 (aup (aup pt p ((pt p) + 2)) q (((aup pt p ((pt p) + 2)) q) + 0))), (h, co 12 (mO ad v2_15)), ((ad 9), cn 0 6 by2_16), ((ad 10), cn 1 64 tr2_17)]) rfl dX12_meets_138 ?_
            exact hret ((aup (aup pt p ((pt p) + 2)) q (((aup pt p ((pt p) + 2)) q) + 0)), v2_15, by2_16, tr2_17) _ _ _ _ _ (by (refine ⟨?_, hkeep⟩; unfold mt mtP mtW mtL; rw [aup_n _ _ (fun z => hpq z.symm)]; (repeat' split) <;> first | rfl | (exfalso; omega))) rfl rfl (Nat.le_of_ble_eq_true rfl) (Nat.le_of_ble_eq_true rfl) dX12_meets_139
          · skip
            have c_26 := acmp_eq.mp c_26
            refine v_iconst (pc := 132) dX12_meets_132 ?_
            refine v_goto (pc := 133) 137 dX12_meets_133 (by decide) ?_
            refine v_iadd (pc := 137) dX12_meets_137 ?_
            refine v_iast (pc := 138) 0 rfl (by omega) (by omega) (by decide) (ws2 := [((ad 19), cn 0 6 (aup (aup pt p ((pt p) + 2)) q (((aup pt p ((pt p) + 2)) q) + 1))), (h, co 12 (mO ad v2_15)), ((ad 9), cn 0 6 by2_16), ((ad 10), cn 1 64 tr2_17)]) rfl dX12_meets_138 ?_
            exact hret ((aup (aup pt p ((pt p) + 2)) q (((aup pt p ((pt p) + 2)) q) + 1)), v2_15, by2_16, tr2_17) _ _ _ _ _ (by (refine ⟨?_, hkeep⟩; unfold mt mtP mtW mtL; rw [aup_n _ _ (fun z => hpq z.symm)]; (repeat' split) <;> first | rfl | (exfalso; omega))) rfl rfl (Nat.le_of_ble_eq_true rfl) (Nat.le_of_ble_eq_true rfl) dX12_meets_139
        · skip
          have c_25 := acmp_lt.mp c_25
          refine v_iconst (pc := 118) dX12_meets_118 ?_
          refine v_goto (pc := 119) 137 dX12_meets_119 (by decide) ?_
          refine v_iadd (pc := 137) dX12_meets_137 ?_
          refine v_iast (pc := 138) 0 rfl (by omega) (by omega) (by decide) (ws2 := [((ad 19), cn 0 6 (aup (aup pt p ((pt p) + 2)) q (((aup pt p ((pt p) + 2)) q) + 2))), (h, co 12 (mO ad v2_15)), ((ad 9), cn 0 6 by2_16), ((ad 10), cn 1 64 tr2_17)]) rfl dX12_meets_138 ?_
          exact hret ((aup (aup pt p ((pt p) + 2)) q (((aup pt p ((pt p) + 2)) q) + 2)), v2_15, by2_16, tr2_17) _ _ _ _ _ (by (refine ⟨?_, hkeep⟩; unfold mt mtP mtW mtL; rw [aup_n _ _ (fun z => hpq z.symm)]; (repeat' split) <;> first | rfl | (exfalso; omega))) rfl rfl (Nat.le_of_ble_eq_true rfl) (Nat.le_of_ble_eq_true rfl) dX12_meets_139
  · skip
    refine v_aload_n (pc := 15) 0 rfl dX12_meets_15 ?_
    refine v_get (pc := 16) (v := ar (ad 18)) 18 (Or.inr ⟨1, rfl⟩) fl_12_28_12 rfl dX12_meets_16 ?_
    refine v_iload_n (pc := 19) 1 rfl dX12_meets_19 ?_
    refine v_iald (pc := 20) (Or.inl r1) (by omega) (by omega) (by decide) dX12_meets_20 ?_
    refine v_goto (pc := 21) 30 dX12_meets_21 (by decide) ?_
    refine v_istore_n (pc := 30) (L2 := [(3, ai (ms p)), (0, ar h), (1, ai p), (2, ai q)]) rfl (by decide) dX12_meets_30 ?_
    refine v_aload_n (pc := 31) 1 rfl dX12_meets_31 ?_
    refine v_iload_n (pc := 32) 2 rfl dX12_meets_32 ?_
    refine v_iload_n (pc := 33) 3 rfl dX12_meets_33 ?_
    refine v_iload_n (pc := 34) 0 rfl dX12_meets_34 ?_
    refine v_iconst (pc := 35) dX12_meets_35 ?_
    refine v_icmp_ge (pc := 36) 43 dX12_meets_36 (by decide) (by unfold iB; omega) (by unfold iB; omega) (fun c_27 => ?_) (fun c_27 => ?_)
    · skip
      refine v_iload_n (pc := 43) 0 rfl dX12_meets_43 ?_
      refine v_iconst (pc := 44) dX12_meets_44 ?_
      refine v_callV (pc := 45) [1, 2, 3] [0] [((ad 19), cn 0 6 pt)] (As := [ai p, ai q, ai (ms p), ai 4]) (rest := []) (c_X12_raises ad v h f by0 tr0 p q (ms p) 4 (by assumption) (by first | omega | assumption) (by first | omega | assumption) (by first | omega | assumption) (by first | omega | assumption)) (c := 12) rfl (Or.inr ⟨1, rfl⟩) wl_X12_225 wi_X12_raises wv_X12_X12_raises_X12_raises wk_X12_raises wz_X12 md_X12_raises rfl (Nat.le_of_ble_eq_true rfl) ⟨Nat.le_of_ble_eq_true rfl, Nat.le_of_ble_eq_true rfl, Nat.le_of_ble_eq_true rfl, Nat.le_of_ble_eq_true rfl⟩ rfl rfl rfl rfl (by decide) (ro_cons (Or.inl r0) ro_nil) dX12_meets_45 (fun u hu => ?_)
      obtain ⟨v2_28, by2_29, tr2_30⟩ := u
      have g_31 : (v2_28 3 = v 3 ∧ v2_28 21 = v 21) ∧ v2_28 16 = (rs (rsG f p q (ms p)) (4 : Int).toNat).1 ∧ v2_28 17 = (rs (rsG f p q (ms p)) (4 : Int).toNat).2 := hu
      show V x cX12_meets RX12 6 (rmU 5 128 0 0) [((ad 19), cn 0 6 pt), (h, co 12 (mO ad v2_28)), ((ad 9), cn 0 6 by2_29), ((ad 10), cn 1 64 tr2_30)] 48 [(3, ai (ms p)), (0, ar h), (1, ai p), (2, ai q)] [] 0 0
      have hkeep := g_31.1
      have hn : (ms p) = mtN ms p q := by unfold mtN; (repeat' split) <;> omega
      have h16 : v2_28 16 = (rs (rsG f p q (mtN ms p q)) 4).1 := by rw [← hn]; exact g_31.2.1
      have h17 : v2_28 17 = (rs (rsG f p q (mtN ms p q)) 4).2 := by rw [← hn]; exact g_31.2.2
      refine v_ldc2 (pc := 48) (z := 10000) (bw_mem 1392 (by decide +kernel) rfl) dX12_meets_48 ?_
      refine v_aload_n (pc := 51) 1 rfl dX12_meets_51 ?_
      refine v_get (pc := 52) (v := al (v2_28 16)) 16 (Or.inr ⟨1, rfl⟩) fl_12_218_12 rfl dX12_meets_52 ?_
      refine v_lsub (pc := 55) dX12_meets_55 ?_
      refine v_aload_n (pc := 56) 1 rfl dX12_meets_56 ?_
      refine v_get (pc := 57) (v := al (v2_28 17)) 17 (Or.inr ⟨1, rfl⟩) fl_12_222_12 rfl dX12_meets_57 ?_
      refine v_lsub (pc := 60) dX12_meets_60 ?_
      refine v_lstore (pc := 61) (L2 := [(4, al ((10000 - (v2_28 16)) - (v2_28 17))), (3, ai (ms p)), (0, ar h), (1, ai p), (2, ai q)]) rfl (by decide) dX12_meets_61 ?_
      refine v_aload_n (pc := 63) 2 rfl dX12_meets_63 ?_
      refine v_get (pc := 64) (v := ar (ad 19)) 19 (Or.inr ⟨1, rfl⟩) fl_12_31_12 rfl dX12_meets_64 ?_
      refine v_iload_n (pc := 67) 3 rfl dX12_meets_67 ?_
      refine v_dup2 (pc := 68) rfl rfl dX12_meets_68 ?_
      refine v_iald (pc := 69) (Or.inr ⟨0, rfl⟩) (by omega) (by omega) (by decide) dX12_meets_69 ?_
      refine v_aload_n (pc := 70) 2 rfl dX12_meets_70 ?_
      refine v_get (pc := 71) (v := al (v2_28 16)) 16 (Or.inr ⟨1, rfl⟩) fl_12_218_12 rfl dX12_meets_71 ?_
      refine v_lload (pc := 74) 0 rfl dX12_meets_74 ?_
      refine v_lcmp (pc := 76) (by unfold lB; omega) (by unfold lB; omega) dX12_meets_76 ?_
      refine v_if_le (pc := 77) 84 dX12_meets_77 (by decide) (acmp_iB _ _) (fun c_32 => ?_) (fun c_32 => ?_)
      · skip
        have c_32 := acmp_le.mp c_32
        refine v_aload_n (pc := 84) 2 rfl dX12_meets_84 ?_
        refine v_get (pc := 85) (v := al (v2_28 16)) 16 (Or.inr ⟨1, rfl⟩) fl_12_218_12 rfl dX12_meets_85 ?_
        refine v_lload (pc := 88) 0 rfl dX12_meets_88 ?_
        refine v_lcmp (pc := 90) (by unfold lB; omega) (by unfold lB; omega) dX12_meets_90 ?_
        refine v_if_ne (pc := 91) 98 dX12_meets_91 (by decide) (acmp_iB _ _) (fun c_33 => ?_) (fun c_33 => ?_)
        · skip
          have c_33 : ¬ _ = _ := fun z => c_33 (acmp_eq.mpr z)
          refine v_iconst (pc := 98) dX12_meets_98 ?_
          refine v_iadd (pc := 99) dX12_meets_99 ?_
          refine v_iast (pc := 100) 0 rfl (by omega) (by omega) (by decide) (ws2 := [((ad 19), cn 0 6 (aup pt p ((pt p) + 0))), (h, co 12 (mO ad v2_28)), ((ad 9), cn 0 6 by2_29), ((ad 10), cn 1 64 tr2_30)]) rfl dX12_meets_100 ?_
          refine v_aload_n (pc := 101) 2 rfl dX12_meets_101 ?_
          refine v_get (pc := 102) (v := ar (ad 19)) 19 (Or.inr ⟨1, rfl⟩) fl_12_31_12 rfl dX12_meets_102 ?_
          refine v_iload_n (pc := 105) 4 rfl dX12_meets_105 ?_
          refine v_dup2 (pc := 106) rfl rfl dX12_meets_106 ?_
          refine v_iald (pc := 107) (Or.inr ⟨0, rfl⟩) (by omega) (by omega) (by decide) dX12_meets_107 ?_
          refine v_aload_n (pc := 108) 2 rfl dX12_meets_108 ?_
          refine v_get (pc := 109) (v := al (v2_28 16)) 16 (Or.inr ⟨1, rfl⟩) fl_12_218_12 rfl dX12_meets_109 ?_
          refine v_lload (pc := 112) 0 rfl dX12_meets_112 ?_
          refine v_lcmp (pc := 114) (by unfold lB; omega) (by unfold lB; omega) dX12_meets_114 ?_
          refine v_if_ge (pc := 115) 122 dX12_meets_115 (by decide) (acmp_iB _ _) (fun c_34 => ?_) (fun c_34 => ?_)
          · skip
            have c_34 := acmp_ge.mp c_34
            refine v_aload_n (pc := 122) 2 rfl dX12_meets_122 ?_
            refine v_get (pc := 123) (v := al (v2_28 16)) 16 (Or.inr ⟨1, rfl⟩) fl_12_218_12 rfl dX12_meets_123 ?_
            refine v_lload (pc := 126) 0 rfl dX12_meets_126 ?_
            refine v_lcmp (pc := 128) (by unfold lB; omega) (by unfold lB; omega) dX12_meets_128 ?_
            refine v_if_ne (pc := 129) 136 dX12_meets_129 (by decide) (acmp_iB _ _) (fun c_35 => ?_) (fun c_35 => ?_)
            · skip
              have c_35 : ¬ _ = _ := fun z => c_35 (acmp_eq.mpr z)
              refine v_iconst (pc := 136) dX12_meets_136 ?_
              refine v_iadd (pc := 137) dX12_meets_137 ?_
              refine v_iast (pc := 138) 0 rfl (by omega) (by omega) (by decide) (ws2 := [((ad 19), cn 0 6 (aup (aup pt p ((pt p) + 0)) q (((aup pt p ((pt p) + 0)) q) + 0))), (h, co 12 (mO ad v2_28)), ((ad 9), cn 0 6 by2_29), ((ad 10), cn 1 64 tr2_30)]) rfl dX12_meets_138 ?_
              exact hret ((aup (aup pt p ((pt p) + 0)) q (((aup pt p ((pt p) + 0)) q) + 0)), v2_28, by2_29, tr2_30) _ _ _ _ _ (by (refine ⟨?_, hkeep⟩; unfold mt mtP mtW mtL; rw [aup_n _ _ (fun z => hpq z.symm)]; (repeat' split) <;> first | rfl | (exfalso; omega))) rfl rfl (Nat.le_of_ble_eq_true rfl) (Nat.le_of_ble_eq_true rfl) dX12_meets_139
            · skip
              have c_35 := acmp_eq.mp c_35
              refine v_iconst (pc := 132) dX12_meets_132 ?_
              refine v_goto (pc := 133) 137 dX12_meets_133 (by decide) ?_
              refine v_iadd (pc := 137) dX12_meets_137 ?_
              refine v_iast (pc := 138) 0 rfl (by omega) (by omega) (by decide) (ws2 := [((ad 19), cn 0 6 (aup (aup pt p ((pt p) + 0)) q (((aup pt p ((pt p) + 0)) q) + 1))), (h, co 12 (mO ad v2_28)), ((ad 9), cn 0 6 by2_29), ((ad 10), cn 1 64 tr2_30)]) rfl dX12_meets_138 ?_
              exact hret ((aup (aup pt p ((pt p) + 0)) q (((aup pt p ((pt p) + 0)) q) + 1)), v2_28, by2_29, tr2_30) _ _ _ _ _ (by (refine ⟨?_, hkeep⟩; unfold mt mtP mtW mtL; rw [aup_n _ _ (fun z => hpq z.symm)]; (repeat' split) <;> first | rfl | (exfalso; omega))) rfl rfl (Nat.le_of_ble_eq_true rfl) (Nat.le_of_ble_eq_true rfl) dX12_meets_139
          · skip
            have c_34 := acmp_lt.mp c_34
            refine v_iconst (pc := 118) dX12_meets_118 ?_
            refine v_goto (pc := 119) 137 dX12_meets_119 (by decide) ?_
            refine v_iadd (pc := 137) dX12_meets_137 ?_
            refine v_iast (pc := 138) 0 rfl (by omega) (by omega) (by decide) (ws2 := [((ad 19), cn 0 6 (aup (aup pt p ((pt p) + 0)) q (((aup pt p ((pt p) + 0)) q) + 2))), (h, co 12 (mO ad v2_28)), ((ad 9), cn 0 6 by2_29), ((ad 10), cn 1 64 tr2_30)]) rfl dX12_meets_138 ?_
            exact hret ((aup (aup pt p ((pt p) + 0)) q (((aup pt p ((pt p) + 0)) q) + 2)), v2_28, by2_29, tr2_30) _ _ _ _ _ (by (refine ⟨?_, hkeep⟩; unfold mt mtP mtW mtL; rw [aup_n _ _ (fun z => hpq z.symm)]; (repeat' split) <;> first | rfl | (exfalso; omega))) rfl rfl (Nat.le_of_ble_eq_true rfl) (Nat.le_of_ble_eq_true rfl) dX12_meets_139
        · skip
          have c_33 := acmp_eq.mp c_33
          refine v_iconst (pc := 94) dX12_meets_94 ?_
          refine v_goto (pc := 95) 99 dX12_meets_95 (by decide) ?_
          refine v_iadd (pc := 99) dX12_meets_99 ?_
          refine v_iast (pc := 100) 0 rfl (by omega) (by omega) (by decide) (ws2 := [((ad 19), cn 0 6 (aup pt p ((pt p) + 1))), (h, co 12 (mO ad v2_28)), ((ad 9), cn 0 6 by2_29), ((ad 10), cn 1 64 tr2_30)]) rfl dX12_meets_100 ?_
          refine v_aload_n (pc := 101) 2 rfl dX12_meets_101 ?_
          refine v_get (pc := 102) (v := ar (ad 19)) 19 (Or.inr ⟨1, rfl⟩) fl_12_31_12 rfl dX12_meets_102 ?_
          refine v_iload_n (pc := 105) 4 rfl dX12_meets_105 ?_
          refine v_dup2 (pc := 106) rfl rfl dX12_meets_106 ?_
          refine v_iald (pc := 107) (Or.inr ⟨0, rfl⟩) (by omega) (by omega) (by decide) dX12_meets_107 ?_
          refine v_aload_n (pc := 108) 2 rfl dX12_meets_108 ?_
          refine v_get (pc := 109) (v := al (v2_28 16)) 16 (Or.inr ⟨1, rfl⟩) fl_12_218_12 rfl dX12_meets_109 ?_
          refine v_lload (pc := 112) 0 rfl dX12_meets_112 ?_
          refine v_lcmp (pc := 114) (by unfold lB; omega) (by unfold lB; omega) dX12_meets_114 ?_
          refine v_if_ge (pc := 115) 122 dX12_meets_115 (by decide) (acmp_iB _ _) (fun c_36 => ?_) (fun c_36 => ?_)
          · skip
            have c_36 := acmp_ge.mp c_36
            refine v_aload_n (pc := 122) 2 rfl dX12_meets_122 ?_
            refine v_get (pc := 123) (v := al (v2_28 16)) 16 (Or.inr ⟨1, rfl⟩) fl_12_218_12 rfl dX12_meets_123 ?_
            refine v_lload (pc := 126) 0 rfl dX12_meets_126 ?_
            refine v_lcmp (pc := 128) (by unfold lB; omega) (by unfold lB; omega) dX12_meets_128 ?_
            refine v_if_ne (pc := 129) 136 dX12_meets_129 (by decide) (acmp_iB _ _) (fun c_37 => ?_) (fun c_37 => ?_)
            · skip
              have c_37 : ¬ _ = _ := fun z => c_37 (acmp_eq.mpr z)
              refine v_iconst (pc := 136) dX12_meets_136 ?_
              refine v_iadd (pc := 137) dX12_meets_137 ?_
              refine v_iast (pc := 138) 0 rfl (by omega) (by omega) (by decide) (ws2 := [((ad 19), cn 0 6 (aup (aup pt p ((pt p) + 1)) q (((aup pt p ((pt p) + 1)) q) + 0))), (h, co 12 (mO ad v2_28)), ((ad 9), cn 0 6 by2_29), ((ad 10), cn 1 64 tr2_30)]) rfl dX12_meets_138 ?_
              exact hret ((aup (aup pt p ((pt p) + 1)) q (((aup pt p ((pt p) + 1)) q) + 0)), v2_28, by2_29, tr2_30) _ _ _ _ _ (by (refine ⟨?_, hkeep⟩; unfold mt mtP mtW mtL; rw [aup_n _ _ (fun z => hpq z.symm)]; (repeat' split) <;> first | rfl | (exfalso; omega))) rfl rfl (Nat.le_of_ble_eq_true rfl) (Nat.le_of_ble_eq_true rfl) dX12_meets_139
            · skip
              have c_37 := acmp_eq.mp c_37
              refine v_iconst (pc := 132) dX12_meets_132 ?_
              refine v_goto (pc := 133) 137 dX12_meets_133 (by decide) ?_
              refine v_iadd (pc := 137) dX12_meets_137 ?_
              refine v_iast (pc := 138) 0 rfl (by omega) (by omega) (by decide) (ws2 := [((ad 19), cn 0 6 (aup (aup pt p ((pt p) + 1)) q (((aup pt p ((pt p) + 1)) q) + 1))), (h, co 12 (mO ad v2_28)), ((ad 9), cn 0 6 by2_29), ((ad 10), cn 1 64 tr2_30)]) rfl dX12_meets_138 ?_
              exact hret ((aup (aup pt p ((pt p) + 1)) q (((aup pt p ((pt p) + 1)) q) + 1)), v2_28, by2_29, tr2_30) _ _ _ _ _ (by (refine ⟨?_, hkeep⟩; unfold mt mtP mtW mtL; rw [aup_n _ _ (fun z => hpq z.symm)]; (repeat' split) <;> first | rfl | (exfalso; omega))) rfl rfl (Nat.le_of_ble_eq_true rfl) (Nat.le_of_ble_eq_true rfl) dX12_meets_139
          · skip
            have c_36 := acmp_lt.mp c_36
            refine v_iconst (pc := 118) dX12_meets_118 ?_
            refine v_goto (pc := 119) 137 dX12_meets_119 (by decide) ?_
            refine v_iadd (pc := 137) dX12_meets_137 ?_
            refine v_iast (pc := 138) 0 rfl (by omega) (by omega) (by decide) (ws2 := [((ad 19), cn 0 6 (aup (aup pt p ((pt p) + 1)) q (((aup pt p ((pt p) + 1)) q) + 2))), (h, co 12 (mO ad v2_28)), ((ad 9), cn 0 6 by2_29), ((ad 10), cn 1 64 tr2_30)]) rfl dX12_meets_138 ?_
            exact hret ((aup (aup pt p ((pt p) + 1)) q (((aup pt p ((pt p) + 1)) q) + 2)), v2_28, by2_29, tr2_30) _ _ _ _ _ (by (refine ⟨?_, hkeep⟩; unfold mt mtP mtW mtL; rw [aup_n _ _ (fun z => hpq z.symm)]; (repeat' split) <;> first | rfl | (exfalso; omega))) rfl rfl (Nat.le_of_ble_eq_true rfl) (Nat.le_of_ble_eq_true rfl) dX12_meets_139
      · skip
        have c_32 := acmp_gt.mp c_32
        refine v_iconst (pc := 80) dX12_meets_80 ?_
        refine v_goto (pc := 81) 99 dX12_meets_81 (by decide) ?_
        refine v_iadd (pc := 99) dX12_meets_99 ?_
        refine v_iast (pc := 100) 0 rfl (by omega) (by omega) (by decide) (ws2 := [((ad 19), cn 0 6 (aup pt p ((pt p) + 2))), (h, co 12 (mO ad v2_28)), ((ad 9), cn 0 6 by2_29), ((ad 10), cn 1 64 tr2_30)]) rfl dX12_meets_100 ?_
        refine v_aload_n (pc := 101) 2 rfl dX12_meets_101 ?_
        refine v_get (pc := 102) (v := ar (ad 19)) 19 (Or.inr ⟨1, rfl⟩) fl_12_31_12 rfl dX12_meets_102 ?_
        refine v_iload_n (pc := 105) 4 rfl dX12_meets_105 ?_
        refine v_dup2 (pc := 106) rfl rfl dX12_meets_106 ?_
        refine v_iald (pc := 107) (Or.inr ⟨0, rfl⟩) (by omega) (by omega) (by decide) dX12_meets_107 ?_
        refine v_aload_n (pc := 108) 2 rfl dX12_meets_108 ?_
        refine v_get (pc := 109) (v := al (v2_28 16)) 16 (Or.inr ⟨1, rfl⟩) fl_12_218_12 rfl dX12_meets_109 ?_
        refine v_lload (pc := 112) 0 rfl dX12_meets_112 ?_
        refine v_lcmp (pc := 114) (by unfold lB; omega) (by unfold lB; omega) dX12_meets_114 ?_
        refine v_if_ge (pc := 115) 122 dX12_meets_115 (by decide) (acmp_iB _ _) (fun c_38 => ?_) (fun c_38 => ?_)
        · skip
          have c_38 := acmp_ge.mp c_38
          refine v_aload_n (pc := 122) 2 rfl dX12_meets_122 ?_
          refine v_get (pc := 123) (v := al (v2_28 16)) 16 (Or.inr ⟨1, rfl⟩) fl_12_218_12 rfl dX12_meets_123 ?_
          refine v_lload (pc := 126) 0 rfl dX12_meets_126 ?_
          refine v_lcmp (pc := 128) (by unfold lB; omega) (by unfold lB; omega) dX12_meets_128 ?_
          refine v_if_ne (pc := 129) 136 dX12_meets_129 (by decide) (acmp_iB _ _) (fun c_39 => ?_) (fun c_39 => ?_)
          · skip
            have c_39 : ¬ _ = _ := fun z => c_39 (acmp_eq.mpr z)
            refine v_iconst (pc := 136) dX12_meets_136 ?_
            refine v_iadd (pc := 137) dX12_meets_137 ?_
            refine v_iast (pc := 138) 0 rfl (by omega) (by omega) (by decide) (ws2 := [((ad 19), cn 0 6 (aup (aup pt p ((pt p) + 2)) q (((aup pt p ((pt p) + 2)) q) + 0))), (h, co 12 (mO ad v2_28)), ((ad 9), cn 0 6 by2_29), ((ad 10), cn 1 64 tr2_30)]) rfl dX12_meets_138 ?_
            exact hret ((aup (aup pt p ((pt p) + 2)) q (((aup pt p ((pt p) + 2)) q) + 0)), v2_28, by2_29, tr2_30) _ _ _ _ _ (by (refine ⟨?_, hkeep⟩; unfold mt mtP mtW mtL; rw [aup_n _ _ (fun z => hpq z.symm)]; (repeat' split) <;> first | rfl | (exfalso; omega))) rfl rfl (Nat.le_of_ble_eq_true rfl) (Nat.le_of_ble_eq_true rfl) dX12_meets_139
          · skip
            have c_39 := acmp_eq.mp c_39
            refine v_iconst (pc := 132) dX12_meets_132 ?_
            refine v_goto (pc := 133) 137 dX12_meets_133 (by decide) ?_
            refine v_iadd (pc := 137) dX12_meets_137 ?_
            refine v_iast (pc := 138) 0 rfl (by omega) (by omega) (by decide) (ws2 := [((ad 19), cn 0 6 (aup (aup pt p ((pt p) + 2)) q (((aup pt p ((pt p) + 2)) q) + 1))), (h, co 12 (mO ad v2_28)), ((ad 9), cn 0 6 by2_29), ((ad 10), cn 1 64 tr2_30)]) rfl dX12_meets_138 ?_
            exact hret ((aup (aup pt p ((pt p) + 2)) q (((aup pt p ((pt p) + 2)) q) + 1)), v2_28, by2_29, tr2_30) _ _ _ _ _ (by (refine ⟨?_, hkeep⟩; unfold mt mtP mtW mtL; rw [aup_n _ _ (fun z => hpq z.symm)]; (repeat' split) <;> first | rfl | (exfalso; omega))) rfl rfl (Nat.le_of_ble_eq_true rfl) (Nat.le_of_ble_eq_true rfl) dX12_meets_139
        · skip
          have c_38 := acmp_lt.mp c_38
          refine v_iconst (pc := 118) dX12_meets_118 ?_
          refine v_goto (pc := 119) 137 dX12_meets_119 (by decide) ?_
          refine v_iadd (pc := 137) dX12_meets_137 ?_
          refine v_iast (pc := 138) 0 rfl (by omega) (by omega) (by decide) (ws2 := [((ad 19), cn 0 6 (aup (aup pt p ((pt p) + 2)) q (((aup pt p ((pt p) + 2)) q) + 2))), (h, co 12 (mO ad v2_28)), ((ad 9), cn 0 6 by2_29), ((ad 10), cn 1 64 tr2_30)]) rfl dX12_meets_138 ?_
          exact hret ((aup (aup pt p ((pt p) + 2)) q (((aup pt p ((pt p) + 2)) q) + 2)), v2_28, by2_29, tr2_30) _ _ _ _ _ (by (refine ⟨?_, hkeep⟩; unfold mt mtP mtW mtL; rw [aup_n _ _ (fun z => hpq z.symm)]; (repeat' split) <;> first | rfl | (exfalso; omega))) rfl rfl (Nat.le_of_ble_eq_true rfl) (Nat.le_of_ble_eq_true rfl) dX12_meets_139
    · skip
      refine v_iconst (pc := 39) dX12_meets_39 ?_
      refine v_goto (pc := 40) 44 dX12_meets_40 (by decide) ?_
      refine v_iconst (pc := 44) dX12_meets_44 ?_
      refine v_callV (pc := 45) [1, 2, 3] [0] [((ad 19), cn 0 6 pt)] (As := [ai p, ai q, ai 1, ai 4]) (rest := []) (c_X12_raises ad v h f by0 tr0 p q 1 4 (by assumption) (by first | omega | assumption) (by first | omega | assumption) (by first | omega | assumption) (by first | omega | assumption)) (c := 12) rfl (Or.inr ⟨1, rfl⟩) wl_X12_225 wi_X12_raises wv_X12_X12_raises_X12_raises wk_X12_raises wz_X12 md_X12_raises rfl (Nat.le_of_ble_eq_true rfl) ⟨Nat.le_of_ble_eq_true rfl, Nat.le_of_ble_eq_true rfl, Nat.le_of_ble_eq_true rfl, Nat.le_of_ble_eq_true rfl⟩ rfl rfl rfl rfl (by decide) (ro_cons (Or.inl r0) ro_nil) dX12_meets_45 (fun u hu => ?_)
      obtain ⟨v2_40, by2_41, tr2_42⟩ := u
      have g_43 : (v2_40 3 = v 3 ∧ v2_40 21 = v 21) ∧ v2_40 16 = (rs (rsG f p q 1) (4 : Int).toNat).1 ∧ v2_40 17 = (rs (rsG f p q 1) (4 : Int).toNat).2 := hu
      show V x cX12_meets RX12 6 (rmU 5 128 0 0) [((ad 19), cn 0 6 pt), (h, co 12 (mO ad v2_40)), ((ad 9), cn 0 6 by2_41), ((ad 10), cn 1 64 tr2_42)] 48 [(3, ai (ms p)), (0, ar h), (1, ai p), (2, ai q)] [] 0 0
      have hkeep := g_43.1
      have hn : 1 = mtN ms p q := by unfold mtN; (repeat' split) <;> omega
      have h16 : v2_40 16 = (rs (rsG f p q (mtN ms p q)) 4).1 := by rw [← hn]; exact g_43.2.1
      have h17 : v2_40 17 = (rs (rsG f p q (mtN ms p q)) 4).2 := by rw [← hn]; exact g_43.2.2
      refine v_ldc2 (pc := 48) (z := 10000) (bw_mem 1392 (by decide +kernel) rfl) dX12_meets_48 ?_
      refine v_aload_n (pc := 51) 1 rfl dX12_meets_51 ?_
      refine v_get (pc := 52) (v := al (v2_40 16)) 16 (Or.inr ⟨1, rfl⟩) fl_12_218_12 rfl dX12_meets_52 ?_
      refine v_lsub (pc := 55) dX12_meets_55 ?_
      refine v_aload_n (pc := 56) 1 rfl dX12_meets_56 ?_
      refine v_get (pc := 57) (v := al (v2_40 17)) 17 (Or.inr ⟨1, rfl⟩) fl_12_222_12 rfl dX12_meets_57 ?_
      refine v_lsub (pc := 60) dX12_meets_60 ?_
      refine v_lstore (pc := 61) (L2 := [(4, al ((10000 - (v2_40 16)) - (v2_40 17))), (3, ai (ms p)), (0, ar h), (1, ai p), (2, ai q)]) rfl (by decide) dX12_meets_61 ?_
      refine v_aload_n (pc := 63) 2 rfl dX12_meets_63 ?_
      refine v_get (pc := 64) (v := ar (ad 19)) 19 (Or.inr ⟨1, rfl⟩) fl_12_31_12 rfl dX12_meets_64 ?_
      refine v_iload_n (pc := 67) 3 rfl dX12_meets_67 ?_
      refine v_dup2 (pc := 68) rfl rfl dX12_meets_68 ?_
      refine v_iald (pc := 69) (Or.inr ⟨0, rfl⟩) (by omega) (by omega) (by decide) dX12_meets_69 ?_
      refine v_aload_n (pc := 70) 2 rfl dX12_meets_70 ?_
      refine v_get (pc := 71) (v := al (v2_40 16)) 16 (Or.inr ⟨1, rfl⟩) fl_12_218_12 rfl dX12_meets_71 ?_
      refine v_lload (pc := 74) 0 rfl dX12_meets_74 ?_
      refine v_lcmp (pc := 76) (by unfold lB; omega) (by unfold lB; omega) dX12_meets_76 ?_
      refine v_if_le (pc := 77) 84 dX12_meets_77 (by decide) (acmp_iB _ _) (fun c_44 => ?_) (fun c_44 => ?_)
      · skip
        have c_44 := acmp_le.mp c_44
        refine v_aload_n (pc := 84) 2 rfl dX12_meets_84 ?_
        refine v_get (pc := 85) (v := al (v2_40 16)) 16 (Or.inr ⟨1, rfl⟩) fl_12_218_12 rfl dX12_meets_85 ?_
        refine v_lload (pc := 88) 0 rfl dX12_meets_88 ?_
        refine v_lcmp (pc := 90) (by unfold lB; omega) (by unfold lB; omega) dX12_meets_90 ?_
        refine v_if_ne (pc := 91) 98 dX12_meets_91 (by decide) (acmp_iB _ _) (fun c_45 => ?_) (fun c_45 => ?_)
        · skip
          have c_45 : ¬ _ = _ := fun z => c_45 (acmp_eq.mpr z)
          refine v_iconst (pc := 98) dX12_meets_98 ?_
          refine v_iadd (pc := 99) dX12_meets_99 ?_
          refine v_iast (pc := 100) 0 rfl (by omega) (by omega) (by decide) (ws2 := [((ad 19), cn 0 6 (aup pt p ((pt p) + 0))), (h, co 12 (mO ad v2_40)), ((ad 9), cn 0 6 by2_41), ((ad 10), cn 1 64 tr2_42)]) rfl dX12_meets_100 ?_
          refine v_aload_n (pc := 101) 2 rfl dX12_meets_101 ?_
          refine v_get (pc := 102) (v := ar (ad 19)) 19 (Or.inr ⟨1, rfl⟩) fl_12_31_12 rfl dX12_meets_102 ?_
          refine v_iload_n (pc := 105) 4 rfl dX12_meets_105 ?_
          refine v_dup2 (pc := 106) rfl rfl dX12_meets_106 ?_
          refine v_iald (pc := 107) (Or.inr ⟨0, rfl⟩) (by omega) (by omega) (by decide) dX12_meets_107 ?_
          refine v_aload_n (pc := 108) 2 rfl dX12_meets_108 ?_
          refine v_get (pc := 109) (v := al (v2_40 16)) 16 (Or.inr ⟨1, rfl⟩) fl_12_218_12 rfl dX12_meets_109 ?_
          refine v_lload (pc := 112) 0 rfl dX12_meets_112 ?_
          refine v_lcmp (pc := 114) (by unfold lB; omega) (by unfold lB; omega) dX12_meets_114 ?_
          refine v_if_ge (pc := 115) 122 dX12_meets_115 (by decide) (acmp_iB _ _) (fun c_46 => ?_) (fun c_46 => ?_)
          · skip
            have c_46 := acmp_ge.mp c_46
            refine v_aload_n (pc := 122) 2 rfl dX12_meets_122 ?_
            refine v_get (pc := 123) (v := al (v2_40 16)) 16 (Or.inr ⟨1, rfl⟩) fl_12_218_12 rfl dX12_meets_123 ?_
            refine v_lload (pc := 126) 0 rfl dX12_meets_126 ?_
            refine v_lcmp (pc := 128) (by unfold lB; omega) (by unfold lB; omega) dX12_meets_128 ?_
            refine v_if_ne (pc := 129) 136 dX12_meets_129 (by decide) (acmp_iB _ _) (fun c_47 => ?_) (fun c_47 => ?_)
            · skip
              have c_47 : ¬ _ = _ := fun z => c_47 (acmp_eq.mpr z)
              refine v_iconst (pc := 136) dX12_meets_136 ?_
              refine v_iadd (pc := 137) dX12_meets_137 ?_
              refine v_iast (pc := 138) 0 rfl (by omega) (by omega) (by decide) (ws2 := [((ad 19), cn 0 6 (aup (aup pt p ((pt p) + 0)) q (((aup pt p ((pt p) + 0)) q) + 0))), (h, co 12 (mO ad v2_40)), ((ad 9), cn 0 6 by2_41), ((ad 10), cn 1 64 tr2_42)]) rfl dX12_meets_138 ?_
              exact hret ((aup (aup pt p ((pt p) + 0)) q (((aup pt p ((pt p) + 0)) q) + 0)), v2_40, by2_41, tr2_42) _ _ _ _ _ (by (refine ⟨?_, hkeep⟩; unfold mt mtP mtW mtL; rw [aup_n _ _ (fun z => hpq z.symm)]; (repeat' split) <;> first | rfl | (exfalso; omega))) rfl rfl (Nat.le_of_ble_eq_true rfl) (Nat.le_of_ble_eq_true rfl) dX12_meets_139
            · skip
              have c_47 := acmp_eq.mp c_47
              refine v_iconst (pc := 132) dX12_meets_132 ?_
              refine v_goto (pc := 133) 137 dX12_meets_133 (by decide) ?_
              refine v_iadd (pc := 137) dX12_meets_137 ?_
              refine v_iast (pc := 138) 0 rfl (by omega) (by omega) (by decide) (ws2 := [((ad 19), cn 0 6 (aup (aup pt p ((pt p) + 0)) q (((aup pt p ((pt p) + 0)) q) + 1))), (h, co 12 (mO ad v2_40)), ((ad 9), cn 0 6 by2_41), ((ad 10), cn 1 64 tr2_42)]) rfl dX12_meets_138 ?_
              exact hret ((aup (aup pt p ((pt p) + 0)) q (((aup pt p ((pt p) + 0)) q) + 1)), v2_40, by2_41, tr2_42) _ _ _ _ _ (by (refine ⟨?_, hkeep⟩; unfold mt mtP mtW mtL; rw [aup_n _ _ (fun z => hpq z.symm)]; (repeat' split) <;> first | rfl | (exfalso; omega))) rfl rfl (Nat.le_of_ble_eq_true rfl) (Nat.le_of_ble_eq_true rfl) dX12_meets_139
          · skip
            have c_46 := acmp_lt.mp c_46
            refine v_iconst (pc := 118) dX12_meets_118 ?_
            refine v_goto (pc := 119) 137 dX12_meets_119 (by decide) ?_
            refine v_iadd (pc := 137) dX12_meets_137 ?_
            refine v_iast (pc := 138) 0 rfl (by omega) (by omega) (by decide) (ws2 := [((ad 19), cn 0 6 (aup (aup pt p ((pt p) + 0)) q (((aup pt p ((pt p) + 0)) q) + 2))), (h, co 12 (mO ad v2_40)), ((ad 9), cn 0 6 by2_41), ((ad 10), cn 1 64 tr2_42)]) rfl dX12_meets_138 ?_
            exact hret ((aup (aup pt p ((pt p) + 0)) q (((aup pt p ((pt p) + 0)) q) + 2)), v2_40, by2_41, tr2_42) _ _ _ _ _ (by (refine ⟨?_, hkeep⟩; unfold mt mtP mtW mtL; rw [aup_n _ _ (fun z => hpq z.symm)]; (repeat' split) <;> first | rfl | (exfalso; omega))) rfl rfl (Nat.le_of_ble_eq_true rfl) (Nat.le_of_ble_eq_true rfl) dX12_meets_139
        · skip
          have c_45 := acmp_eq.mp c_45
          refine v_iconst (pc := 94) dX12_meets_94 ?_
          refine v_goto (pc := 95) 99 dX12_meets_95 (by decide) ?_
          refine v_iadd (pc := 99) dX12_meets_99 ?_
          refine v_iast (pc := 100) 0 rfl (by omega) (by omega) (by decide) (ws2 := [((ad 19), cn 0 6 (aup pt p ((pt p) + 1))), (h, co 12 (mO ad v2_40)), ((ad 9), cn 0 6 by2_41), ((ad 10), cn 1 64 tr2_42)]) rfl dX12_meets_100 ?_
          refine v_aload_n (pc := 101) 2 rfl dX12_meets_101 ?_
          refine v_get (pc := 102) (v := ar (ad 19)) 19 (Or.inr ⟨1, rfl⟩) fl_12_31_12 rfl dX12_meets_102 ?_
          refine v_iload_n (pc := 105) 4 rfl dX12_meets_105 ?_
          refine v_dup2 (pc := 106) rfl rfl dX12_meets_106 ?_
          refine v_iald (pc := 107) (Or.inr ⟨0, rfl⟩) (by omega) (by omega) (by decide) dX12_meets_107 ?_
          refine v_aload_n (pc := 108) 2 rfl dX12_meets_108 ?_
          refine v_get (pc := 109) (v := al (v2_40 16)) 16 (Or.inr ⟨1, rfl⟩) fl_12_218_12 rfl dX12_meets_109 ?_
          refine v_lload (pc := 112) 0 rfl dX12_meets_112 ?_
          refine v_lcmp (pc := 114) (by unfold lB; omega) (by unfold lB; omega) dX12_meets_114 ?_
          refine v_if_ge (pc := 115) 122 dX12_meets_115 (by decide) (acmp_iB _ _) (fun c_48 => ?_) (fun c_48 => ?_)
          · skip
            have c_48 := acmp_ge.mp c_48
            refine v_aload_n (pc := 122) 2 rfl dX12_meets_122 ?_
            refine v_get (pc := 123) (v := al (v2_40 16)) 16 (Or.inr ⟨1, rfl⟩) fl_12_218_12 rfl dX12_meets_123 ?_
            refine v_lload (pc := 126) 0 rfl dX12_meets_126 ?_
            refine v_lcmp (pc := 128) (by unfold lB; omega) (by unfold lB; omega) dX12_meets_128 ?_
            refine v_if_ne (pc := 129) 136 dX12_meets_129 (by decide) (acmp_iB _ _) (fun c_49 => ?_) (fun c_49 => ?_)
            · skip
              have c_49 : ¬ _ = _ := fun z => c_49 (acmp_eq.mpr z)
              refine v_iconst (pc := 136) dX12_meets_136 ?_
              refine v_iadd (pc := 137) dX12_meets_137 ?_
              refine v_iast (pc := 138) 0 rfl (by omega) (by omega) (by decide) (ws2 := [((ad 19), cn 0 6 (aup (aup pt p ((pt p) + 1)) q (((aup pt p ((pt p) + 1)) q) + 0))), (h, co 12 (mO ad v2_40)), ((ad 9), cn 0 6 by2_41), ((ad 10), cn 1 64 tr2_42)]) rfl dX12_meets_138 ?_
              exact hret ((aup (aup pt p ((pt p) + 1)) q (((aup pt p ((pt p) + 1)) q) + 0)), v2_40, by2_41, tr2_42) _ _ _ _ _ (by (refine ⟨?_, hkeep⟩; unfold mt mtP mtW mtL; rw [aup_n _ _ (fun z => hpq z.symm)]; (repeat' split) <;> first | rfl | (exfalso; omega))) rfl rfl (Nat.le_of_ble_eq_true rfl) (Nat.le_of_ble_eq_true rfl) dX12_meets_139
            · skip
              have c_49 := acmp_eq.mp c_49
              refine v_iconst (pc := 132) dX12_meets_132 ?_
              refine v_goto (pc := 133) 137 dX12_meets_133 (by decide) ?_
              refine v_iadd (pc := 137) dX12_meets_137 ?_
              refine v_iast (pc := 138) 0 rfl (by omega) (by omega) (by decide) (ws2 := [((ad 19), cn 0 6 (aup (aup pt p ((pt p) + 1)) q (((aup pt p ((pt p) + 1)) q) + 1))), (h, co 12 (mO ad v2_40)), ((ad 9), cn 0 6 by2_41), ((ad 10), cn 1 64 tr2_42)]) rfl dX12_meets_138 ?_
              exact hret ((aup (aup pt p ((pt p) + 1)) q (((aup pt p ((pt p) + 1)) q) + 1)), v2_40, by2_41, tr2_42) _ _ _ _ _ (by (refine ⟨?_, hkeep⟩; unfold mt mtP mtW mtL; rw [aup_n _ _ (fun z => hpq z.symm)]; (repeat' split) <;> first | rfl | (exfalso; omega))) rfl rfl (Nat.le_of_ble_eq_true rfl) (Nat.le_of_ble_eq_true rfl) dX12_meets_139
          · skip
            have c_48 := acmp_lt.mp c_48
            refine v_iconst (pc := 118) dX12_meets_118 ?_
            refine v_goto (pc := 119) 137 dX12_meets_119 (by decide) ?_
            refine v_iadd (pc := 137) dX12_meets_137 ?_
            refine v_iast (pc := 138) 0 rfl (by omega) (by omega) (by decide) (ws2 := [((ad 19), cn 0 6 (aup (aup pt p ((pt p) + 1)) q (((aup pt p ((pt p) + 1)) q) + 2))), (h, co 12 (mO ad v2_40)), ((ad 9), cn 0 6 by2_41), ((ad 10), cn 1 64 tr2_42)]) rfl dX12_meets_138 ?_
            exact hret ((aup (aup pt p ((pt p) + 1)) q (((aup pt p ((pt p) + 1)) q) + 2)), v2_40, by2_41, tr2_42) _ _ _ _ _ (by (refine ⟨?_, hkeep⟩; unfold mt mtP mtW mtL; rw [aup_n _ _ (fun z => hpq z.symm)]; (repeat' split) <;> first | rfl | (exfalso; omega))) rfl rfl (Nat.le_of_ble_eq_true rfl) (Nat.le_of_ble_eq_true rfl) dX12_meets_139
      · skip
        have c_44 := acmp_gt.mp c_44
        refine v_iconst (pc := 80) dX12_meets_80 ?_
        refine v_goto (pc := 81) 99 dX12_meets_81 (by decide) ?_
        refine v_iadd (pc := 99) dX12_meets_99 ?_
        refine v_iast (pc := 100) 0 rfl (by omega) (by omega) (by decide) (ws2 := [((ad 19), cn 0 6 (aup pt p ((pt p) + 2))), (h, co 12 (mO ad v2_40)), ((ad 9), cn 0 6 by2_41), ((ad 10), cn 1 64 tr2_42)]) rfl dX12_meets_100 ?_
        refine v_aload_n (pc := 101) 2 rfl dX12_meets_101 ?_
        refine v_get (pc := 102) (v := ar (ad 19)) 19 (Or.inr ⟨1, rfl⟩) fl_12_31_12 rfl dX12_meets_102 ?_
        refine v_iload_n (pc := 105) 4 rfl dX12_meets_105 ?_
        refine v_dup2 (pc := 106) rfl rfl dX12_meets_106 ?_
        refine v_iald (pc := 107) (Or.inr ⟨0, rfl⟩) (by omega) (by omega) (by decide) dX12_meets_107 ?_
        refine v_aload_n (pc := 108) 2 rfl dX12_meets_108 ?_
        refine v_get (pc := 109) (v := al (v2_40 16)) 16 (Or.inr ⟨1, rfl⟩) fl_12_218_12 rfl dX12_meets_109 ?_
        refine v_lload (pc := 112) 0 rfl dX12_meets_112 ?_
        refine v_lcmp (pc := 114) (by unfold lB; omega) (by unfold lB; omega) dX12_meets_114 ?_
        refine v_if_ge (pc := 115) 122 dX12_meets_115 (by decide) (acmp_iB _ _) (fun c_50 => ?_) (fun c_50 => ?_)
        · skip
          have c_50 := acmp_ge.mp c_50
          refine v_aload_n (pc := 122) 2 rfl dX12_meets_122 ?_
          refine v_get (pc := 123) (v := al (v2_40 16)) 16 (Or.inr ⟨1, rfl⟩) fl_12_218_12 rfl dX12_meets_123 ?_
          refine v_lload (pc := 126) 0 rfl dX12_meets_126 ?_
          refine v_lcmp (pc := 128) (by unfold lB; omega) (by unfold lB; omega) dX12_meets_128 ?_
          refine v_if_ne (pc := 129) 136 dX12_meets_129 (by decide) (acmp_iB _ _) (fun c_51 => ?_) (fun c_51 => ?_)
          · skip
            have c_51 : ¬ _ = _ := fun z => c_51 (acmp_eq.mpr z)
            refine v_iconst (pc := 136) dX12_meets_136 ?_
            refine v_iadd (pc := 137) dX12_meets_137 ?_
            refine v_iast (pc := 138) 0 rfl (by omega) (by omega) (by decide) (ws2 := [((ad 19), cn 0 6 (aup (aup pt p ((pt p) + 2)) q (((aup pt p ((pt p) + 2)) q) + 0))), (h, co 12 (mO ad v2_40)), ((ad 9), cn 0 6 by2_41), ((ad 10), cn 1 64 tr2_42)]) rfl dX12_meets_138 ?_
            exact hret ((aup (aup pt p ((pt p) + 2)) q (((aup pt p ((pt p) + 2)) q) + 0)), v2_40, by2_41, tr2_42) _ _ _ _ _ (by (refine ⟨?_, hkeep⟩; unfold mt mtP mtW mtL; rw [aup_n _ _ (fun z => hpq z.symm)]; (repeat' split) <;> first | rfl | (exfalso; omega))) rfl rfl (Nat.le_of_ble_eq_true rfl) (Nat.le_of_ble_eq_true rfl) dX12_meets_139
          · skip
            have c_51 := acmp_eq.mp c_51
            refine v_iconst (pc := 132) dX12_meets_132 ?_
            refine v_goto (pc := 133) 137 dX12_meets_133 (by decide) ?_
            refine v_iadd (pc := 137) dX12_meets_137 ?_
            refine v_iast (pc := 138) 0 rfl (by omega) (by omega) (by decide) (ws2 := [((ad 19), cn 0 6 (aup (aup pt p ((pt p) + 2)) q (((aup pt p ((pt p) + 2)) q) + 1))), (h, co 12 (mO ad v2_40)), ((ad 9), cn 0 6 by2_41), ((ad 10), cn 1 64 tr2_42)]) rfl dX12_meets_138 ?_
            exact hret ((aup (aup pt p ((pt p) + 2)) q (((aup pt p ((pt p) + 2)) q) + 1)), v2_40, by2_41, tr2_42) _ _ _ _ _ (by (refine ⟨?_, hkeep⟩; unfold mt mtP mtW mtL; rw [aup_n _ _ (fun z => hpq z.symm)]; (repeat' split) <;> first | rfl | (exfalso; omega))) rfl rfl (Nat.le_of_ble_eq_true rfl) (Nat.le_of_ble_eq_true rfl) dX12_meets_139
        · skip
          have c_50 := acmp_lt.mp c_50
          refine v_iconst (pc := 118) dX12_meets_118 ?_
          refine v_goto (pc := 119) 137 dX12_meets_119 (by decide) ?_
          refine v_iadd (pc := 137) dX12_meets_137 ?_
          refine v_iast (pc := 138) 0 rfl (by omega) (by omega) (by decide) (ws2 := [((ad 19), cn 0 6 (aup (aup pt p ((pt p) + 2)) q (((aup pt p ((pt p) + 2)) q) + 2))), (h, co 12 (mO ad v2_40)), ((ad 9), cn 0 6 by2_41), ((ad 10), cn 1 64 tr2_42)]) rfl dX12_meets_138 ?_
          exact hret ((aup (aup pt p ((pt p) + 2)) q (((aup pt p ((pt p) + 2)) q) + 2)), v2_40, by2_41, tr2_42) _ _ _ _ _ (by (refine ⟨?_, hkeep⟩; unfold mt mtP mtW mtL; rw [aup_n _ _ (fun z => hpq z.symm)]; (repeat' split) <;> first | rfl | (exfalso; omega))) rfl rfl (Nat.le_of_ble_eq_true rfl) (Nat.le_of_ble_eq_true rfl) dX12_meets_139
set_option maxHeartbeats 4000000 in
set_option maxRecDepth 100000 in
theorem c_X12_title {gS : sG} (ad : Nat → Nat) (v : Nat → Int) (h : Nat) (f : Int → Int) (by0 : Int → Int) (tr0 : Int → Int) (ms : Int → Int) (pt : Int → Int) (player : Int) (hS : SOK f) (hb_player : -2147483648 ≤ player ∧ player < 2147483648) : Ct gS (S := (Int → Int) × (Int → Int) × (Nat → Int) × (Int → Int) × (Int → Int)) yX12_title cX12_title 4 (some .int) 6 153 0 0 [ar h, ai player] [((ad 18), cn 0 6 ms), ((ad 19), cn 0 6 pt), (h, co 12 (mO ad v)), ((ad 9), cn 0 6 by0), ((ad 10), cn 1 64 tr0)] (fun q => q ∈ ([((ad 1), cn 0 936 f)] : aW)) (fun u => u.2.2.1 3 = v 3 ∧ u.2.2.1 21 = v 21) (fun u => some (ai (qTitle f player))) (fun u => [((ad 18), cn 0 6 u.1), ((ad 19), cn 0 6 u.2.1), (h, co 12 (mO ad u.2.2.1)), ((ad 9), cn 0 6 u.2.2.2.1), ((ad 10), cn 1 64 u.2.2.2.2)]) := by
  refine ct_I RX12 [(0, ar h), (1, ai player)] (by decide) rfl (Nat.le_of_ble_eq_true rfl) rfl (fun x hgS hro hret => ?_)
  subst hgS
  have r0 := hro _ (mem_at 0 rfl)
  obtain ⟨hg, hSp, hSh, hSs, hSb, hSt, hwf⟩ := id hS
  obtain ⟨hg0, hg1, hg2, hg3, hg4, hg5, hg6, hg7⟩ := id hg
  have hPb := ttO_b (f := f) (M := fMost f) (np := f 0) hg0
  show V x cX12_title RX12 4 (rmU 6 153 0 0) [((ad 18), cn 0 6 ms), ((ad 19), cn 0 6 pt), (h, co 12 (mO ad v)), ((ad 9), cn 0 6 by0), ((ad 10), cn 1 64 tr0)] 0 [(0, ar h), (1, ai player)] [] 0 0
  refine v_iload_n (pc := 0) 1 rfl dX12_title_0 ?_
  refine v_iconst (pc := 1) dX12_title_1 ?_
  refine v_icmp_eq (pc := 2) 15 dX12_title_2 (by decide) (by unfold iB; omega) (by unfold iB; omega) (fun c_1 => ?_) (fun c_1 => ?_)
  · skip
    refine v_aload_n (pc := 15) 0 rfl dX12_title_15 ?_
    refine v_callV (pc := 16) [0, 2, 3, 4] [1] [((ad 19), cn 0 6 pt)] (As := []) (rest := []) (c_X12_looksForMosts ad v h f by0 tr0 ms (by assumption)) (c := 12) rfl (Or.inr ⟨2, rfl⟩) wl_X12_229 wi_X12_looksForMosts wv_X12_X12_looksForMosts_X12_looksForMosts wk_X12_looksForMosts wz_X12 md_X12_looksForMosts rfl (Nat.le_of_ble_eq_true rfl) ⟨Nat.le_of_ble_eq_true rfl, Nat.le_of_ble_eq_true rfl, Nat.le_of_ble_eq_true rfl, Nat.le_of_ble_eq_true rfl⟩ rfl rfl rfl rfl (by decide) (ro_cons (Or.inl r0) ro_nil) dX12_title_16 (fun u hu => ?_)
    obtain ⟨ms2_2, v2_3, by2_4, tr2_5⟩ := u
    have g_6 : (∀ j : Int, 0 ≤ j → j < f 0 → ms2_2 j = fMost f j) ∧ vK v v2_3 := hu
    show V x cX12_title RX12 4 (rmU 6 153 0 0) [((ad 19), cn 0 6 pt), ((ad 18), cn 0 6 ms2_2), (h, co 12 (mO ad v2_3)), ((ad 9), cn 0 6 by2_4), ((ad 10), cn 1 64 tr2_5)] 19 [(0, ar h), (1, ai player)] [] 0 0
    have hk0 := g_6.2
    have hms := g_6.1
    refine v_iconst (pc := 19) dX12_title_19 ?_
    refine v_istore_n (pc := 20) (L2 := [(2, ai 0), (0, ar h), (1, ai player)]) rfl (by decide) dX12_title_20 ?_
    have lp21 : ∀ (mm : Nat) (k : Int) (pt1 : Int → Int), (6 - k).toNat = mm → (0 ≤ k ∧ k ≤ 6) → (∀ j : Int, 0 ≤ j → j < k → pt1 j = 0) → V x cX12_title RX12 4 (rmU 6 153 0 0) [((ad 19), cn 0 6 pt1), ((ad 18), cn 0 6 ms2_2), (h, co 12 (mO ad v2_3)), ((ad 9), cn 0 6 by2_4), ((ad 10), cn 1 64 tr2_5)] 21 [(0, ar h), (1, ai player), (2, ai k)] [] 0 0 := by
      intro mm
      induction mm using Nat.strongRecOn with
      | _ mm ih =>
        intro k pt1 hmm hk hpt1
        refine v_iload_n (pc := 21) 2 rfl dX12_title_21 ?_
        refine v_bipush (pc := 22) dX12_title_22 (by decide) ?_
        refine v_icmp_ge (pc := 24) 40 dX12_title_24 (by decide) (by unfold iB; omega) (by unfold iB; omega) (fun c_7 => ?_) (fun c_7 => ?_)
        · skip
          refine v_ext (q := 0) (a := ad 19) (N := 6) (t := 0) (f := pt1) (g := fun _ => 0) (ws2 := [((ad 19), cn 0 6 (fun _ => 0)), ((ad 18), cn 0 6 ms2_2), (h, co 12 (mO ad v2_3)), ((ad 9), cn 0 6 by2_4), ((ad 10), cn 1 64 tr2_5)]) rfl (fun j j0 j1 => hpt1 j j0 (by omega)) rfl ?_
          refine v_iconst (pc := 40) dX12_title_40 ?_
          refine v_istore_n (pc := 41) (L2 := [(2, ai 0), (0, ar h), (1, ai player)]) rfl (by decide) dX12_title_41 ?_
          have lp42 : ∀ (mm : Nat) (p : Int) (pt3 : Int → Int) (v1 : Nat → Int) (by1 : Int → Int) (tr1 : Int → Int), (f 0 - p).toNat = mm → (0 ≤ p ∧ p ≤ f 0) → (pt3 = ttO f (fMost f) (f 0) (fun _ => 0) p.toNat) → (v1 3 = v 3 ∧ v1 21 = v 21) → V x cX12_title RX12 4 (rmU 6 153 0 0) [((ad 19), cn 0 6 pt3), ((ad 18), cn 0 6 ms2_2), (h, co 12 (mO ad v1)), ((ad 9), cn 0 6 by1), ((ad 10), cn 1 64 tr1)] 42 [(0, ar h), (1, ai player), (2, ai p)] [] 0 0 := by
            intro mm
            induction mm using Nat.strongRecOn with
            | _ mm ih42 =>
              intro p pt3 v1 by1 tr1 hmm hp hpt hk
              refine v_iload_n (pc := 42) 2 rfl dX12_title_42 ?_
              refine v_aload_n (pc := 43) 0 rfl dX12_title_43 ?_
              refine v_get (pc := 44) (v := ar (ad 1)) 1 (Or.inr ⟨2, rfl⟩) fl_12_9_12 rfl dX12_title_44 ?_
              refine v_iconst (pc := 47) dX12_title_47 ?_
              refine v_iald (pc := 48) (Or.inl r0) (by omega) (by omega) (by decide) dX12_title_48 ?_
              refine v_icmp_ge (pc := 49) 84 dX12_title_49 (by decide) (by unfold iB; omega) (by unfold iB; omega) (fun c_8 => ?_) (fun c_8 => ?_)
              · skip
                refine v_ws (ws2 := [((ad 19), cn 0 6 (qPts f)), ((ad 18), cn 0 6 ms2_2), (h, co 12 (mO ad v1)), ((ad 9), cn 0 6 by1), ((ad 10), cn 1 64 tr1)]) (by rw [hpt, show p = f 0 by omega]; rfl) ?_
                refine v_aload_n (pc := 84) 0 rfl dX12_title_84 ?_
                refine v_get (pc := 85) (v := ar (ad 1)) 1 (Or.inr ⟨2, rfl⟩) fl_12_9_12 rfl dX12_title_85 ?_
                refine v_iconst (pc := 88) dX12_title_88 ?_
                refine v_iald (pc := 89) (Or.inl r0) (by omega) (by omega) (by decide) dX12_title_89 ?_
                refine v_if_ne (pc := 90) 98 dX12_title_90 (by decide) (by unfold iB; omega) (fun c_9 => ?_) (fun c_9 => ?_)
                · skip
                  refine v_iconst (pc := 98) dX12_title_98 ?_
                  refine v_istore_n (pc := 99) (L2 := [(2, ai 0), (0, ar h), (1, ai player)]) rfl (by decide) dX12_title_99 ?_
                  refine v_iconst (pc := 100) dX12_title_100 ?_
                  refine v_istore_n (pc := 101) (L2 := [(3, ai 1), (2, ai 0), (0, ar h), (1, ai player)]) rfl (by decide) dX12_title_101 ?_
                  have lp102 : ∀ (mm : Nat) (bt : Int) (p : Int), (f 0 - p).toNat = mm → (1 ≤ p ∧ (p ≤ f 0 ∨ f 0 = 0 ∧ p = 1)) → (bt = if f 0 = 0 then -5 else tbs (qPts f) (p - 1).toNat) → V x cX12_title RX12 4 (rmU 6 153 0 0) [((ad 19), cn 0 6 (qPts f)), ((ad 18), cn 0 6 ms2_2), (h, co 12 (mO ad v1)), ((ad 9), cn 0 6 by1), ((ad 10), cn 1 64 tr1)] 102 [(0, ar h), (1, ai player), (2, ai bt), (3, ai p)] [] 0 0 := by
                    intro mm
                    induction mm using Nat.strongRecOn with
                    | _ mm ih102 =>
                      intro bt p hmm hp hbt
                      refine v_iload_n (pc := 102) 3 rfl dX12_title_102 ?_
                      refine v_aload_n (pc := 103) 0 rfl dX12_title_103 ?_
                      refine v_get (pc := 104) (v := ar (ad 1)) 1 (Or.inr ⟨2, rfl⟩) fl_12_9_12 rfl dX12_title_104 ?_
                      refine v_iconst (pc := 107) dX12_title_107 ?_
                      refine v_iald (pc := 108) (Or.inl r0) (by omega) (by omega) (by decide) dX12_title_108 ?_
                      refine v_icmp_ge (pc := 109) 139 dX12_title_109 (by decide) (by unfold iB; omega) (by unfold iB; omega) (fun c_10 => ?_) (fun c_10 => ?_)
                      · skip
                        refine v_iload_n (pc := 139) 1 rfl dX12_title_139 ?_
                        refine v_iconst (pc := 140) dX12_title_140 ?_
                        refine v_icmp_ne (pc := 141) 148 dX12_title_141 (by decide) (by unfold iB; omega) (by unfold iB; omega) (fun c_11 => ?_) (fun c_11 => ?_)
                        · skip
                          have hq3 : 0 ≤ qPts f player ∧ qPts f player ≤ 12 * ((f 0).toNat : Int) := hPb _ _
                          refine v_aload_n (pc := 148) 0 rfl dX12_title_148 ?_
                          refine v_get (pc := 149) (v := ar (ad 19)) 19 (Or.inr ⟨2, rfl⟩) fl_12_31_12 rfl dX12_title_149 ?_
                          refine v_iload_n (pc := 152) 1 rfl dX12_title_152 ?_
                          refine v_iald (pc := 153) (Or.inr ⟨0, rfl⟩) (by omega) (by omega) (by decide) dX12_title_153 ?_
                          refine v_wsub (ws2 := [((ad 18), cn 0 6 ms2_2), ((ad 19), cn 0 6 (qPts f)), (h, co 12 (mO ad v1)), ((ad 9), cn 0 6 by1), ((ad 10), cn 1 64 tr1)]) [1, 0, 2, 3, 4] rfl rfl ?_
                          exact hret (ms2_2, (qPts f), v1, by1, tr1) _ _ _ _ _ _ (by exact hk) (congrArg (fun z => some (ai z)) (by unfold qTitle; first | (rw [if_neg (by omega), if_pos (by omega), hbt]; split <;> first | rfl | (rw [show p = f 0 by omega]; done) | (exfalso; omega)) | (rw [if_neg (by omega), if_neg (by omega)]; done))) rfl (Nat.le_of_ble_eq_true rfl) (Nat.le_of_ble_eq_true rfl) dX12_title_154
                        · skip
                          refine v_iload_n (pc := 144) 2 rfl dX12_title_144 ?_
                          refine v_goto (pc := 145) 154 dX12_title_145 (by decide) ?_
                          refine v_wsub (ws2 := [((ad 18), cn 0 6 ms2_2), ((ad 19), cn 0 6 (qPts f)), (h, co 12 (mO ad v1)), ((ad 9), cn 0 6 by1), ((ad 10), cn 1 64 tr1)]) [1, 0, 2, 3, 4] rfl rfl ?_
                          exact hret (ms2_2, (qPts f), v1, by1, tr1) _ _ _ _ _ _ (by exact hk) (congrArg (fun z => some (ai z)) (by unfold qTitle; first | (rw [if_neg (by omega), if_pos (by omega), hbt]; split <;> first | rfl | (rw [show p = f 0 by omega]; done) | (exfalso; omega)) | (rw [if_neg (by omega), if_neg (by omega)]; done))) rfl (Nat.le_of_ble_eq_true rfl) (Nat.le_of_ble_eq_true rfl) dX12_title_154
                      · skip
                        have hbt2 : bt = tbs (qPts f) (p - 1).toNat := by rw [hbt, if_neg (by omega)]
                        have htb := tbs_b (P := qPts f) (p - 1).toNat
                        have hq1 : 0 ≤ qPts f p ∧ qPts f p ≤ 12 * ((f 0).toNat : Int) := hPb _ _
                        have hq2 : 0 ≤ qPts f bt ∧ qPts f bt ≤ 12 * ((f 0).toNat : Int) := hPb _ _
                        refine v_aload_n (pc := 112) 0 rfl dX12_title_112 ?_
                        refine v_get (pc := 113) (v := ar (ad 19)) 19 (Or.inr ⟨2, rfl⟩) fl_12_31_12 rfl dX12_title_113 ?_
                        refine v_iload_n (pc := 116) 3 rfl dX12_title_116 ?_
                        refine v_iald (pc := 117) (Or.inr ⟨0, rfl⟩) (by omega) (by omega) (by decide) dX12_title_117 ?_
                        refine v_aload_n (pc := 118) 0 rfl dX12_title_118 ?_
                        refine v_get (pc := 119) (v := ar (ad 19)) 19 (Or.inr ⟨2, rfl⟩) fl_12_31_12 rfl dX12_title_119 ?_
                        refine v_iload_n (pc := 122) 2 rfl dX12_title_122 ?_
                        refine v_iald (pc := 123) (Or.inr ⟨0, rfl⟩) (by omega) (by omega) (by decide) dX12_title_123 ?_
                        refine v_icmp_le (pc := 124) 131 dX12_title_124 (by decide) (by unfold iB; omega) (by unfold iB; omega) (fun c_12 => ?_) (fun c_12 => ?_)
                        · skip
                          refine v_iload_n (pc := 131) 2 rfl dX12_title_131 ?_
                          refine v_istore_n (pc := 132) (L2 := [(2, ai bt), (0, ar h), (1, ai player), (3, ai p)]) rfl (by decide) dX12_title_132 ?_
                          refine v_iinc (pc := 133) 3 (L2 := [(3, ai (p + 1)), (2, ai bt), (0, ar h), (1, ai player)]) rfl rfl (by decide) dX12_title_133 ?_
                          refine v_goto (pc := 136) 102 dX12_title_136 (by decide) ?_
                          refine v_sub (L2 := [(0, ar h), (1, ai player), (2, ai bt), (3, ai (p + 1))]) [2, 3, 1, 0] rfl ?_
                          exact ih102 _ (by omega) bt (p + 1) rfl (by omega) (by rw [if_neg (by omega), show (p + 1 - 1).toNat = (p - 1).toNat + 1 by omega, tbs_succ, show (((p - 1).toNat : Nat) : Int) + 1 = p by omega, ← hbt2]; first | (rw [if_pos (by omega)]; done) | (rw [if_neg (by omega)]; done))
                        · skip
                          refine v_iload_n (pc := 127) 3 rfl dX12_title_127 ?_
                          refine v_goto (pc := 128) 132 dX12_title_128 (by decide) ?_
                          refine v_istore_n (pc := 132) (L2 := [(2, ai p), (0, ar h), (1, ai player), (3, ai p)]) rfl (by decide) dX12_title_132 ?_
                          refine v_iinc (pc := 133) 3 (L2 := [(3, ai (p + 1)), (2, ai p), (0, ar h), (1, ai player)]) rfl rfl (by decide) dX12_title_133 ?_
                          refine v_goto (pc := 136) 102 dX12_title_136 (by decide) ?_
                          refine v_sub (L2 := [(0, ar h), (1, ai player), (2, ai p), (3, ai (p + 1))]) [2, 3, 1, 0] rfl ?_
                          exact ih102 _ (by omega) p (p + 1) rfl (by omega) (by rw [if_neg (by omega), show (p + 1 - 1).toNat = (p - 1).toNat + 1 by omega, tbs_succ, show (((p - 1).toNat : Nat) : Int) + 1 = p by omega, ← hbt2]; first | (rw [if_pos (by omega)]; done) | (rw [if_neg (by omega)]; done))
                  refine v_sub (L2 := [(0, ar h), (1, ai player), (2, ai 0), (3, ai 1)]) [2, 3, 1, 0] rfl ?_
                  exact lp102 _ 0 1 rfl (by omega) (by first | (rw [if_pos (by omega)]; done) | (rw [if_neg (by omega)]; rfl))
                · skip
                  refine v_bipush (pc := 93) dX12_title_93 (by decide) ?_
                  refine v_goto (pc := 95) 99 dX12_title_95 (by decide) ?_
                  refine v_istore_n (pc := 99) (L2 := [(2, ai (-5)), (0, ar h), (1, ai player)]) rfl (by decide) dX12_title_99 ?_
                  refine v_iconst (pc := 100) dX12_title_100 ?_
                  refine v_istore_n (pc := 101) (L2 := [(3, ai 1), (2, ai (-5)), (0, ar h), (1, ai player)]) rfl (by decide) dX12_title_101 ?_
                  have lp102 : ∀ (mm : Nat) (bt : Int) (p : Int), (f 0 - p).toNat = mm → (1 ≤ p ∧ (p ≤ f 0 ∨ f 0 = 0 ∧ p = 1)) → (bt = if f 0 = 0 then -5 else tbs (qPts f) (p - 1).toNat) → V x cX12_title RX12 4 (rmU 6 153 0 0) [((ad 19), cn 0 6 (qPts f)), ((ad 18), cn 0 6 ms2_2), (h, co 12 (mO ad v1)), ((ad 9), cn 0 6 by1), ((ad 10), cn 1 64 tr1)] 102 [(0, ar h), (1, ai player), (2, ai bt), (3, ai p)] [] 0 0 := by
                    intro mm
                    induction mm using Nat.strongRecOn with
                    | _ mm ih102 =>
                      intro bt p hmm hp hbt
                      refine v_iload_n (pc := 102) 3 rfl dX12_title_102 ?_
                      refine v_aload_n (pc := 103) 0 rfl dX12_title_103 ?_
                      refine v_get (pc := 104) (v := ar (ad 1)) 1 (Or.inr ⟨2, rfl⟩) fl_12_9_12 rfl dX12_title_104 ?_
                      refine v_iconst (pc := 107) dX12_title_107 ?_
                      refine v_iald (pc := 108) (Or.inl r0) (by omega) (by omega) (by decide) dX12_title_108 ?_
                      refine v_icmp_ge (pc := 109) 139 dX12_title_109 (by decide) (by unfold iB; omega) (by unfold iB; omega) (fun c_13 => ?_) (fun c_13 => ?_)
                      · skip
                        refine v_iload_n (pc := 139) 1 rfl dX12_title_139 ?_
                        refine v_iconst (pc := 140) dX12_title_140 ?_
                        refine v_icmp_ne (pc := 141) 148 dX12_title_141 (by decide) (by unfold iB; omega) (by unfold iB; omega) (fun c_14 => ?_) (fun c_14 => ?_)
                        · skip
                          have hq3 : 0 ≤ qPts f player ∧ qPts f player ≤ 12 * ((f 0).toNat : Int) := hPb _ _
                          refine v_aload_n (pc := 148) 0 rfl dX12_title_148 ?_
                          refine v_get (pc := 149) (v := ar (ad 19)) 19 (Or.inr ⟨2, rfl⟩) fl_12_31_12 rfl dX12_title_149 ?_
                          refine v_iload_n (pc := 152) 1 rfl dX12_title_152 ?_
                          refine v_iald (pc := 153) (Or.inr ⟨0, rfl⟩) (by omega) (by omega) (by decide) dX12_title_153 ?_
                          refine v_wsub (ws2 := [((ad 18), cn 0 6 ms2_2), ((ad 19), cn 0 6 (qPts f)), (h, co 12 (mO ad v1)), ((ad 9), cn 0 6 by1), ((ad 10), cn 1 64 tr1)]) [1, 0, 2, 3, 4] rfl rfl ?_
                          exact hret (ms2_2, (qPts f), v1, by1, tr1) _ _ _ _ _ _ (by exact hk) (congrArg (fun z => some (ai z)) (by unfold qTitle; first | (rw [if_neg (by omega), if_pos (by omega), hbt]; split <;> first | rfl | (rw [show p = f 0 by omega]; done) | (exfalso; omega)) | (rw [if_neg (by omega), if_neg (by omega)]; done))) rfl (Nat.le_of_ble_eq_true rfl) (Nat.le_of_ble_eq_true rfl) dX12_title_154
                        · skip
                          refine v_iload_n (pc := 144) 2 rfl dX12_title_144 ?_
                          refine v_goto (pc := 145) 154 dX12_title_145 (by decide) ?_
                          refine v_wsub (ws2 := [((ad 18), cn 0 6 ms2_2), ((ad 19), cn 0 6 (qPts f)), (h, co 12 (mO ad v1)), ((ad 9), cn 0 6 by1), ((ad 10), cn 1 64 tr1)]) [1, 0, 2, 3, 4] rfl rfl ?_
                          exact hret (ms2_2, (qPts f), v1, by1, tr1) _ _ _ _ _ _ (by exact hk) (congrArg (fun z => some (ai z)) (by unfold qTitle; first | (rw [if_neg (by omega), if_pos (by omega), hbt]; split <;> first | rfl | (rw [show p = f 0 by omega]; done) | (exfalso; omega)) | (rw [if_neg (by omega), if_neg (by omega)]; done))) rfl (Nat.le_of_ble_eq_true rfl) (Nat.le_of_ble_eq_true rfl) dX12_title_154
                      · skip
                        have hbt2 : bt = tbs (qPts f) (p - 1).toNat := by rw [hbt, if_neg (by omega)]
                        have htb := tbs_b (P := qPts f) (p - 1).toNat
                        have hq1 : 0 ≤ qPts f p ∧ qPts f p ≤ 12 * ((f 0).toNat : Int) := hPb _ _
                        have hq2 : 0 ≤ qPts f bt ∧ qPts f bt ≤ 12 * ((f 0).toNat : Int) := hPb _ _
                        refine v_aload_n (pc := 112) 0 rfl dX12_title_112 ?_
                        refine v_get (pc := 113) (v := ar (ad 19)) 19 (Or.inr ⟨2, rfl⟩) fl_12_31_12 rfl dX12_title_113 ?_
                        refine v_iload_n (pc := 116) 3 rfl dX12_title_116 ?_
                        refine v_iald (pc := 117) (Or.inr ⟨0, rfl⟩) (by omega) (by omega) (by decide) dX12_title_117 ?_
                        refine v_aload_n (pc := 118) 0 rfl dX12_title_118 ?_
                        refine v_get (pc := 119) (v := ar (ad 19)) 19 (Or.inr ⟨2, rfl⟩) fl_12_31_12 rfl dX12_title_119 ?_
                        refine v_iload_n (pc := 122) 2 rfl dX12_title_122 ?_
                        refine v_iald (pc := 123) (Or.inr ⟨0, rfl⟩) (by omega) (by omega) (by decide) dX12_title_123 ?_
                        refine v_icmp_le (pc := 124) 131 dX12_title_124 (by decide) (by unfold iB; omega) (by unfold iB; omega) (fun c_15 => ?_) (fun c_15 => ?_)
                        · skip
                          refine v_iload_n (pc := 131) 2 rfl dX12_title_131 ?_
                          refine v_istore_n (pc := 132) (L2 := [(2, ai bt), (0, ar h), (1, ai player), (3, ai p)]) rfl (by decide) dX12_title_132 ?_
                          refine v_iinc (pc := 133) 3 (L2 := [(3, ai (p + 1)), (2, ai bt), (0, ar h), (1, ai player)]) rfl rfl (by decide) dX12_title_133 ?_
                          refine v_goto (pc := 136) 102 dX12_title_136 (by decide) ?_
                          refine v_sub (L2 := [(0, ar h), (1, ai player), (2, ai bt), (3, ai (p + 1))]) [2, 3, 1, 0] rfl ?_
                          exact ih102 _ (by omega) bt (p + 1) rfl (by omega) (by rw [if_neg (by omega), show (p + 1 - 1).toNat = (p - 1).toNat + 1 by omega, tbs_succ, show (((p - 1).toNat : Nat) : Int) + 1 = p by omega, ← hbt2]; first | (rw [if_pos (by omega)]; done) | (rw [if_neg (by omega)]; done))
                        · skip
                          refine v_iload_n (pc := 127) 3 rfl dX12_title_127 ?_
                          refine v_goto (pc := 128) 132 dX12_title_128 (by decide) ?_
                          refine v_istore_n (pc := 132) (L2 := [(2, ai p), (0, ar h), (1, ai player), (3, ai p)]) rfl (by decide) dX12_title_132 ?_
                          refine v_iinc (pc := 133) 3 (L2 := [(3, ai (p + 1)), (2, ai p), (0, ar h), (1, ai player)]) rfl rfl (by decide) dX12_title_133 ?_
                          refine v_goto (pc := 136) 102 dX12_title_136 (by decide) ?_
                          refine v_sub (L2 := [(0, ar h), (1, ai player), (2, ai p), (3, ai (p + 1))]) [2, 3, 1, 0] rfl ?_
                          exact ih102 _ (by omega) p (p + 1) rfl (by omega) (by rw [if_neg (by omega), show (p + 1 - 1).toNat = (p - 1).toNat + 1 by omega, tbs_succ, show (((p - 1).toNat : Nat) : Int) + 1 = p by omega, ← hbt2]; first | (rw [if_pos (by omega)]; done) | (rw [if_neg (by omega)]; done))
                  refine v_sub (L2 := [(0, ar h), (1, ai player), (2, ai (-5)), (3, ai 1)]) [2, 3, 1, 0] rfl ?_
                  exact lp102 _ (-5) 1 rfl (by omega) (by first | (rw [if_pos (by omega)]; done) | (rw [if_neg (by omega)]; rfl))
              · skip
                refine v_iload_n (pc := 52) 2 rfl dX12_title_52 ?_
                refine v_iconst (pc := 53) dX12_title_53 ?_
                refine v_iadd (pc := 54) dX12_title_54 ?_
                refine v_istore_n (pc := 55) (L2 := [(3, ai (p + 1)), (0, ar h), (1, ai player), (2, ai p)]) rfl (by decide) dX12_title_55 ?_
                have lp56 : ∀ (mm : Nat) (q : Int) (pt4 : Int → Int) (v4 : Nat → Int) (by4 : Int → Int) (tr4 : Int → Int), (f 0 - q).toNat = mm → (p + 1 ≤ q ∧ q ≤ f 0) → (pt4 = ttI f (fMost f) p (ttO f (fMost f) (f 0) (fun _ => 0) p.toNat) (q - p - 1).toNat) → (v4 3 = v 3 ∧ v4 21 = v 21) → V x cX12_title RX12 4 (rmU 6 153 0 0) [((ad 19), cn 0 6 pt4), ((ad 18), cn 0 6 ms2_2), (h, co 12 (mO ad v4)), ((ad 9), cn 0 6 by4), ((ad 10), cn 1 64 tr4)] 56 [(0, ar h), (1, ai player), (2, ai p), (3, ai q)] [] 0 0 := by
                  intro mm
                  induction mm using Nat.strongRecOn with
                  | _ mm ih56 =>
                    intro q pt4 v4 by4 tr4 hmm hq hpt4 hk4
                    refine v_iload_n (pc := 56) 3 rfl dX12_title_56 ?_
                    refine v_aload_n (pc := 57) 0 rfl dX12_title_57 ?_
                    refine v_get (pc := 58) (v := ar (ad 1)) 1 (Or.inr ⟨2, rfl⟩) fl_12_9_12 rfl dX12_title_58 ?_
                    refine v_iconst (pc := 61) dX12_title_61 ?_
                    refine v_iald (pc := 62) (Or.inl r0) (by omega) (by omega) (by decide) dX12_title_62 ?_
                    refine v_icmp_ge (pc := 63) 78 dX12_title_63 (by decide) (by unfold iB; omega) (by unfold iB; omega) (fun c_16 => ?_) (fun c_16 => ?_)
                    · skip
                      refine v_iinc (pc := 78) 2 (L2 := [(2, ai (p + 1)), (0, ar h), (1, ai player), (3, ai q)]) rfl rfl (by decide) dX12_title_78 ?_
                      refine v_goto (pc := 81) 42 dX12_title_81 (by decide) ?_
                      refine v_sub (L2 := [(0, ar h), (1, ai player), (2, ai (p + 1))]) [1, 2, 0] rfl ?_
                      exact ih42 _ (by omega) (p + 1) pt4 v4 by4 tr4 rfl (by omega) (by rw [hpt4, show q = f 0 by omega, show (p + 1).toNat = p.toNat + 1 by omega, ttO_succ, show ((p.toNat : Nat) : Int) = p by omega]) (by exact hk4)
                    · skip
                      refine v_aload_n (pc := 66) 0 rfl dX12_title_66 ?_
                      refine v_iload_n (pc := 67) 2 rfl dX12_title_67 ?_
                      refine v_iload_n (pc := 68) 3 rfl dX12_title_68 ?_
                      refine v_callV (pc := 69) [0, 2, 3, 4] [1] [((ad 18), cn 0 6 ms2_2)] (As := [ai p, ai q]) (rest := []) (c_X12_meets ad v4 h f by4 tr4 ms2_2 pt4 p q (by assumption) (by intro j a b; rw [hms j a b]; exact fMost_b) (by first | omega | assumption) (by first | omega | assumption) (by first | omega | assumption)) (c := 12) rfl (Or.inr ⟨2, rfl⟩) wl_X12_237 wi_X12_meets wv_X12_X12_meets_X12_meets wk_X12_meets wz_X12 md_X12_meets rfl (Nat.le_of_ble_eq_true rfl) ⟨Nat.le_of_ble_eq_true rfl, Nat.le_of_ble_eq_true rfl, Nat.le_of_ble_eq_true rfl, Nat.le_of_ble_eq_true rfl⟩ rfl rfl rfl rfl (by decide) (ro_cons (Or.inl r0) (ro_cons (Or.inr ⟨1, rfl, by decide⟩) ro_nil)) dX12_title_69 (fun u hu => ?_)
                      obtain ⟨pt2_17, v2_18, by2_19, tr2_20⟩ := u
                      have g_21 : pt2_17 = mt f ms2_2 pt4 p q ∧ v2_18 3 = v4 3 ∧ v2_18 21 = v4 21 := hu
                      show V x cX12_title RX12 4 (rmU 6 153 0 0) [((ad 18), cn 0 6 ms2_2), ((ad 19), cn 0 6 pt2_17), (h, co 12 (mO ad v2_18)), ((ad 9), cn 0 6 by2_19), ((ad 10), cn 1 64 tr2_20)] 72 [(0, ar h), (1, ai player), (2, ai p), (3, ai q)] [] 0 0
                      have hkm := g_21.2
                      have hmt := g_21.1
                      refine v_iinc (pc := 72) 3 (L2 := [(3, ai (q + 1)), (0, ar h), (1, ai player), (2, ai p)]) rfl rfl (by decide) dX12_title_72 ?_
                      refine v_goto (pc := 75) 56 dX12_title_75 (by decide) ?_
                      refine v_wsub (ws2 := [((ad 19), cn 0 6 pt2_17), ((ad 18), cn 0 6 ms2_2), (h, co 12 (mO ad v2_18)), ((ad 9), cn 0 6 by2_19), ((ad 10), cn 1 64 tr2_20)]) [1, 0, 2, 3, 4] rfl rfl ?_
                      refine v_sub (L2 := [(0, ar h), (1, ai player), (2, ai p), (3, ai (q + 1))]) [1, 2, 3, 0] rfl ?_
                      exact ih56 _ (by omega) (q + 1) pt2_17 v2_18 by2_19 tr2_20 rfl (by omega) (by rw [hmt, mt_congr (hms p (by omega) (by omega)) (hms q (by omega) (by omega)), hpt4, show (q + 1 - p - 1).toNat = (q - p - 1).toNat + 1 by omega, ttI_succ, show p + 1 + (((q - p - 1).toNat : Nat) : Int) = q by omega]) (by exact ⟨hkm.1.trans hk4.1, hkm.2.trans hk4.2⟩)
                refine v_sub (L2 := [(0, ar h), (1, ai player), (2, ai p), (3, ai (p + 1))]) [1, 2, 3, 0] rfl ?_
                exact lp56 _ (p + 1) pt3 v1 by1 tr1 rfl (by omega) (by rw [hpt, show (p + 1 - p - 1).toNat = 0 by omega]; rfl) (by exact hk)
          refine v_sub (L2 := [(0, ar h), (1, ai player), (2, ai 0)]) [1, 2, 0] rfl ?_
          exact lp42 _ 0 (fun _ => 0) v2_3 by2_4 tr2_5 rfl (by omega) (by rfl) (by exact ⟨hk0.1, hk0.2.2.2⟩)
        · skip
          refine v_aload_n (pc := 27) 0 rfl dX12_title_27 ?_
          refine v_get (pc := 28) (v := ar (ad 19)) 19 (Or.inr ⟨2, rfl⟩) fl_12_31_12 rfl dX12_title_28 ?_
          refine v_iload_n (pc := 31) 2 rfl dX12_title_31 ?_
          refine v_iconst (pc := 32) dX12_title_32 ?_
          refine v_iast (pc := 33) 0 rfl (by omega) (by omega) (by decide) (ws2 := [((ad 19), cn 0 6 (aup pt1 k 0)), ((ad 18), cn 0 6 ms2_2), (h, co 12 (mO ad v2_3)), ((ad 9), cn 0 6 by2_4), ((ad 10), cn 1 64 tr2_5)]) rfl dX12_title_33 ?_
          refine v_iinc (pc := 34) 2 (L2 := [(2, ai (k + 1)), (0, ar h), (1, ai player)]) rfl rfl (by decide) dX12_title_34 ?_
          refine v_goto (pc := 37) 21 dX12_title_37 (by decide) ?_
          refine v_sub (L2 := [(0, ar h), (1, ai player), (2, ai (k + 1))]) [1, 2, 0] rfl ?_
          exact ih _ (by omega) (k + 1) (aup pt1 k 0) rfl (by omega) (by intro j j0 j1; unfold aup; split <;> first | rfl | exact hpt1 j j0 (by omega))
    refine v_sub (L2 := [(0, ar h), (1, ai player), (2, ai 0)]) [1, 2, 0] rfl ?_
    exact lp21 _ 0 pt rfl (by omega) (by intro j j0 j1; omega)
  · skip
    refine v_aload_n (pc := 5) 0 rfl dX12_title_5 ?_
    refine v_iload_n (pc := 6) 1 rfl dX12_title_6 ?_
    refine v_callV (pc := 7) [] [0, 1, 2, 3, 4] [((ad 18), cn 0 6 ms), ((ad 19), cn 0 6 pt), (h, co 12 (mO ad v)), ((ad 9), cn 0 6 by0), ((ad 10), cn 1 64 tr0)] (As := [ai player]) (rest := []) (c_X12_isPlayer ad v h f player (by first | omega | assumption) (by assumption)) (c := 12) rfl (Or.inr ⟨2, rfl⟩) wl_X12_136 wi_X12_isPlayer wv_X12_X12_isPlayer_X12_isPlayer wk_X12_isPlayer wz_X12 md_X12_isPlayer rfl (Nat.le_of_ble_eq_true rfl) ⟨Nat.le_of_ble_eq_true rfl, Nat.le_of_ble_eq_true rfl, Nat.le_of_ble_eq_true rfl, Nat.le_of_ble_eq_true rfl⟩ rfl rfl rfl rfl (by decide) (ro_cons (Or.inr ⟨2, rfl, by decide⟩) (ro_cons (Or.inl r0) ro_nil)) dX12_title_7 (fun u hu => ?_)
    show V x cX12_title RX12 4 (rmU 6 153 0 0) [((ad 18), cn 0 6 ms), ((ad 19), cn 0 6 pt), (h, co 12 (mO ad v)), ((ad 9), cn 0 6 by0), ((ad 10), cn 1 64 tr0)] 10 [(0, ar h), (1, ai player)] [ai (if 0 ≤ player ∧ player ≤ (f 0) - 1 then 1 else 0)] 0 0
    refine v_ifb_ne (pc := 10) 15 dX12_title_10 (by decide) (fun c_22 => ?_) (fun c_22 => ?_)
    · skip
      refine v_aload_n (pc := 15) 0 rfl dX12_title_15 ?_
      refine v_callV (pc := 16) [0, 2, 3, 4] [1] [((ad 19), cn 0 6 pt)] (As := []) (rest := []) (c_X12_looksForMosts ad v h f by0 tr0 ms (by assumption)) (c := 12) rfl (Or.inr ⟨2, rfl⟩) wl_X12_229 wi_X12_looksForMosts wv_X12_X12_looksForMosts_X12_looksForMosts wk_X12_looksForMosts wz_X12 md_X12_looksForMosts rfl (Nat.le_of_ble_eq_true rfl) ⟨Nat.le_of_ble_eq_true rfl, Nat.le_of_ble_eq_true rfl, Nat.le_of_ble_eq_true rfl, Nat.le_of_ble_eq_true rfl⟩ rfl rfl rfl rfl (by decide) (ro_cons (Or.inl r0) ro_nil) dX12_title_16 (fun u hu => ?_)
      obtain ⟨ms2_23, v2_24, by2_25, tr2_26⟩ := u
      have g_27 : (∀ j : Int, 0 ≤ j → j < f 0 → ms2_23 j = fMost f j) ∧ vK v v2_24 := hu
      show V x cX12_title RX12 4 (rmU 6 153 0 0) [((ad 19), cn 0 6 pt), ((ad 18), cn 0 6 ms2_23), (h, co 12 (mO ad v2_24)), ((ad 9), cn 0 6 by2_25), ((ad 10), cn 1 64 tr2_26)] 19 [(0, ar h), (1, ai player)] [] 0 0
      have hk0 := g_27.2
      have hms := g_27.1
      refine v_iconst (pc := 19) dX12_title_19 ?_
      refine v_istore_n (pc := 20) (L2 := [(2, ai 0), (0, ar h), (1, ai player)]) rfl (by decide) dX12_title_20 ?_
      have lp21 : ∀ (mm : Nat) (k : Int) (pt1 : Int → Int), (6 - k).toNat = mm → (0 ≤ k ∧ k ≤ 6) → (∀ j : Int, 0 ≤ j → j < k → pt1 j = 0) → V x cX12_title RX12 4 (rmU 6 153 0 0) [((ad 19), cn 0 6 pt1), ((ad 18), cn 0 6 ms2_23), (h, co 12 (mO ad v2_24)), ((ad 9), cn 0 6 by2_25), ((ad 10), cn 1 64 tr2_26)] 21 [(0, ar h), (1, ai player), (2, ai k)] [] 0 0 := by
        intro mm
        induction mm using Nat.strongRecOn with
        | _ mm ih =>
          intro k pt1 hmm hk hpt1
          refine v_iload_n (pc := 21) 2 rfl dX12_title_21 ?_
          refine v_bipush (pc := 22) dX12_title_22 (by decide) ?_
          refine v_icmp_ge (pc := 24) 40 dX12_title_24 (by decide) (by unfold iB; omega) (by unfold iB; omega) (fun c_28 => ?_) (fun c_28 => ?_)
          · skip
            refine v_ext (q := 0) (a := ad 19) (N := 6) (t := 0) (f := pt1) (g := fun _ => 0) (ws2 := [((ad 19), cn 0 6 (fun _ => 0)), ((ad 18), cn 0 6 ms2_23), (h, co 12 (mO ad v2_24)), ((ad 9), cn 0 6 by2_25), ((ad 10), cn 1 64 tr2_26)]) rfl (fun j j0 j1 => hpt1 j j0 (by omega)) rfl ?_
            refine v_iconst (pc := 40) dX12_title_40 ?_
            refine v_istore_n (pc := 41) (L2 := [(2, ai 0), (0, ar h), (1, ai player)]) rfl (by decide) dX12_title_41 ?_
            have lp42 : ∀ (mm : Nat) (p : Int) (pt3 : Int → Int) (v1 : Nat → Int) (by1 : Int → Int) (tr1 : Int → Int), (f 0 - p).toNat = mm → (0 ≤ p ∧ p ≤ f 0) → (pt3 = ttO f (fMost f) (f 0) (fun _ => 0) p.toNat) → (v1 3 = v 3 ∧ v1 21 = v 21) → V x cX12_title RX12 4 (rmU 6 153 0 0) [((ad 19), cn 0 6 pt3), ((ad 18), cn 0 6 ms2_23), (h, co 12 (mO ad v1)), ((ad 9), cn 0 6 by1), ((ad 10), cn 1 64 tr1)] 42 [(0, ar h), (1, ai player), (2, ai p)] [] 0 0 := by
              intro mm
              induction mm using Nat.strongRecOn with
              | _ mm ih42 =>
                intro p pt3 v1 by1 tr1 hmm hp hpt hk
                refine v_iload_n (pc := 42) 2 rfl dX12_title_42 ?_
                refine v_aload_n (pc := 43) 0 rfl dX12_title_43 ?_
                refine v_get (pc := 44) (v := ar (ad 1)) 1 (Or.inr ⟨2, rfl⟩) fl_12_9_12 rfl dX12_title_44 ?_
                refine v_iconst (pc := 47) dX12_title_47 ?_
                refine v_iald (pc := 48) (Or.inl r0) (by omega) (by omega) (by decide) dX12_title_48 ?_
                refine v_icmp_ge (pc := 49) 84 dX12_title_49 (by decide) (by unfold iB; omega) (by unfold iB; omega) (fun c_29 => ?_) (fun c_29 => ?_)
                · skip
                  refine v_ws (ws2 := [((ad 19), cn 0 6 (qPts f)), ((ad 18), cn 0 6 ms2_23), (h, co 12 (mO ad v1)), ((ad 9), cn 0 6 by1), ((ad 10), cn 1 64 tr1)]) (by rw [hpt, show p = f 0 by omega]; rfl) ?_
                  refine v_aload_n (pc := 84) 0 rfl dX12_title_84 ?_
                  refine v_get (pc := 85) (v := ar (ad 1)) 1 (Or.inr ⟨2, rfl⟩) fl_12_9_12 rfl dX12_title_85 ?_
                  refine v_iconst (pc := 88) dX12_title_88 ?_
                  refine v_iald (pc := 89) (Or.inl r0) (by omega) (by omega) (by decide) dX12_title_89 ?_
                  refine v_if_ne (pc := 90) 98 dX12_title_90 (by decide) (by unfold iB; omega) (fun c_30 => ?_) (fun c_30 => ?_)
                  · skip
                    refine v_iconst (pc := 98) dX12_title_98 ?_
                    refine v_istore_n (pc := 99) (L2 := [(2, ai 0), (0, ar h), (1, ai player)]) rfl (by decide) dX12_title_99 ?_
                    refine v_iconst (pc := 100) dX12_title_100 ?_
                    refine v_istore_n (pc := 101) (L2 := [(3, ai 1), (2, ai 0), (0, ar h), (1, ai player)]) rfl (by decide) dX12_title_101 ?_
                    have lp102 : ∀ (mm : Nat) (bt : Int) (p : Int), (f 0 - p).toNat = mm → (1 ≤ p ∧ (p ≤ f 0 ∨ f 0 = 0 ∧ p = 1)) → (bt = if f 0 = 0 then -5 else tbs (qPts f) (p - 1).toNat) → V x cX12_title RX12 4 (rmU 6 153 0 0) [((ad 19), cn 0 6 (qPts f)), ((ad 18), cn 0 6 ms2_23), (h, co 12 (mO ad v1)), ((ad 9), cn 0 6 by1), ((ad 10), cn 1 64 tr1)] 102 [(0, ar h), (1, ai player), (2, ai bt), (3, ai p)] [] 0 0 := by
                      intro mm
                      induction mm using Nat.strongRecOn with
                      | _ mm ih102 =>
                        intro bt p hmm hp hbt
                        refine v_iload_n (pc := 102) 3 rfl dX12_title_102 ?_
                        refine v_aload_n (pc := 103) 0 rfl dX12_title_103 ?_
                        refine v_get (pc := 104) (v := ar (ad 1)) 1 (Or.inr ⟨2, rfl⟩) fl_12_9_12 rfl dX12_title_104 ?_
                        refine v_iconst (pc := 107) dX12_title_107 ?_
                        refine v_iald (pc := 108) (Or.inl r0) (by omega) (by omega) (by decide) dX12_title_108 ?_
                        refine v_icmp_ge (pc := 109) 139 dX12_title_109 (by decide) (by unfold iB; omega) (by unfold iB; omega) (fun c_31 => ?_) (fun c_31 => ?_)
                        · skip
                          refine v_iload_n (pc := 139) 1 rfl dX12_title_139 ?_
                          refine v_iconst (pc := 140) dX12_title_140 ?_
                          refine v_icmp_ne (pc := 141) 148 dX12_title_141 (by decide) (by unfold iB; omega) (by unfold iB; omega) (fun c_32 => ?_) (fun c_32 => ?_)
                          · skip
                            have hq3 : 0 ≤ qPts f player ∧ qPts f player ≤ 12 * ((f 0).toNat : Int) := hPb _ _
                            refine v_aload_n (pc := 148) 0 rfl dX12_title_148 ?_
                            refine v_get (pc := 149) (v := ar (ad 19)) 19 (Or.inr ⟨2, rfl⟩) fl_12_31_12 rfl dX12_title_149 ?_
                            refine v_iload_n (pc := 152) 1 rfl dX12_title_152 ?_
                            refine v_iald (pc := 153) (Or.inr ⟨0, rfl⟩) (by omega) (by omega) (by decide) dX12_title_153 ?_
                            refine v_wsub (ws2 := [((ad 18), cn 0 6 ms2_23), ((ad 19), cn 0 6 (qPts f)), (h, co 12 (mO ad v1)), ((ad 9), cn 0 6 by1), ((ad 10), cn 1 64 tr1)]) [1, 0, 2, 3, 4] rfl rfl ?_
                            exact hret (ms2_23, (qPts f), v1, by1, tr1) _ _ _ _ _ _ (by exact hk) (congrArg (fun z => some (ai z)) (by unfold qTitle; first | (rw [if_neg (by omega), if_pos (by omega), hbt]; split <;> first | rfl | (rw [show p = f 0 by omega]; done) | (exfalso; omega)) | (rw [if_neg (by omega), if_neg (by omega)]; done))) rfl (Nat.le_of_ble_eq_true rfl) (Nat.le_of_ble_eq_true rfl) dX12_title_154
                          · skip
                            refine v_iload_n (pc := 144) 2 rfl dX12_title_144 ?_
                            refine v_goto (pc := 145) 154 dX12_title_145 (by decide) ?_
                            refine v_wsub (ws2 := [((ad 18), cn 0 6 ms2_23), ((ad 19), cn 0 6 (qPts f)), (h, co 12 (mO ad v1)), ((ad 9), cn 0 6 by1), ((ad 10), cn 1 64 tr1)]) [1, 0, 2, 3, 4] rfl rfl ?_
                            exact hret (ms2_23, (qPts f), v1, by1, tr1) _ _ _ _ _ _ (by exact hk) (congrArg (fun z => some (ai z)) (by unfold qTitle; first | (rw [if_neg (by omega), if_pos (by omega), hbt]; split <;> first | rfl | (rw [show p = f 0 by omega]; done) | (exfalso; omega)) | (rw [if_neg (by omega), if_neg (by omega)]; done))) rfl (Nat.le_of_ble_eq_true rfl) (Nat.le_of_ble_eq_true rfl) dX12_title_154
                        · skip
                          have hbt2 : bt = tbs (qPts f) (p - 1).toNat := by rw [hbt, if_neg (by omega)]
                          have htb := tbs_b (P := qPts f) (p - 1).toNat
                          have hq1 : 0 ≤ qPts f p ∧ qPts f p ≤ 12 * ((f 0).toNat : Int) := hPb _ _
                          have hq2 : 0 ≤ qPts f bt ∧ qPts f bt ≤ 12 * ((f 0).toNat : Int) := hPb _ _
                          refine v_aload_n (pc := 112) 0 rfl dX12_title_112 ?_
                          refine v_get (pc := 113) (v := ar (ad 19)) 19 (Or.inr ⟨2, rfl⟩) fl_12_31_12 rfl dX12_title_113 ?_
                          refine v_iload_n (pc := 116) 3 rfl dX12_title_116 ?_
                          refine v_iald (pc := 117) (Or.inr ⟨0, rfl⟩) (by omega) (by omega) (by decide) dX12_title_117 ?_
                          refine v_aload_n (pc := 118) 0 rfl dX12_title_118 ?_
                          refine v_get (pc := 119) (v := ar (ad 19)) 19 (Or.inr ⟨2, rfl⟩) fl_12_31_12 rfl dX12_title_119 ?_
                          refine v_iload_n (pc := 122) 2 rfl dX12_title_122 ?_
                          refine v_iald (pc := 123) (Or.inr ⟨0, rfl⟩) (by omega) (by omega) (by decide) dX12_title_123 ?_
                          refine v_icmp_le (pc := 124) 131 dX12_title_124 (by decide) (by unfold iB; omega) (by unfold iB; omega) (fun c_33 => ?_) (fun c_33 => ?_)
                          · skip
                            refine v_iload_n (pc := 131) 2 rfl dX12_title_131 ?_
                            refine v_istore_n (pc := 132) (L2 := [(2, ai bt), (0, ar h), (1, ai player), (3, ai p)]) rfl (by decide) dX12_title_132 ?_
                            refine v_iinc (pc := 133) 3 (L2 := [(3, ai (p + 1)), (2, ai bt), (0, ar h), (1, ai player)]) rfl rfl (by decide) dX12_title_133 ?_
                            refine v_goto (pc := 136) 102 dX12_title_136 (by decide) ?_
                            refine v_sub (L2 := [(0, ar h), (1, ai player), (2, ai bt), (3, ai (p + 1))]) [2, 3, 1, 0] rfl ?_
                            exact ih102 _ (by omega) bt (p + 1) rfl (by omega) (by rw [if_neg (by omega), show (p + 1 - 1).toNat = (p - 1).toNat + 1 by omega, tbs_succ, show (((p - 1).toNat : Nat) : Int) + 1 = p by omega, ← hbt2]; first | (rw [if_pos (by omega)]; done) | (rw [if_neg (by omega)]; done))
                          · skip
                            refine v_iload_n (pc := 127) 3 rfl dX12_title_127 ?_
                            refine v_goto (pc := 128) 132 dX12_title_128 (by decide) ?_
                            refine v_istore_n (pc := 132) (L2 := [(2, ai p), (0, ar h), (1, ai player), (3, ai p)]) rfl (by decide) dX12_title_132 ?_
                            refine v_iinc (pc := 133) 3 (L2 := [(3, ai (p + 1)), (2, ai p), (0, ar h), (1, ai player)]) rfl rfl (by decide) dX12_title_133 ?_
                            refine v_goto (pc := 136) 102 dX12_title_136 (by decide) ?_
                            refine v_sub (L2 := [(0, ar h), (1, ai player), (2, ai p), (3, ai (p + 1))]) [2, 3, 1, 0] rfl ?_
                            exact ih102 _ (by omega) p (p + 1) rfl (by omega) (by rw [if_neg (by omega), show (p + 1 - 1).toNat = (p - 1).toNat + 1 by omega, tbs_succ, show (((p - 1).toNat : Nat) : Int) + 1 = p by omega, ← hbt2]; first | (rw [if_pos (by omega)]; done) | (rw [if_neg (by omega)]; done))
                    refine v_sub (L2 := [(0, ar h), (1, ai player), (2, ai 0), (3, ai 1)]) [2, 3, 1, 0] rfl ?_
                    exact lp102 _ 0 1 rfl (by omega) (by first | (rw [if_pos (by omega)]; done) | (rw [if_neg (by omega)]; rfl))
                  · skip
                    refine v_bipush (pc := 93) dX12_title_93 (by decide) ?_
                    refine v_goto (pc := 95) 99 dX12_title_95 (by decide) ?_
                    refine v_istore_n (pc := 99) (L2 := [(2, ai (-5)), (0, ar h), (1, ai player)]) rfl (by decide) dX12_title_99 ?_
                    refine v_iconst (pc := 100) dX12_title_100 ?_
                    refine v_istore_n (pc := 101) (L2 := [(3, ai 1), (2, ai (-5)), (0, ar h), (1, ai player)]) rfl (by decide) dX12_title_101 ?_
                    have lp102 : ∀ (mm : Nat) (bt : Int) (p : Int), (f 0 - p).toNat = mm → (1 ≤ p ∧ (p ≤ f 0 ∨ f 0 = 0 ∧ p = 1)) → (bt = if f 0 = 0 then -5 else tbs (qPts f) (p - 1).toNat) → V x cX12_title RX12 4 (rmU 6 153 0 0) [((ad 19), cn 0 6 (qPts f)), ((ad 18), cn 0 6 ms2_23), (h, co 12 (mO ad v1)), ((ad 9), cn 0 6 by1), ((ad 10), cn 1 64 tr1)] 102 [(0, ar h), (1, ai player), (2, ai bt), (3, ai p)] [] 0 0 := by
                      intro mm
                      induction mm using Nat.strongRecOn with
                      | _ mm ih102 =>
                        intro bt p hmm hp hbt
                        refine v_iload_n (pc := 102) 3 rfl dX12_title_102 ?_
                        refine v_aload_n (pc := 103) 0 rfl dX12_title_103 ?_
                        refine v_get (pc := 104) (v := ar (ad 1)) 1 (Or.inr ⟨2, rfl⟩) fl_12_9_12 rfl dX12_title_104 ?_
                        refine v_iconst (pc := 107) dX12_title_107 ?_
                        refine v_iald (pc := 108) (Or.inl r0) (by omega) (by omega) (by decide) dX12_title_108 ?_
                        refine v_icmp_ge (pc := 109) 139 dX12_title_109 (by decide) (by unfold iB; omega) (by unfold iB; omega) (fun c_34 => ?_) (fun c_34 => ?_)
                        · skip
                          refine v_iload_n (pc := 139) 1 rfl dX12_title_139 ?_
                          refine v_iconst (pc := 140) dX12_title_140 ?_
                          refine v_icmp_ne (pc := 141) 148 dX12_title_141 (by decide) (by unfold iB; omega) (by unfold iB; omega) (fun c_35 => ?_) (fun c_35 => ?_)
                          · skip
                            have hq3 : 0 ≤ qPts f player ∧ qPts f player ≤ 12 * ((f 0).toNat : Int) := hPb _ _
                            refine v_aload_n (pc := 148) 0 rfl dX12_title_148 ?_
                            refine v_get (pc := 149) (v := ar (ad 19)) 19 (Or.inr ⟨2, rfl⟩) fl_12_31_12 rfl dX12_title_149 ?_
                            refine v_iload_n (pc := 152) 1 rfl dX12_title_152 ?_
                            refine v_iald (pc := 153) (Or.inr ⟨0, rfl⟩) (by omega) (by omega) (by decide) dX12_title_153 ?_
                            refine v_wsub (ws2 := [((ad 18), cn 0 6 ms2_23), ((ad 19), cn 0 6 (qPts f)), (h, co 12 (mO ad v1)), ((ad 9), cn 0 6 by1), ((ad 10), cn 1 64 tr1)]) [1, 0, 2, 3, 4] rfl rfl ?_
                            exact hret (ms2_23, (qPts f), v1, by1, tr1) _ _ _ _ _ _ (by exact hk) (congrArg (fun z => some (ai z)) (by unfold qTitle; first | (rw [if_neg (by omega), if_pos (by omega), hbt]; split <;> first | rfl | (rw [show p = f 0 by omega]; done) | (exfalso; omega)) | (rw [if_neg (by omega), if_neg (by omega)]; done))) rfl (Nat.le_of_ble_eq_true rfl) (Nat.le_of_ble_eq_true rfl) dX12_title_154
                          · skip
                            refine v_iload_n (pc := 144) 2 rfl dX12_title_144 ?_
                            refine v_goto (pc := 145) 154 dX12_title_145 (by decide) ?_
                            refine v_wsub (ws2 := [((ad 18), cn 0 6 ms2_23), ((ad 19), cn 0 6 (qPts f)), (h, co 12 (mO ad v1)), ((ad 9), cn 0 6 by1), ((ad 10), cn 1 64 tr1)]) [1, 0, 2, 3, 4] rfl rfl ?_
                            exact hret (ms2_23, (qPts f), v1, by1, tr1) _ _ _ _ _ _ (by exact hk) (congrArg (fun z => some (ai z)) (by unfold qTitle; first | (rw [if_neg (by omega), if_pos (by omega), hbt]; split <;> first | rfl | (rw [show p = f 0 by omega]; done) | (exfalso; omega)) | (rw [if_neg (by omega), if_neg (by omega)]; done))) rfl (Nat.le_of_ble_eq_true rfl) (Nat.le_of_ble_eq_true rfl) dX12_title_154
                        · skip
                          have hbt2 : bt = tbs (qPts f) (p - 1).toNat := by rw [hbt, if_neg (by omega)]
                          have htb := tbs_b (P := qPts f) (p - 1).toNat
                          have hq1 : 0 ≤ qPts f p ∧ qPts f p ≤ 12 * ((f 0).toNat : Int) := hPb _ _
                          have hq2 : 0 ≤ qPts f bt ∧ qPts f bt ≤ 12 * ((f 0).toNat : Int) := hPb _ _
                          refine v_aload_n (pc := 112) 0 rfl dX12_title_112 ?_
                          refine v_get (pc := 113) (v := ar (ad 19)) 19 (Or.inr ⟨2, rfl⟩) fl_12_31_12 rfl dX12_title_113 ?_
                          refine v_iload_n (pc := 116) 3 rfl dX12_title_116 ?_
                          refine v_iald (pc := 117) (Or.inr ⟨0, rfl⟩) (by omega) (by omega) (by decide) dX12_title_117 ?_
                          refine v_aload_n (pc := 118) 0 rfl dX12_title_118 ?_
                          refine v_get (pc := 119) (v := ar (ad 19)) 19 (Or.inr ⟨2, rfl⟩) fl_12_31_12 rfl dX12_title_119 ?_
                          refine v_iload_n (pc := 122) 2 rfl dX12_title_122 ?_
                          refine v_iald (pc := 123) (Or.inr ⟨0, rfl⟩) (by omega) (by omega) (by decide) dX12_title_123 ?_
                          refine v_icmp_le (pc := 124) 131 dX12_title_124 (by decide) (by unfold iB; omega) (by unfold iB; omega) (fun c_36 => ?_) (fun c_36 => ?_)
                          · skip
                            refine v_iload_n (pc := 131) 2 rfl dX12_title_131 ?_
                            refine v_istore_n (pc := 132) (L2 := [(2, ai bt), (0, ar h), (1, ai player), (3, ai p)]) rfl (by decide) dX12_title_132 ?_
                            refine v_iinc (pc := 133) 3 (L2 := [(3, ai (p + 1)), (2, ai bt), (0, ar h), (1, ai player)]) rfl rfl (by decide) dX12_title_133 ?_
                            refine v_goto (pc := 136) 102 dX12_title_136 (by decide) ?_
                            refine v_sub (L2 := [(0, ar h), (1, ai player), (2, ai bt), (3, ai (p + 1))]) [2, 3, 1, 0] rfl ?_
                            exact ih102 _ (by omega) bt (p + 1) rfl (by omega) (by rw [if_neg (by omega), show (p + 1 - 1).toNat = (p - 1).toNat + 1 by omega, tbs_succ, show (((p - 1).toNat : Nat) : Int) + 1 = p by omega, ← hbt2]; first | (rw [if_pos (by omega)]; done) | (rw [if_neg (by omega)]; done))
                          · skip
                            refine v_iload_n (pc := 127) 3 rfl dX12_title_127 ?_
                            refine v_goto (pc := 128) 132 dX12_title_128 (by decide) ?_
                            refine v_istore_n (pc := 132) (L2 := [(2, ai p), (0, ar h), (1, ai player), (3, ai p)]) rfl (by decide) dX12_title_132 ?_
                            refine v_iinc (pc := 133) 3 (L2 := [(3, ai (p + 1)), (2, ai p), (0, ar h), (1, ai player)]) rfl rfl (by decide) dX12_title_133 ?_
                            refine v_goto (pc := 136) 102 dX12_title_136 (by decide) ?_
                            refine v_sub (L2 := [(0, ar h), (1, ai player), (2, ai p), (3, ai (p + 1))]) [2, 3, 1, 0] rfl ?_
                            exact ih102 _ (by omega) p (p + 1) rfl (by omega) (by rw [if_neg (by omega), show (p + 1 - 1).toNat = (p - 1).toNat + 1 by omega, tbs_succ, show (((p - 1).toNat : Nat) : Int) + 1 = p by omega, ← hbt2]; first | (rw [if_pos (by omega)]; done) | (rw [if_neg (by omega)]; done))
                    refine v_sub (L2 := [(0, ar h), (1, ai player), (2, ai (-5)), (3, ai 1)]) [2, 3, 1, 0] rfl ?_
                    exact lp102 _ (-5) 1 rfl (by omega) (by first | (rw [if_pos (by omega)]; done) | (rw [if_neg (by omega)]; rfl))
                · skip
                  refine v_iload_n (pc := 52) 2 rfl dX12_title_52 ?_
                  refine v_iconst (pc := 53) dX12_title_53 ?_
                  refine v_iadd (pc := 54) dX12_title_54 ?_
                  refine v_istore_n (pc := 55) (L2 := [(3, ai (p + 1)), (0, ar h), (1, ai player), (2, ai p)]) rfl (by decide) dX12_title_55 ?_
                  have lp56 : ∀ (mm : Nat) (q : Int) (pt4 : Int → Int) (v4 : Nat → Int) (by4 : Int → Int) (tr4 : Int → Int), (f 0 - q).toNat = mm → (p + 1 ≤ q ∧ q ≤ f 0) → (pt4 = ttI f (fMost f) p (ttO f (fMost f) (f 0) (fun _ => 0) p.toNat) (q - p - 1).toNat) → (v4 3 = v 3 ∧ v4 21 = v 21) → V x cX12_title RX12 4 (rmU 6 153 0 0) [((ad 19), cn 0 6 pt4), ((ad 18), cn 0 6 ms2_23), (h, co 12 (mO ad v4)), ((ad 9), cn 0 6 by4), ((ad 10), cn 1 64 tr4)] 56 [(0, ar h), (1, ai player), (2, ai p), (3, ai q)] [] 0 0 := by
                    intro mm
                    induction mm using Nat.strongRecOn with
                    | _ mm ih56 =>
                      intro q pt4 v4 by4 tr4 hmm hq hpt4 hk4
                      refine v_iload_n (pc := 56) 3 rfl dX12_title_56 ?_
                      refine v_aload_n (pc := 57) 0 rfl dX12_title_57 ?_
                      refine v_get (pc := 58) (v := ar (ad 1)) 1 (Or.inr ⟨2, rfl⟩) fl_12_9_12 rfl dX12_title_58 ?_
                      refine v_iconst (pc := 61) dX12_title_61 ?_
                      refine v_iald (pc := 62) (Or.inl r0) (by omega) (by omega) (by decide) dX12_title_62 ?_
                      refine v_icmp_ge (pc := 63) 78 dX12_title_63 (by decide) (by unfold iB; omega) (by unfold iB; omega) (fun c_37 => ?_) (fun c_37 => ?_)
                      · skip
                        refine v_iinc (pc := 78) 2 (L2 := [(2, ai (p + 1)), (0, ar h), (1, ai player), (3, ai q)]) rfl rfl (by decide) dX12_title_78 ?_
                        refine v_goto (pc := 81) 42 dX12_title_81 (by decide) ?_
                        refine v_sub (L2 := [(0, ar h), (1, ai player), (2, ai (p + 1))]) [1, 2, 0] rfl ?_
                        exact ih42 _ (by omega) (p + 1) pt4 v4 by4 tr4 rfl (by omega) (by rw [hpt4, show q = f 0 by omega, show (p + 1).toNat = p.toNat + 1 by omega, ttO_succ, show ((p.toNat : Nat) : Int) = p by omega]) (by exact hk4)
                      · skip
                        refine v_aload_n (pc := 66) 0 rfl dX12_title_66 ?_
                        refine v_iload_n (pc := 67) 2 rfl dX12_title_67 ?_
                        refine v_iload_n (pc := 68) 3 rfl dX12_title_68 ?_
                        refine v_callV (pc := 69) [0, 2, 3, 4] [1] [((ad 18), cn 0 6 ms2_23)] (As := [ai p, ai q]) (rest := []) (c_X12_meets ad v4 h f by4 tr4 ms2_23 pt4 p q (by assumption) (by intro j a b; rw [hms j a b]; exact fMost_b) (by first | omega | assumption) (by first | omega | assumption) (by first | omega | assumption)) (c := 12) rfl (Or.inr ⟨2, rfl⟩) wl_X12_237 wi_X12_meets wv_X12_X12_meets_X12_meets wk_X12_meets wz_X12 md_X12_meets rfl (Nat.le_of_ble_eq_true rfl) ⟨Nat.le_of_ble_eq_true rfl, Nat.le_of_ble_eq_true rfl, Nat.le_of_ble_eq_true rfl, Nat.le_of_ble_eq_true rfl⟩ rfl rfl rfl rfl (by decide) (ro_cons (Or.inl r0) (ro_cons (Or.inr ⟨1, rfl, by decide⟩) ro_nil)) dX12_title_69 (fun u hu => ?_)
                        obtain ⟨pt2_38, v2_39, by2_40, tr2_41⟩ := u
                        have g_42 : pt2_38 = mt f ms2_23 pt4 p q ∧ v2_39 3 = v4 3 ∧ v2_39 21 = v4 21 := hu
                        show V x cX12_title RX12 4 (rmU 6 153 0 0) [((ad 18), cn 0 6 ms2_23), ((ad 19), cn 0 6 pt2_38), (h, co 12 (mO ad v2_39)), ((ad 9), cn 0 6 by2_40), ((ad 10), cn 1 64 tr2_41)] 72 [(0, ar h), (1, ai player), (2, ai p), (3, ai q)] [] 0 0
                        have hkm := g_42.2
                        have hmt := g_42.1
                        refine v_iinc (pc := 72) 3 (L2 := [(3, ai (q + 1)), (0, ar h), (1, ai player), (2, ai p)]) rfl rfl (by decide) dX12_title_72 ?_
                        refine v_goto (pc := 75) 56 dX12_title_75 (by decide) ?_
                        refine v_wsub (ws2 := [((ad 19), cn 0 6 pt2_38), ((ad 18), cn 0 6 ms2_23), (h, co 12 (mO ad v2_39)), ((ad 9), cn 0 6 by2_40), ((ad 10), cn 1 64 tr2_41)]) [1, 0, 2, 3, 4] rfl rfl ?_
                        refine v_sub (L2 := [(0, ar h), (1, ai player), (2, ai p), (3, ai (q + 1))]) [1, 2, 3, 0] rfl ?_
                        exact ih56 _ (by omega) (q + 1) pt2_38 v2_39 by2_40 tr2_41 rfl (by omega) (by rw [hmt, mt_congr (hms p (by omega) (by omega)) (hms q (by omega) (by omega)), hpt4, show (q + 1 - p - 1).toNat = (q - p - 1).toNat + 1 by omega, ttI_succ, show p + 1 + (((q - p - 1).toNat : Nat) : Int) = q by omega]) (by exact ⟨hkm.1.trans hk4.1, hkm.2.trans hk4.2⟩)
                  refine v_sub (L2 := [(0, ar h), (1, ai player), (2, ai p), (3, ai (p + 1))]) [1, 2, 3, 0] rfl ?_
                  exact lp56 _ (p + 1) pt3 v1 by1 tr1 rfl (by omega) (by rw [hpt, show (p + 1 - p - 1).toNat = 0 by omega]; rfl) (by exact hk)
            refine v_sub (L2 := [(0, ar h), (1, ai player), (2, ai 0)]) [1, 2, 0] rfl ?_
            exact lp42 _ 0 (fun _ => 0) v2_24 by2_25 tr2_26 rfl (by omega) (by rfl) (by exact ⟨hk0.1, hk0.2.2.2⟩)
          · skip
            refine v_aload_n (pc := 27) 0 rfl dX12_title_27 ?_
            refine v_get (pc := 28) (v := ar (ad 19)) 19 (Or.inr ⟨2, rfl⟩) fl_12_31_12 rfl dX12_title_28 ?_
            refine v_iload_n (pc := 31) 2 rfl dX12_title_31 ?_
            refine v_iconst (pc := 32) dX12_title_32 ?_
            refine v_iast (pc := 33) 0 rfl (by omega) (by omega) (by decide) (ws2 := [((ad 19), cn 0 6 (aup pt1 k 0)), ((ad 18), cn 0 6 ms2_23), (h, co 12 (mO ad v2_24)), ((ad 9), cn 0 6 by2_25), ((ad 10), cn 1 64 tr2_26)]) rfl dX12_title_33 ?_
            refine v_iinc (pc := 34) 2 (L2 := [(2, ai (k + 1)), (0, ar h), (1, ai player)]) rfl rfl (by decide) dX12_title_34 ?_
            refine v_goto (pc := 37) 21 dX12_title_37 (by decide) ?_
            refine v_sub (L2 := [(0, ar h), (1, ai player), (2, ai (k + 1))]) [1, 2, 0] rfl ?_
            exact ih _ (by omega) (k + 1) (aup pt1 k 0) rfl (by omega) (by intro j j0 j1; unfold aup; split <;> first | rfl | exact hpt1 j j0 (by omega))
      refine v_sub (L2 := [(0, ar h), (1, ai player), (2, ai 0)]) [1, 2, 0] rfl ?_
      exact lp21 _ 0 pt rfl (by omega) (by intro j j0 j1; omega)
    · skip
      refine v_iconst (pc := 13) dX12_title_13 ?_
      exact hret (ms, pt, v, by0, tr0) _ _ _ _ _ _ (by exact ⟨rfl, rfl⟩) (congrArg (fun z => some (ai z)) (by unfold qTitle; rw [if_pos (by omega)])) rfl (Nat.le_of_ble_eq_true rfl) (Nat.le_of_ble_eq_true rfl) dX12_title_14
