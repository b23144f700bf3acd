set_option maxHeartbeats 4000000 in
set_option maxRecDepth 100000 in
theorem c_X12_here {gS : sG} (ad : Nat → Nat) (v : Nat → Int) (h : Nat) (f : Int → Int) (a : Int) (e : Int) (l : List Int) (p : Int) (ha : 0 ≤ a ∧ a ≤ 4) (he : 0 ≤ e ∧ e ≤ 100) (hp6 : v 6 = e) (hp5 : v 5 = p) (hp : 0 ≤ p ∧ p ≤ 200) : Ct gS (S := Unit) yX12_here cX12_here 1 (some .int) 0 0 0 0 [ar h] [] (fun q => q ∈ ([(h, co 12 (mO ad v)), ((ad 1), cn 0 936 (wrS f a l))] : aW)) (fun _ => True) (fun _ => some (ai (hrp (tp f) e p))) (fun _ => []) := by
  refine ct_I RX12 [(0, ar h)] (by decide) rfl (Nat.le_of_ble_eq_true rfl) rfl (fun x hgS hro hret => ?_)
  subst hgS
  have r0 := hro _ (mem_at 0 rfl)
  have r1 := hro _ (mem_at 1 rfl)
  show V x cX12_here RX12 1 (rmU 0 0 0 0) [] 0 [(0, ar h)] [] 0 0
  refine v_aload_n (pc := 0) 0 rfl dX12_here_0 ?_
  refine v_get (pc := 1) (v := ai (v 5)) 5 (Or.inl r0) fl_12_45_12 rfl dX12_here_1 ?_
  refine v_aload_n (pc := 4) 0 rfl dX12_here_4 ?_
  refine v_get (pc := 5) (v := ai (v 6)) 6 (Or.inl r0) fl_12_48_12 rfl dX12_here_5 ?_
  refine v_icmp_ge (pc := 8) 26 dX12_here_8 (by decide) (by unfold iB; omega) (by unfold iB; omega) (fun c_1 => ?_) (fun c_1 => ?_)
  · skip
    refine v_iconst (pc := 26) dX12_here_26 ?_
    exact hret () _ _ _ _ _ _ trivial (congrArg (fun z => some (ai z)) (by unfold hrp tp; first | (rw [if_pos (by omega), if_pos (by omega), wrS_lo ha.1 (by omega), hp5]; done) | (rw [if_neg (by omega)]; done))) rfl (Nat.le_of_ble_eq_true rfl) (Nat.le_of_ble_eq_true rfl) dX12_here_27
  · skip
    refine v_aload_n (pc := 11) 0 rfl dX12_here_11 ?_
    refine v_get (pc := 12) (v := ar (ad 1)) 1 (Or.inl r0) fl_12_9_12 rfl dX12_here_12 ?_
    refine v_bipush (pc := 15) dX12_here_15 (by decide) ?_
    refine v_aload_n (pc := 17) 0 rfl dX12_here_17 ?_
    refine v_get (pc := 18) (v := ai (v 5)) 5 (Or.inl r0) fl_12_45_12 rfl dX12_here_18 ?_
    refine v_iadd (pc := 21) dX12_here_21 ?_
    refine v_iald (pc := 22) (Or.inl r1) (by omega) (by omega) (by decide) dX12_here_22 ?_
    refine v_goto (pc := 23) 27 dX12_here_23 (by decide) ?_
    exact hret () _ _ _ _ _ _ trivial (congrArg (fun z => some (ai z)) (by unfold hrp tp; first | (rw [if_pos (by omega), if_pos (by omega), wrS_lo ha.1 (by omega), hp5]; done) | (rw [if_neg (by omega)]; done))) rfl (Nat.le_of_ble_eq_true rfl) (Nat.le_of_ble_eq_true rfl) dX12_here_27
set_option maxHeartbeats 4000000 in
set_option maxRecDepth 100000 in
theorem c_X12_must {gS : sG} (ad : Nat → Nat) (v : Nat → Int) (h : Nat) (f : Int → Int) (a : Int) (e : Int) (l : List Int) (c : Int) (ha : 0 ≤ a ∧ a ≤ 4) (he : 0 ≤ e ∧ e ≤ 100) (hT : ∀ j : Int, 0 ≤ j → j < e → 0 ≤ f (121 + j) ∧ f (121 + j) ≤ 127) (h4 : v 4 = a) (h6 : v 6 = e) (hB : PB e (ps v l)) (hc : 0 ≤ c ∧ c ≤ 127) : Ct gS (S := Nat → Int) yX12_must cX12_must 2 none 1 20 0 0 [ar h, ai c] [(h, co 12 (mO ad v))] (fun q => q ∈ ([((ad 1), cn 0 936 (wrS f a l))] : aW)) (fun u => mstP (tp f) e c (ps v l) = ps u l ∧ kp v u) (fun u => none) (fun u => [(h, co 12 (mO ad u))]) := by
  refine ct_V RX12 [(0, ar h), (1, ai c)] (by decide) rfl (Nat.le_of_ble_eq_true rfl) rfl (fun x hgS hnm hro hret => ?_)
  subst hgS
  have r0 := hro _ (mem_at 0 rfl)
  have hB1 : 0 ≤ v 5 := hB.1
  have hB2 : v 5 ≤ e := hB.2.1
  have hB3 : v 7 = 0 ∨ v 7 = 1 := hB.2.2
  show V x cX12_must RX12 2 (rmU 1 20 0 0) [(h, co 12 (mO ad v))] 0 [(0, ar h), (1, ai c)] [] 0 0
  refine v_aload_n (pc := 0) 0 rfl dX12_must_0 ?_
  refine v_aload_n (pc := 1) 0 rfl dX12_must_1 ?_
  refine v_get (pc := 2) (v := ai (v 7)) 7 (Or.inr ⟨0, rfl⟩) fl_12_51_12 rfl dX12_must_2 ?_
  refine v_if_ne (pc := 5) 16 dX12_must_5 (by decide) (by unfold iB; omega) (fun c_1 => ?_) (fun c_1 => ?_)
  · skip
    refine v_iconst (pc := 16) dX12_must_16 ?_
    refine v_goto (pc := 17) 21 dX12_must_17 (by decide) ?_
    refine v_put (pc := 21) 7 0 rfl fl_12_51_12 ck_12 ft_12_7 okV_z1 (Nat.le_of_ble_eq_true rfl) (ws2 := [(h, co 12 (mO ad (nup v 7 1)))]) rfl dX12_must_21 ?_
    refine v_aload_n (pc := 24) 0 rfl dX12_must_24 ?_
    refine v_dup (pc := 25) rfl dX12_must_25 ?_
    refine v_get (pc := 26) (v := ai (v 5)) 5 (Or.inr ⟨0, rfl⟩) fl_12_45_12 rfl dX12_must_26 ?_
    refine v_aload_n (pc := 29) 0 rfl dX12_must_29 ?_
    refine v_get (pc := 30) (v := ai 1) 7 (Or.inr ⟨0, rfl⟩) fl_12_51_12 rfl dX12_must_30 ?_
    refine v_if_eq (pc := 33) 40 dX12_must_33 (by decide) (by unfold iB; omega) (fun c_2 => by exfalso; omega) (fun c_2 => ?_)
    refine v_iconst (pc := 36) dX12_must_36 ?_
    refine v_goto (pc := 37) 41 dX12_must_37 (by decide) ?_
    refine v_iadd (pc := 41) dX12_must_41 ?_
    refine v_put (pc := 42) 5 0 rfl fl_12_45_12 ck_12 ft_12_5 (okV_i _) (Nat.le_of_ble_eq_true rfl) (ws2 := [(h, co 12 (mO ad (nup (nup v 7 1) 5 ((v 5) + 0))))]) rfl dX12_must_42 ?_
    exact hret (nup (nup v 7 1) 5 ((v 5) + 0)) _ _ _ _ _ (by first | exact ⟨mstP_t (by omega) (by omega) (by omega) (by omega), kp_5 (kp_7 (kp_rf v))⟩ | exact ⟨mstP_f (by omega) (by omega) (by omega), kp_5 (kp_7 (kp_rf v))⟩) rfl rfl (Nat.le_of_ble_eq_true rfl) (Nat.le_of_ble_eq_true rfl) dX12_must_45
  · skip
    refine v_aload_n (pc := 8) 0 rfl dX12_must_8 ?_
    refine v_callV (pc := 9) [] [0] [(h, co 12 (mO ad v))] (As := []) (rest := [ar h]) (c_X12_here ad v h f a e l (v 5) (by first | omega | assumption) (by first | omega | assumption) (by show (v 6) = e; omega) (by rfl) (by first | omega | assumption)) (c := 12) rfl (Or.inr ⟨0, rfl⟩) wl_X12_55 wi_X12_here wv_X12_X12_here_X12_here wk_X12_here wz_X12 md_X12_here rfl (Nat.le_of_ble_eq_true rfl) ⟨Nat.le_of_ble_eq_true rfl, Nat.le_of_ble_eq_true rfl, Nat.le_of_ble_eq_true rfl, Nat.le_of_ble_eq_true rfl⟩ rfl rfl rfl rfl (by decide) (ro_cons (Or.inr ⟨0, rfl, by decide⟩) (ro_cons (Or.inl r0) ro_nil)) dX12_must_9 (fun u hu => ?_)
    show V x cX12_must RX12 2 (rmU 1 20 0 0) [(h, co 12 (mO ad v))] 12 [(0, ar h), (1, ai c)] [ai (hrp (tp f) e (v 5)), ar h] 0 0
    have hb_3 := hrp_b (p := (v 5)) hT (by omega)
    refine v_iload_n (pc := 12) 1 rfl dX12_must_12 ?_
    refine v_icmp_eq (pc := 13) 20 dX12_must_13 (by decide) (by unfold iB; omega) (by unfold iB; omega) (fun c_4 => ?_) (fun c_4 => ?_)
    · skip
      refine v_iconst (pc := 20) dX12_must_20 ?_
      refine v_put (pc := 21) 7 0 rfl fl_12_51_12 ck_12 ft_12_7 okV_z0 (Nat.le_of_ble_eq_true rfl) (ws2 := [(h, co 12 (mO ad (nup v 7 0)))]) rfl dX12_must_21 ?_
      refine v_aload_n (pc := 24) 0 rfl dX12_must_24 ?_
      refine v_dup (pc := 25) rfl dX12_must_25 ?_
      refine v_get (pc := 26) (v := ai (v 5)) 5 (Or.inr ⟨0, rfl⟩) fl_12_45_12 rfl dX12_must_26 ?_
      refine v_aload_n (pc := 29) 0 rfl dX12_must_29 ?_
      refine v_get (pc := 30) (v := ai 0) 7 (Or.inr ⟨0, rfl⟩) fl_12_51_12 rfl dX12_must_30 ?_
      refine v_if_eq (pc := 33) 40 dX12_must_33 (by decide) (by unfold iB; omega) (fun c_5 => ?_) (fun c_5 => by exfalso; omega)
      refine v_iconst (pc := 40) dX12_must_40 ?_
      refine v_iadd (pc := 41) dX12_must_41 ?_
      refine v_put (pc := 42) 5 0 rfl fl_12_45_12 ck_12 ft_12_5 (okV_i _) (Nat.le_of_ble_eq_true rfl) (ws2 := [(h, co 12 (mO ad (nup (nup v 7 0) 5 ((v 5) + 1))))]) rfl dX12_must_42 ?_
      exact hret (nup (nup v 7 0) 5 ((v 5) + 1)) _ _ _ _ _ (by first | exact ⟨mstP_t (by omega) (by omega) (by omega) (by omega), kp_5 (kp_7 (kp_rf v))⟩ | exact ⟨mstP_f (by omega) (by omega) (by omega), kp_5 (kp_7 (kp_rf v))⟩) rfl rfl (Nat.le_of_ble_eq_true rfl) (Nat.le_of_ble_eq_true rfl) dX12_must_45
    · skip
      refine v_iconst (pc := 16) dX12_must_16 ?_
      refine v_goto (pc := 17) 21 dX12_must_17 (by decide) ?_
      refine v_put (pc := 21) 7 0 rfl fl_12_51_12 ck_12 ft_12_7 okV_z1 (Nat.le_of_ble_eq_true rfl) (ws2 := [(h, co 12 (mO ad (nup v 7 1)))]) rfl dX12_must_21 ?_
      refine v_aload_n (pc := 24) 0 rfl dX12_must_24 ?_
      refine v_dup (pc := 25) rfl dX12_must_25 ?_
      refine v_get (pc := 26) (v := ai (v 5)) 5 (Or.inr ⟨0, rfl⟩) fl_12_45_12 rfl dX12_must_26 ?_
      refine v_aload_n (pc := 29) 0 rfl dX12_must_29 ?_
      refine v_get (pc := 30) (v := ai 1) 7 (Or.inr ⟨0, rfl⟩) fl_12_51_12 rfl dX12_must_30 ?_
      refine v_if_eq (pc := 33) 40 dX12_must_33 (by decide) (by unfold iB; omega) (fun c_6 => by exfalso; omega) (fun c_6 => ?_)
      refine v_iconst (pc := 36) dX12_must_36 ?_
      refine v_goto (pc := 37) 41 dX12_must_37 (by decide) ?_
      refine v_iadd (pc := 41) dX12_must_41 ?_
      refine v_put (pc := 42) 5 0 rfl fl_12_45_12 ck_12 ft_12_5 (okV_i _) (Nat.le_of_ble_eq_true rfl) (ws2 := [(h, co 12 (mO ad (nup (nup v 7 1) 5 ((v 5) + 0))))]) rfl dX12_must_42 ?_
      exact hret (nup (nup v 7 1) 5 ((v 5) + 0)) _ _ _ _ _ (by first | exact ⟨mstP_t (by omega) (by omega) (by omega) (by omega), kp_5 (kp_7 (kp_rf v))⟩ | exact ⟨mstP_f (by omega) (by omega) (by omega), kp_5 (kp_7 (kp_rf v))⟩) rfl rfl (Nat.le_of_ble_eq_true rfl) (Nat.le_of_ble_eq_true rfl) dX12_must_45
set_option maxHeartbeats 4000000 in
set_option maxRecDepth 100000 in
theorem c_X12_figures {gS : sG} (ad : Nat → Nat) (v : Nat → Int) (h : Nat) (f : Int → Int) (a : Int) (e : Int) (l : List Int) (ha : 0 ≤ a ∧ a ≤ 4) (he : 0 ≤ e ∧ e ≤ 100) (hT : ∀ j : Int, 0 ≤ j → j < e → 0 ≤ f (121 + j) ∧ f (121 + j) ≤ 127) (h4 : v 4 = a) (h6 : v 6 = e) (hB : PB e (ps v l)) : Ct gS (S := Nat → Int) yX12_figures cX12_figures 3 (some .int) 1 22 0 0 [ar h] [(h, co 12 (mO ad v))] (fun q => q ∈ ([((ad 1), cn 0 936 (wrS f a l))] : aW)) (fun u => (fig (tp f) e (ps v l)).2 = ps u l ∧ kp v u) (fun u => some (ai ((fig (tp f) e (ps v l)).1))) (fun u => [(h, co 12 (mO ad u))]) := by
  refine ct_I RX12 [(0, ar h)] (by decide) rfl (Nat.le_of_ble_eq_true rfl) rfl (fun x hgS hro hret => ?_)
  subst hgS
  have r0 := hro _ (mem_at 0 rfl)
  have hB1 : 0 ≤ v 5 := hB.1
  have hB2 : v 5 ≤ e := hB.2.1
  have hB3 : v 7 = 0 ∨ v 7 = 1 := hB.2.2
  show V x cX12_figures RX12 3 (rmU 1 22 0 0) [(h, co 12 (mO ad v))] 0 [(0, ar h)] [] 0 0
  refine v_aload_n (pc := 0) 0 rfl dX12_figures_0 ?_
  refine v_aload_n (pc := 1) 0 rfl dX12_figures_1 ?_
  refine v_get (pc := 2) (v := ai (v 7)) 7 (Or.inr ⟨0, rfl⟩) fl_12_51_12 rfl dX12_figures_2 ?_
  refine v_if_ne (pc := 5) 22 dX12_figures_5 (by decide) (by unfold iB; omega) (fun c_1 => ?_) (fun c_1 => ?_)
  · skip
    refine v_iconst (pc := 22) dX12_figures_22 ?_
    refine v_goto (pc := 23) 27 dX12_figures_23 (by decide) ?_
    refine v_put (pc := 27) 7 0 rfl fl_12_51_12 ck_12 ft_12_7 okV_z1 (Nat.le_of_ble_eq_true rfl) (ws2 := [(h, co 12 (mO ad (nup v 7 1)))]) rfl dX12_figures_27 ?_
    refine v_iconst (pc := 30) dX12_figures_30 ?_
    refine v_istore_n (pc := 31) (L2 := [(1, ai 0), (0, ar h)]) rfl (by decide) dX12_figures_31 ?_
    refine v_iconst (pc := 32) dX12_figures_32 ?_
    refine v_istore_n (pc := 33) (L2 := [(2, ai 0), (1, ai 0), (0, ar h)]) rfl (by decide) dX12_figures_33 ?_
    refine v_iload_n (pc := 34) 0 rfl dX12_figures_34 ?_
    refine v_iconst (pc := 35) dX12_figures_35 ?_
    refine v_icmp_ge (pc := 36) 97 dX12_figures_36 (by decide) (by unfold iB; omega) (by unfold iB; omega) (fun c_2 => by exfalso; omega) (fun c_2 => ?_)
    refine v_aload_n (pc := 39) 2 rfl dX12_figures_39 ?_
    refine v_get (pc := 40) (v := ai 1) 7 (Or.inr ⟨0, rfl⟩) fl_12_51_12 rfl dX12_figures_40 ?_
    refine v_if_ne (pc := 43) 97 dX12_figures_43 (by decide) (by unfold iB; omega) (fun c_3 => ?_) (fun c_3 => by exfalso; omega)
    refine v_iload_n (pc := 97) 1 rfl dX12_figures_97 ?_
    exact hret (nup v 7 1) _ _ _ _ _ _ (by first | (exfalso; omega) | (refine ⟨?_, ?_⟩; (first | rw [fig_0 (by omega)] | rw [fig_1 (by omega) (by omega)] | rw [fig_2 (by omega) (by omega)]); (repeat' (first | exact kp_rf v | refine kp_5 ?_ | refine kp_7 ?_)))) (congrArg (fun z => some (ai z)) (by first | (exfalso; omega) | ((first | rw [fig_0 (by omega)] | rw [fig_1 (by omega) (by omega)] | rw [fig_2 (by omega) (by omega)]); all_goals (first | rfl | (dsimp only; omega))))) rfl (Nat.le_of_ble_eq_true rfl) (Nat.le_of_ble_eq_true rfl) dX12_figures_98
  · skip
    refine v_aload_n (pc := 8) 0 rfl dX12_figures_8 ?_
    refine v_callV (pc := 9) [] [0] [(h, co 12 (mO ad v))] (As := []) (rest := [ar h]) (c_X12_here ad v h f a e l (v 5) (by first | omega | assumption) (by first | omega | assumption) (by show (v 6) = e; omega) (by rfl) (by first | omega | assumption)) (c := 12) rfl (Or.inr ⟨0, rfl⟩) wl_X12_55 wi_X12_here wv_X12_X12_here_X12_here wk_X12_here wz_X12 md_X12_here rfl (Nat.le_of_ble_eq_true rfl) ⟨Nat.le_of_ble_eq_true rfl, Nat.le_of_ble_eq_true rfl, Nat.le_of_ble_eq_true rfl, Nat.le_of_ble_eq_true rfl⟩ rfl rfl rfl rfl (by decide) (ro_cons (Or.inr ⟨0, rfl, by decide⟩) (ro_cons (Or.inl r0) ro_nil)) dX12_figures_9 (fun u hu => ?_)
    show V x cX12_figures RX12 3 (rmU 1 22 0 0) [(h, co 12 (mO ad v))] 12 [(0, ar h)] [ai (hrp (tp f) e (v 5)), ar h] 0 0
    have hb_4 := hrp_b (p := (v 5)) hT (by omega)
    refine v_bipush (pc := 12) dX12_figures_12 (by decide) ?_
    refine v_bipush (pc := 14) dX12_figures_14 (by decide) ?_
    refine v_callS (pc := 16) [] [0] [(h, co 12 (mO ad v))] (As := [ai (hrp (tp f) e (v 5)), ai 48, ai 57]) (rest := [ar h]) (c_X12_in (hrp (tp f) e (v 5)) 48 57 (by first | omega | assumption) (by first | omega | assumption) (by first | omega | assumption)) wl_X12_41 ws_X12_in wk_X12_in wz_X12 md_X12_in rfl (Nat.le_of_ble_eq_true rfl) ⟨Nat.le_of_ble_eq_true rfl, Nat.le_of_ble_eq_true rfl, Nat.le_of_ble_eq_true rfl, Nat.le_of_ble_eq_true rfl⟩ rfl rfl rfl rfl (by decide) ro_nil dX12_figures_16 (fun u hu => ?_)
    show V x cX12_figures RX12 3 (rmU 1 22 0 0) [(h, co 12 (mO ad v))] 19 [(0, ar h)] [ai (if 48 ≤ (hrp (tp f) e (v 5)) ∧ (hrp (tp f) e (v 5)) ≤ 57 then 1 else 0), ar h] 0 0
    refine v_ifb_ne (pc := 19) 26 dX12_figures_19 (by decide) (fun c_5 => ?_) (fun c_5 => ?_)
    · skip
      refine v_iconst (pc := 26) dX12_figures_26 ?_
      refine v_put (pc := 27) 7 0 rfl fl_12_51_12 ck_12 ft_12_7 okV_z0 (Nat.le_of_ble_eq_true rfl) (ws2 := [(h, co 12 (mO ad (nup v 7 0)))]) rfl dX12_figures_27 ?_
      refine v_iconst (pc := 30) dX12_figures_30 ?_
      refine v_istore_n (pc := 31) (L2 := [(1, ai 0), (0, ar h)]) rfl (by decide) dX12_figures_31 ?_
      refine v_iconst (pc := 32) dX12_figures_32 ?_
      refine v_istore_n (pc := 33) (L2 := [(2, ai 0), (1, ai 0), (0, ar h)]) rfl (by decide) dX12_figures_33 ?_
      refine v_iload_n (pc := 34) 0 rfl dX12_figures_34 ?_
      refine v_iconst (pc := 35) dX12_figures_35 ?_
      refine v_icmp_ge (pc := 36) 97 dX12_figures_36 (by decide) (by unfold iB; omega) (by unfold iB; omega) (fun c_6 => by exfalso; omega) (fun c_6 => ?_)
      refine v_aload_n (pc := 39) 2 rfl dX12_figures_39 ?_
      refine v_get (pc := 40) (v := ai 0) 7 (Or.inr ⟨0, rfl⟩) fl_12_51_12 rfl dX12_figures_40 ?_
      refine v_if_ne (pc := 43) 97 dX12_figures_43 (by decide) (by unfold iB; omega) (fun c_7 => by exfalso; omega) (fun c_7 => ?_)
      refine v_aload_n (pc := 46) 2 rfl dX12_figures_46 ?_
      refine v_callV (pc := 47) [] [0] [(h, co 12 (mO ad (nup v 7 0)))] (As := []) (rest := []) (c_X12_here ad (nup v 7 0) h f a e l (v 5) (by first | omega | assumption) (by first | omega | assumption) (by show (v 6) = e; omega) (by rfl) (by first | omega | assumption)) (c := 12) rfl (Or.inr ⟨0, rfl⟩) wl_X12_55 wi_X12_here wv_X12_X12_here_X12_here wk_X12_here wz_X12 md_X12_here rfl (Nat.le_of_ble_eq_true rfl) ⟨Nat.le_of_ble_eq_true rfl, Nat.le_of_ble_eq_true rfl, Nat.le_of_ble_eq_true rfl, Nat.le_of_ble_eq_true rfl⟩ rfl rfl rfl rfl (by decide) (ro_cons (Or.inr ⟨0, rfl, by decide⟩) (ro_cons (Or.inl r0) ro_nil)) dX12_figures_47 (fun u hu => ?_)
      show V x cX12_figures RX12 3 (rmU 1 22 0 0) [(h, co 12 (mO ad (nup v 7 0)))] 50 [(2, ai 0), (1, ai 0), (0, ar h)] [ai (hrp (tp f) e (v 5))] 0 0
      have hb_8 := hrp_b (p := (v 5)) hT (by omega)
      refine v_bipush (pc := 50) dX12_figures_50 (by decide) ?_
      refine v_bipush (pc := 52) dX12_figures_52 (by decide) ?_
      refine v_callS (pc := 54) [] [0] [(h, co 12 (mO ad (nup v 7 0)))] (As := [ai (hrp (tp f) e (v 5)), ai 48, ai 57]) (rest := []) (c_X12_in (hrp (tp f) e (v 5)) 48 57 (by first | omega | assumption) (by first | omega | assumption) (by first | omega | assumption)) wl_X12_41 ws_X12_in wk_X12_in wz_X12 md_X12_in rfl (Nat.le_of_ble_eq_true rfl) ⟨Nat.le_of_ble_eq_true rfl, Nat.le_of_ble_eq_true rfl, Nat.le_of_ble_eq_true rfl, Nat.le_of_ble_eq_true rfl⟩ rfl rfl rfl rfl (by decide) ro_nil dX12_figures_54 (fun u hu => ?_)
      show V x cX12_figures RX12 3 (rmU 1 22 0 0) [(h, co 12 (mO ad (nup v 7 0)))] 57 [(2, ai 0), (1, ai 0), (0, ar h)] [ai (if 48 ≤ (hrp (tp f) e (v 5)) ∧ (hrp (tp f) e (v 5)) ≤ 57 then 1 else 0)] 0 0
      refine v_ifb_eq (pc := 57) 97 dX12_figures_57 (by decide) (fun c_9 => ?_) (fun c_9 => ?_)
      · skip
        refine v_iload_n (pc := 97) 1 rfl dX12_figures_97 ?_
        exact hret (nup v 7 0) _ _ _ _ _ _ (by first | (exfalso; omega) | (refine ⟨?_, ?_⟩; (first | rw [fig_0 (by omega)] | rw [fig_1 (by omega) (by omega)] | rw [fig_2 (by omega) (by omega)]); (repeat' (first | exact kp_rf v | refine kp_5 ?_ | refine kp_7 ?_)))) (congrArg (fun z => some (ai z)) (by first | (exfalso; omega) | ((first | rw [fig_0 (by omega)] | rw [fig_1 (by omega) (by omega)] | rw [fig_2 (by omega) (by omega)]); all_goals (first | rfl | (dsimp only; omega))))) rfl (Nat.le_of_ble_eq_true rfl) (Nat.le_of_ble_eq_true rfl) dX12_figures_98
      · skip
        refine v_iload_n (pc := 60) 0 rfl dX12_figures_60 ?_
        refine v_if_eq (pc := 61) 68 dX12_figures_61 (by decide) (by unfold iB; omega) (fun c_10 => ?_) (fun c_10 => by exfalso; omega)
        refine v_bipush (pc := 68) dX12_figures_68 (by decide) ?_
        refine v_iload_n (pc := 70) 1 rfl dX12_figures_70 ?_
        refine v_imul (pc := 71) dX12_figures_71 ?_
        refine v_aload_n (pc := 72) 2 rfl dX12_figures_72 ?_
        refine v_callV (pc := 73) [] [0] [(h, co 12 (mO ad (nup v 7 0)))] (As := []) (rest := [ai (10 * 0)]) (c_X12_here ad (nup v 7 0) h f a e l (v 5) (by first | omega | assumption) (by first | omega | assumption) (by show (v 6) = e; omega) (by rfl) (by first | omega | assumption)) (c := 12) rfl (Or.inr ⟨0, rfl⟩) wl_X12_55 wi_X12_here wv_X12_X12_here_X12_here wk_X12_here wz_X12 md_X12_here rfl (Nat.le_of_ble_eq_true rfl) ⟨Nat.le_of_ble_eq_true rfl, Nat.le_of_ble_eq_true rfl, Nat.le_of_ble_eq_true rfl, Nat.le_of_ble_eq_true rfl⟩ rfl rfl rfl rfl (by decide) (ro_cons (Or.inr ⟨0, rfl, by decide⟩) (ro_cons (Or.inl r0) ro_nil)) dX12_figures_73 (fun u hu => ?_)
        show V x cX12_figures RX12 3 (rmU 1 22 0 0) [(h, co 12 (mO ad (nup v 7 0)))] 76 [(2, ai 0), (1, ai 0), (0, ar h)] [ai (hrp (tp f) e (v 5)), ai (10 * 0)] 0 0
        have hb_11 := hrp_b (p := (v 5)) hT (by omega)
        refine v_iadd (pc := 76) dX12_figures_76 ?_
        refine v_bipush (pc := 77) dX12_figures_77 (by decide) ?_
        refine v_isub (pc := 79) dX12_figures_79 ?_
        refine v_istore_n (pc := 80) (L2 := [(1, ai (((10 * 0) + (hrp (tp f) e (v 5))) - 48)), (2, ai 0), (0, ar h)]) rfl (by decide) dX12_figures_80 ?_
        refine v_aload_n (pc := 81) 2 rfl dX12_figures_81 ?_
        refine v_dup (pc := 82) rfl dX12_figures_82 ?_
        refine v_get (pc := 83) (v := ai (v 5)) 5 (Or.inr ⟨0, rfl⟩) fl_12_45_12 rfl dX12_figures_83 ?_
        refine v_iconst (pc := 86) dX12_figures_86 ?_
        refine v_iadd (pc := 87) dX12_figures_87 ?_
        refine v_put (pc := 88) 5 0 rfl fl_12_45_12 ck_12 ft_12_5 (okV_i _) (Nat.le_of_ble_eq_true rfl) (ws2 := [(h, co 12 (mO ad (nup (nup v 7 0) 5 ((v 5) + 1))))]) rfl dX12_figures_88 ?_
        refine v_iinc (pc := 91) 1 (L2 := [(2, ai (0 + 1)), (1, ai (((10 * 0) + (hrp (tp f) e (v 5))) - 48)), (0, ar h)]) rfl rfl (by decide) dX12_figures_91 ?_
        refine v_goto (pc := 94) 34 dX12_figures_94 (by decide) ?_
        refine v_iload_n (pc := 34) 0 rfl dX12_figures_34 ?_
        refine v_iconst (pc := 35) dX12_figures_35 ?_
        refine v_icmp_ge (pc := 36) 97 dX12_figures_36 (by decide) (by unfold iB; omega) (by unfold iB; omega) (fun c_12 => by exfalso; omega) (fun c_12 => ?_)
        refine v_aload_n (pc := 39) 2 rfl dX12_figures_39 ?_
        refine v_get (pc := 40) (v := ai 0) 7 (Or.inr ⟨0, rfl⟩) fl_12_51_12 rfl dX12_figures_40 ?_
        refine v_if_ne (pc := 43) 97 dX12_figures_43 (by decide) (by unfold iB; omega) (fun c_13 => by exfalso; omega) (fun c_13 => ?_)
        refine v_aload_n (pc := 46) 2 rfl dX12_figures_46 ?_
        refine v_callV (pc := 47) [] [0] [(h, co 12 (mO ad (nup (nup v 7 0) 5 ((v 5) + 1))))] (As := []) (rest := []) (c_X12_here ad (nup (nup v 7 0) 5 ((v 5) + 1)) h f a e l ((v 5) + 1) (by first | omega | assumption) (by first | omega | assumption) (by show (v 6) = e; omega) (by rfl) (by first | omega | assumption)) (c := 12) rfl (Or.inr ⟨0, rfl⟩) wl_X12_55 wi_X12_here wv_X12_X12_here_X12_here wk_X12_here wz_X12 md_X12_here rfl (Nat.le_of_ble_eq_true rfl) ⟨Nat.le_of_ble_eq_true rfl, Nat.le_of_ble_eq_true rfl, Nat.le_of_ble_eq_true rfl, Nat.le_of_ble_eq_true rfl⟩ rfl rfl rfl rfl (by decide) (ro_cons (Or.inr ⟨0, rfl, by decide⟩) (ro_cons (Or.inl r0) ro_nil)) dX12_figures_47 (fun u hu => ?_)
        show V x cX12_figures RX12 3 (rmU 1 22 0 0) [(h, co 12 (mO ad (nup (nup v 7 0) 5 ((v 5) + 1))))] 50 [(2, ai (0 + 1)), (1, ai (((10 * 0) + (hrp (tp f) e (v 5))) - 48)), (0, ar h)] [ai (hrp (tp f) e ((v 5) + 1))] 0 0
        have hb_14 := hrp_b (p := ((v 5) + 1)) hT (by omega)
        refine v_bipush (pc := 50) dX12_figures_50 (by decide) ?_
        refine v_bipush (pc := 52) dX12_figures_52 (by decide) ?_
        refine v_callS (pc := 54) [] [0] [(h, co 12 (mO ad (nup (nup v 7 0) 5 ((v 5) + 1))))] (As := [ai (hrp (tp f) e ((v 5) + 1)), ai 48, ai 57]) (rest := []) (c_X12_in (hrp (tp f) e ((v 5) + 1)) 48 57 (by first | omega | assumption) (by first | omega | assumption) (by first | omega | assumption)) wl_X12_41 ws_X12_in wk_X12_in wz_X12 md_X12_in rfl (Nat.le_of_ble_eq_true rfl) ⟨Nat.le_of_ble_eq_true rfl, Nat.le_of_ble_eq_true rfl, Nat.le_of_ble_eq_true rfl, Nat.le_of_ble_eq_true rfl⟩ rfl rfl rfl rfl (by decide) ro_nil dX12_figures_54 (fun u hu => ?_)
        show V x cX12_figures RX12 3 (rmU 1 22 0 0) [(h, co 12 (mO ad (nup (nup v 7 0) 5 ((v 5) + 1))))] 57 [(2, ai (0 + 1)), (1, ai (((10 * 0) + (hrp (tp f) e (v 5))) - 48)), (0, ar h)] [ai (if 48 ≤ (hrp (tp f) e ((v 5) + 1)) ∧ (hrp (tp f) e ((v 5) + 1)) ≤ 57 then 1 else 0)] 0 0
        refine v_ifb_eq (pc := 57) 97 dX12_figures_57 (by decide) (fun c_15 => ?_) (fun c_15 => ?_)
        · skip
          refine v_iload_n (pc := 97) 1 rfl dX12_figures_97 ?_
          exact hret (nup (nup v 7 0) 5 ((v 5) + 1)) _ _ _ _ _ _ (by first | (exfalso; omega) | (refine ⟨?_, ?_⟩; (first | rw [fig_0 (by omega)] | rw [fig_1 (by omega) (by omega)] | rw [fig_2 (by omega) (by omega)]); (repeat' (first | exact kp_rf v | refine kp_5 ?_ | refine kp_7 ?_)))) (congrArg (fun z => some (ai z)) (by first | (exfalso; omega) | ((first | rw [fig_0 (by omega)] | rw [fig_1 (by omega) (by omega)] | rw [fig_2 (by omega) (by omega)]); all_goals (first | rfl | (dsimp only; omega))))) rfl (Nat.le_of_ble_eq_true rfl) (Nat.le_of_ble_eq_true rfl) dX12_figures_98
        · skip
          refine v_iload_n (pc := 60) 0 rfl dX12_figures_60 ?_
          refine v_if_eq (pc := 61) 68 dX12_figures_61 (by decide) (by unfold iB; omega) (fun c_16 => by exfalso; omega) (fun c_16 => ?_)
          refine v_iload_n (pc := 64) 1 rfl dX12_figures_64 ?_
          refine v_if_le (pc := 65) 97 dX12_figures_65 (by decide) (by unfold iB; omega) (fun c_17 => ?_) (fun c_17 => ?_)
          · skip
            refine v_iload_n (pc := 97) 1 rfl dX12_figures_97 ?_
            exact hret (nup (nup v 7 0) 5 ((v 5) + 1)) _ _ _ _ _ _ (by first | (exfalso; omega) | (refine ⟨?_, ?_⟩; (first | rw [fig_0 (by omega)] | rw [fig_1 (by omega) (by omega)] | rw [fig_2 (by omega) (by omega)]); (repeat' (first | exact kp_rf v | refine kp_5 ?_ | refine kp_7 ?_)))) (congrArg (fun z => some (ai z)) (by first | (exfalso; omega) | ((first | rw [fig_0 (by omega)] | rw [fig_1 (by omega) (by omega)] | rw [fig_2 (by omega) (by omega)]); all_goals (first | rfl | (dsimp only; omega))))) rfl (Nat.le_of_ble_eq_true rfl) (Nat.le_of_ble_eq_true rfl) dX12_figures_98
          · skip
            refine v_bipush (pc := 68) dX12_figures_68 (by decide) ?_
            refine v_iload_n (pc := 70) 1 rfl dX12_figures_70 ?_
            refine v_imul (pc := 71) dX12_figures_71 ?_
            refine v_aload_n (pc := 72) 2 rfl dX12_figures_72 ?_
            refine v_callV (pc := 73) [] [0] [(h, co 12 (mO ad (nup (nup v 7 0) 5 ((v 5) + 1))))] (As := []) (rest := [ai (10 * (((10 * 0) + (hrp (tp f) e (v 5))) - 48))]) (c_X12_here ad (nup (nup v 7 0) 5 ((v 5) + 1)) h f a e l ((v 5) + 1) (by first | omega | assumption) (by first | omega | assumption) (by show (v 6) = e; omega) (by rfl) (by first | omega | assumption)) (c := 12) rfl (Or.inr ⟨0, rfl⟩) wl_X12_55 wi_X12_here wv_X12_X12_here_X12_here wk_X12_here wz_X12 md_X12_here rfl (Nat.le_of_ble_eq_true rfl) ⟨Nat.le_of_ble_eq_true rfl, Nat.le_of_ble_eq_true rfl, Nat.le_of_ble_eq_true rfl, Nat.le_of_ble_eq_true rfl⟩ rfl rfl rfl rfl (by decide) (ro_cons (Or.inr ⟨0, rfl, by decide⟩) (ro_cons (Or.inl r0) ro_nil)) dX12_figures_73 (fun u hu => ?_)
            show V x cX12_figures RX12 3 (rmU 1 22 0 0) [(h, co 12 (mO ad (nup (nup v 7 0) 5 ((v 5) + 1))))] 76 [(2, ai (0 + 1)), (1, ai (((10 * 0) + (hrp (tp f) e (v 5))) - 48)), (0, ar h)] [ai (hrp (tp f) e ((v 5) + 1)), ai (10 * (((10 * 0) + (hrp (tp f) e (v 5))) - 48))] 0 0
            have hb_18 := hrp_b (p := ((v 5) + 1)) hT (by omega)
            refine v_iadd (pc := 76) dX12_figures_76 ?_
            refine v_bipush (pc := 77) dX12_figures_77 (by decide) ?_
            refine v_isub (pc := 79) dX12_figures_79 ?_
            refine v_istore_n (pc := 80) (L2 := [(1, ai (((10 * (((10 * 0) + (hrp (tp f) e (v 5))) - 48)) + (hrp (tp f) e ((v 5) + 1))) - 48)), (2, ai (0 + 1)), (0, ar h)]) rfl (by decide) dX12_figures_80 ?_
            refine v_aload_n (pc := 81) 2 rfl dX12_figures_81 ?_
            refine v_dup (pc := 82) rfl dX12_figures_82 ?_
            refine v_get (pc := 83) (v := ai ((v 5) + 1)) 5 (Or.inr ⟨0, rfl⟩) fl_12_45_12 rfl dX12_figures_83 ?_
            refine v_iconst (pc := 86) dX12_figures_86 ?_
            refine v_iadd (pc := 87) dX12_figures_87 ?_
            refine v_put (pc := 88) 5 0 rfl fl_12_45_12 ck_12 ft_12_5 (okV_i _) (Nat.le_of_ble_eq_true rfl) (ws2 := [(h, co 12 (mO ad (nup (nup (nup v 7 0) 5 ((v 5) + 1)) 5 (((v 5) + 1) + 1))))]) rfl dX12_figures_88 ?_
            refine v_iinc (pc := 91) 1 (L2 := [(2, ai ((0 + 1) + 1)), (1, ai (((10 * (((10 * 0) + (hrp (tp f) e (v 5))) - 48)) + (hrp (tp f) e ((v 5) + 1))) - 48)), (0, ar h)]) rfl rfl (by decide) dX12_figures_91 ?_
            refine v_goto (pc := 94) 34 dX12_figures_94 (by decide) ?_
            refine v_iload_n (pc := 34) 0 rfl dX12_figures_34 ?_
            refine v_iconst (pc := 35) dX12_figures_35 ?_
            refine v_icmp_ge (pc := 36) 97 dX12_figures_36 (by decide) (by unfold iB; omega) (by unfold iB; omega) (fun c_19 => ?_) (fun c_19 => by exfalso; omega)
            refine v_iload_n (pc := 97) 1 rfl dX12_figures_97 ?_
            exact hret (nup (nup (nup v 7 0) 5 ((v 5) + 1)) 5 (((v 5) + 1) + 1)) _ _ _ _ _ _ (by first | (exfalso; omega) | (refine ⟨?_, ?_⟩; (first | rw [fig_0 (by omega)] | rw [fig_1 (by omega) (by omega)] | rw [fig_2 (by omega) (by omega)]); (repeat' (first | exact kp_rf v | refine kp_5 ?_ | refine kp_7 ?_)))) (congrArg (fun z => some (ai z)) (by first | (exfalso; omega) | ((first | rw [fig_0 (by omega)] | rw [fig_1 (by omega) (by omega)] | rw [fig_2 (by omega) (by omega)]); all_goals (first | rfl | (dsimp only; omega))))) rfl (Nat.le_of_ble_eq_true rfl) (Nat.le_of_ble_eq_true rfl) dX12_figures_98
    · skip
      refine v_iconst (pc := 22) dX12_figures_22 ?_
      refine v_goto (pc := 23) 27 dX12_figures_23 (by decide) ?_
      refine v_put (pc := 27) 7 0 rfl fl_12_51_12 ck_12 ft_12_7 okV_z1 (Nat.le_of_ble_eq_true rfl) (ws2 := [(h, co 12 (mO ad (nup v 7 1)))]) rfl dX12_figures_27 ?_
      refine v_iconst (pc := 30) dX12_figures_30 ?_
      refine v_istore_n (pc := 31) (L2 := [(1, ai 0), (0, ar h)]) rfl (by decide) dX12_figures_31 ?_
      refine v_iconst (pc := 32) dX12_figures_32 ?_
      refine v_istore_n (pc := 33) (L2 := [(2, ai 0), (1, ai 0), (0, ar h)]) rfl (by decide) dX12_figures_33 ?_
      refine v_iload_n (pc := 34) 0 rfl dX12_figures_34 ?_
      refine v_iconst (pc := 35) dX12_figures_35 ?_
      refine v_icmp_ge (pc := 36) 97 dX12_figures_36 (by decide) (by unfold iB; omega) (by unfold iB; omega) (fun c_20 => by exfalso; omega) (fun c_20 => ?_)
      refine v_aload_n (pc := 39) 2 rfl dX12_figures_39 ?_
      refine v_get (pc := 40) (v := ai 1) 7 (Or.inr ⟨0, rfl⟩) fl_12_51_12 rfl dX12_figures_40 ?_
      refine v_if_ne (pc := 43) 97 dX12_figures_43 (by decide) (by unfold iB; omega) (fun c_21 => ?_) (fun c_21 => by exfalso; omega)
      refine v_iload_n (pc := 97) 1 rfl dX12_figures_97 ?_
      exact hret (nup v 7 1) _ _ _ _ _ _ (by first | (exfalso; omega) | (refine ⟨?_, ?_⟩; (first | rw [fig_0 (by omega)] | rw [fig_1 (by omega) (by omega)] | rw [fig_2 (by omega) (by omega)]); (repeat' (first | exact kp_rf v | refine kp_5 ?_ | refine kp_7 ?_)))) (congrArg (fun z => some (ai z)) (by first | (exfalso; omega) | ((first | rw [fig_0 (by omega)] | rw [fig_1 (by omega) (by omega)] | rw [fig_2 (by omega) (by omega)]); all_goals (first | rfl | (dsimp only; omega))))) rfl (Nat.le_of_ble_eq_true rfl) (Nat.le_of_ble_eq_true rfl) dX12_figures_98
set_option maxHeartbeats 4000000 in
set_option maxRecDepth 100000 in
theorem c_X12_among {gS : sG} (ad : Nat → Nat) (v : Nat → Int) (h : Nat) (f : Int → Int) (a : Int) (e : Int) (l : List Int) (i : Nat) (ha : 0 ≤ a ∧ a ≤ 4) (he : 0 ≤ e ∧ e ≤ 100) (hT : ∀ j : Int, 0 ≤ j → j < e → 0 ≤ f (121 + j) ∧ f (121 + j) ≤ 127) (h4 : v 4 = a) (h6 : v 6 = e) (hB : PB e (ps v l)) (hi : i < 13) : Ct gS (S := Nat → Int) yX12_among cX12_among 3 (some .int) 4 85 0 0 [ar h, ar (lK gS i)] [(h, co 12 (mO ad v))] (fun q => q ∈ ([((ad 1), cn 0 936 (wrS f a l))] : aW)) (fun u => (am (tp f) e i (ps v l)).2 = ps u l ∧ kp v u) (fun u => some (ai ((am (tp f) e i (ps v l)).1))) (fun u => [(h, co 12 (mO ad u))]) := by
  refine ct_I RX12 [(0, ar h), (1, ar (lK gS i))] (by decide) rfl (Nat.le_of_ble_eq_true rfl) rfl (fun x hgS hro hret => ?_)
  subst hgS
  have r0 := hro _ (mem_at 0 rfl)
  have hB1 : 0 ≤ v 5 := hB.1
  have hB2 : v 5 ≤ e := hB.2.1
  have hB3 : v 7 = 0 ∨ v 7 = 1 := hB.2.2
  have hlb := len_b hi
  show V x cX12_among RX12 3 (rmU 4 85 0 0) [(h, co 12 (mO ad v))] 0 [(0, ar h), (1, ar (lK (xg x) i))] [] 0 0
  refine v_iconst (pc := 0) dX12_among_0 ?_
  refine v_istore_n (pc := 1) (L2 := [(2, ai 0), (0, ar h), (1, ar (lK (xg x) i))]) rfl (by decide) dX12_among_1 ?_
  have lp2 : ∀ (mm : Nat) (k : Int), (lenS i - k).toNat = mm → (0 ≤ k ∧ k ≤ lenS i) → (fdx i (hrp (tp f) e (v 5)) 0 (lenS i).toNat = fdx i (hrp (tp f) e (v 5)) k.toNat ((lenS i).toNat - k.toNat)) → V x cX12_among RX12 3 (rmU 4 85 0 0) [(h, co 12 (mO ad v))] 2 [(0, ar h), (1, ar (lK (xg x) i)), (2, ai k)] [] 0 0 := by
    intro mm
    induction mm using Nat.strongRecOn with
    | _ mm ih =>
      intro k hmm hk hf
      refine v_iload_n (pc := 2) 2 rfl dX12_among_2 ?_
      refine v_aload_n (pc := 3) 1 rfl dX12_among_3 ?_
      refine v_callT (pc := 4) [] [0] [(h, co 12 (mO ad v))] (As := []) (rest := [ai k]) (c_J0_length_8abf5 i (by first | omega | assumption)) (by first | omega | assumption) wl_X12_59 wi_J0_length_8abf5 wv_J0_length_8abf5 wk_J0_length_8abf5 wz_J0 md_J0_length_8abf5 rfl (Nat.le_of_ble_eq_true rfl) ⟨Nat.le_of_ble_eq_true rfl, Nat.le_of_ble_eq_true rfl, Nat.le_of_ble_eq_true rfl, Nat.le_of_ble_eq_true rfl⟩ rfl rfl rfl rfl (by decide) ro_nil dX12_among_4 (fun u hu => ?_)
      show V x cX12_among RX12 3 (rmU 4 85 0 0) [(h, co 12 (mO ad v))] 7 [(0, ar h), (1, ar (lK (xg x) i)), (2, ai k)] [ai (lenS i), ai k] 0 0
      refine v_icmp_ge (pc := 7) 40 dX12_among_7 (by decide) (by unfold iB; omega) (by unfold iB; omega) (fun c_1 => ?_) (fun c_1 => ?_)
      · skip
        refine v_iconst (pc := 40) dX12_among_40 ?_
        have ham := am_n (t := tp f) (e := e) (i := i) (v := v) (l := l) (by rw [hf, show (lenS i).toNat - k.toNat = 0 by omega, fdx_0])
        exact hret (v) _ _ _ _ _ _ (by rw [ham]; exact ⟨rfl, kp_rf v⟩) (congrArg (fun z => some (ai z)) (by rw [ham])) rfl (Nat.le_of_ble_eq_true rfl) (Nat.le_of_ble_eq_true rfl) dX12_among_41
      · skip
        refine v_aload_n (pc := 10) 0 rfl dX12_among_10 ?_
        refine v_callV (pc := 11) [] [0] [(h, co 12 (mO ad v))] (As := []) (rest := []) (c_X12_here ad v h f a e l (v 5) (by first | omega | assumption) (by first | omega | assumption) (by show (v 6) = e; omega) (by rfl) (by first | omega | assumption)) (c := 12) rfl (Or.inr ⟨0, rfl⟩) wl_X12_55 wi_X12_here wv_X12_X12_here_X12_here wk_X12_here wz_X12 md_X12_here rfl (Nat.le_of_ble_eq_true rfl) ⟨Nat.le_of_ble_eq_true rfl, Nat.le_of_ble_eq_true rfl, Nat.le_of_ble_eq_true rfl, Nat.le_of_ble_eq_true rfl⟩ rfl rfl rfl rfl (by decide) (ro_cons (Or.inr ⟨0, rfl, by decide⟩) (ro_cons (Or.inl r0) ro_nil)) dX12_among_11 (fun u hu => ?_)
        show V x cX12_among RX12 3 (rmU 4 85 0 0) [(h, co 12 (mO ad v))] 14 [(0, ar h), (1, ar (lK (xg x) i)), (2, ai k)] [ai (hrp (tp f) e (v 5))] 0 0
        have hb_2 := hrp_b (p := (v 5)) hT (by omega)
        refine v_aload_n (pc := 14) 1 rfl dX12_among_14 ?_
        refine v_iload_n (pc := 15) 2 rfl dX12_among_15 ?_
        refine v_callT (pc := 16) [] [0] [(h, co 12 (mO ad v))] (As := [ai k]) (rest := [ai (hrp (tp f) e (v 5))]) (c_J0_charAt_5068e i k (by first | omega | assumption) (by first | omega | assumption)) (by first | omega | assumption) wl_X12_64 wi_J0_charAt_5068e wv_J0_charAt_5068e wk_J0_charAt_5068e wz_J0 md_J0_charAt_5068e rfl (Nat.le_of_ble_eq_true rfl) ⟨Nat.le_of_ble_eq_true rfl, Nat.le_of_ble_eq_true rfl, Nat.le_of_ble_eq_true rfl, Nat.le_of_ble_eq_true rfl⟩ rfl rfl rfl rfl (by decide) ro_nil dX12_among_16 (fun u hu => ?_)
        show V x cX12_among RX12 3 (rmU 4 85 0 0) [(h, co 12 (mO ad v))] 19 [(0, ar h), (1, ar (lK (xg x) i)), (2, ai k)] [ai (chS i k), ai (hrp (tp f) e (v 5))] 0 0
        have hcb := ch_b hi (k := k) (by omega)
        refine v_icmp_ne (pc := 19) 34 dX12_among_19 (by decide) (by unfold iB; omega) (by unfold iB; omega) (fun c_3 => ?_) (fun c_3 => ?_)
        · skip
          refine v_iinc (pc := 34) 2 (L2 := [(2, ai (k + 1)), (0, ar h), (1, ar (lK (xg x) i))]) rfl rfl (by decide) dX12_among_34 ?_
          refine v_goto (pc := 37) 2 dX12_among_37 (by decide) ?_
          refine v_sub (L2 := [(0, ar h), (1, ar (lK (xg x) i)), (2, ai (k + 1))]) [1, 2, 0] rfl ?_
          exact ih _ (by omega) (k + 1) rfl (by omega) (by rw [hf, show (lenS i).toNat - k.toNat = ((lenS i).toNat - (k + 1).toNat) + 1 by omega, fdx_f (by rw [show ((k.toNat : Nat) : Int) = k by omega]; omega), show k.toNat + 1 = (k + 1).toNat by omega])
        · skip
          refine v_aload_n (pc := 22) 0 rfl dX12_among_22 ?_
          refine v_dup (pc := 23) rfl dX12_among_23 ?_
          refine v_get (pc := 24) (v := ai (v 5)) 5 (Or.inr ⟨0, rfl⟩) fl_12_45_12 rfl dX12_among_24 ?_
          refine v_iconst (pc := 27) dX12_among_27 ?_
          refine v_iadd (pc := 28) dX12_among_28 ?_
          refine v_put (pc := 29) 5 0 rfl fl_12_45_12 ck_12 ft_12_5 (okV_i _) (Nat.le_of_ble_eq_true rfl) (ws2 := [(h, co 12 (mO ad (nup v 5 ((v 5) + 1))))]) rfl dX12_among_29 ?_
          refine v_iload_n (pc := 32) 2 rfl dX12_among_32 ?_
          have ham := am_y (t := tp f) (e := e) (i := i) (v := v) (l := l) (k := k) (by rw [hf, show (lenS i).toNat - k.toNat = ((lenS i).toNat - (k + 1).toNat) + 1 by omega, fdx_t (by rw [show ((k.toNat : Nat) : Int) = k by omega]; omega)]; omega) (by omega)
          exact hret ((nup v 5 ((v 5) + 1))) _ _ _ _ _ _ (by rw [ham]; exact ⟨rfl, kp_5 (kp_rf v)⟩) (congrArg (fun z => some (ai z)) (by rw [ham])) rfl (Nat.le_of_ble_eq_true rfl) (Nat.le_of_ble_eq_true rfl) dX12_among_33
  refine v_sub (L2 := [(0, ar h), (1, ar (lK (xg x) i)), (2, ai 0)]) [1, 2, 0] rfl ?_
  exact lp2 _ 0 rfl (by omega) (by rfl)
set_option maxHeartbeats 4000000 in
set_option maxRecDepth 100000 in
theorem c_X12_emits {gS : sG} (ad : Nat → Nat) (v : Nat → Int) (h : Nat) (f : Int → Int) (a : Int) (e : Int) (l : List Int) (z : Int) (ha : 0 ≤ a ∧ a ≤ 4) (he : 0 ≤ e ∧ e ≤ 100) (hT : ∀ j : Int, 0 ≤ j → j < e → 0 ≤ f (121 + j) ∧ f (121 + j) ≤ 127) (h4 : v 4 = a) (h6 : v 6 = e) (hB : PB e (ps v l)) (hlz : (l.length : Int) ≤ 139) : Ct gS (S := List Int) yX12_emits cX12_emits 2 none 0 0 0 0 [ar h, ai z] [((ad 1), cn 0 936 (wrS f a l))] (fun q => q ∈ ([(h, co 12 (mO ad v))] : aW)) (fun u => emi z (ps v l) = ps v u) (fun u => none) (fun u => [((ad 1), cn 0 936 (wrS f a u))]) := by
  refine ct_V RX12 [(0, ar h), (1, ai z)] (by decide) rfl (Nat.le_of_ble_eq_true rfl) rfl (fun x hgS hnm hro hret => ?_)
  subst hgS
  have r0 := hro _ (mem_at 0 rfl)
  have hB1 : 0 ≤ v 5 := hB.1
  have hB2 : v 5 ≤ e := hB.2.1
  have hB3 : v 7 = 0 ∨ v 7 = 1 := hB.2.2
  have hwl : wrS f a l (231 + v 4) = (l.length : Int) := by rw [h4]; exact wrS_len
  show V x cX12_emits RX12 2 (rmU 0 0 0 0) [((ad 1), cn 0 936 (wrS f a l))] 0 [(0, ar h), (1, ai z)] [] 0 0
  refine v_aload_n (pc := 0) 0 rfl dX12_emits_0 ?_
  refine v_get (pc := 1) (v := ai (v 7)) 7 (Or.inl r0) fl_12_51_12 rfl dX12_emits_1 ?_
  refine v_if_ne (pc := 4) 56 dX12_emits_4 (by decide) (by unfold iB; omega) (fun c_1 => ?_) (fun c_1 => ?_)
  · skip
    exact hret l _ _ _ _ _ (by first | exact emi_y (by omega) | exact emi_n (by omega)) rfl rfl (Nat.le_of_ble_eq_true rfl) (Nat.le_of_ble_eq_true rfl) dX12_emits_56
  · skip
    refine v_aload_n (pc := 7) 0 rfl dX12_emits_7 ?_
    refine v_get (pc := 8) (v := ar (ad 1)) 1 (Or.inl r0) fl_12_9_12 rfl dX12_emits_8 ?_
    refine v_sipush (pc := 11) dX12_emits_11 (by decide) ?_
    refine v_sipush (pc := 14) dX12_emits_14 (by decide) ?_
    refine v_aload_n (pc := 17) 0 rfl dX12_emits_17 ?_
    refine v_get (pc := 18) (v := ai (v 4)) 4 (Or.inl r0) fl_12_72_12 rfl dX12_emits_18 ?_
    refine v_imul (pc := 21) dX12_emits_21 ?_
    refine v_iadd (pc := 22) dX12_emits_22 ?_
    refine v_aload_n (pc := 23) 0 rfl dX12_emits_23 ?_
    refine v_get (pc := 24) (v := ar (ad 1)) 1 (Or.inl r0) fl_12_9_12 rfl dX12_emits_24 ?_
    refine v_sipush (pc := 27) dX12_emits_27 (by decide) ?_
    refine v_aload_n (pc := 30) 0 rfl dX12_emits_30 ?_
    refine v_get (pc := 31) (v := ai (v 4)) 4 (Or.inl r0) fl_12_72_12 rfl dX12_emits_31 ?_
    refine v_iadd (pc := 34) dX12_emits_34 ?_
    refine v_iald (pc := 35) (Or.inr ⟨0, rfl⟩) (by omega) (by omega) (by decide) dX12_emits_35 ?_
    refine v_iadd (pc := 36) dX12_emits_36 ?_
    refine v_iload_n (pc := 37) 1 rfl dX12_emits_37 ?_
    refine v_iast (pc := 38) 0 rfl (by omega) (by omega) (by decide) (ws2 := [((ad 1), cn 0 936 (aup (wrS f a l) ((236 + (140 * (v 4))) + ((wrS f a l) (231 + (v 4)))) z))]) rfl dX12_emits_38 ?_
    refine v_aload_n (pc := 39) 0 rfl dX12_emits_39 ?_
    refine v_get (pc := 40) (v := ar (ad 1)) 1 (Or.inl r0) fl_12_9_12 rfl dX12_emits_40 ?_
    refine v_sipush (pc := 43) dX12_emits_43 (by decide) ?_
    refine v_aload_n (pc := 46) 0 rfl dX12_emits_46 ?_
    refine v_get (pc := 47) (v := ai (v 4)) 4 (Or.inl r0) fl_12_72_12 rfl dX12_emits_47 ?_
    refine v_iadd (pc := 50) dX12_emits_50 ?_
    refine v_dup2 (pc := 51) rfl rfl dX12_emits_51 ?_
    refine v_iald (pc := 52) (Or.inr ⟨0, rfl⟩) (by omega) (by omega) (by decide) dX12_emits_52 ?_
    refine v_iconst (pc := 53) dX12_emits_53 ?_
    refine v_iadd (pc := 54) dX12_emits_54 ?_
    refine v_iast (pc := 55) 0 rfl (by omega) (by omega) (by decide) (ws2 := [((ad 1), cn 0 936 (aup (aup (wrS f a l) ((236 + (140 * (v 4))) + ((wrS f a l) (231 + (v 4)))) z) (231 + (v 4)) (((aup (wrS f a l) ((236 + (140 * (v 4))) + ((wrS f a l) (231 + (v 4)))) z) (231 + (v 4))) + 1)))]) rfl dX12_emits_55 ?_
    refine v_ws (ws2 := [((ad 1), cn 0 936 (wrS f a (l ++ [z])))]) (by rw [hwl, h4, wrS_em2 ha]) ?_
    exact hret (l ++ [z]) _ _ _ _ _ (by first | exact emi_y (by omega) | exact emi_n (by omega)) rfl rfl (Nat.le_of_ble_eq_true rfl) (Nat.le_of_ble_eq_true rfl) dX12_emits_56
