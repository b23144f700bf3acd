set_option maxHeartbeats 4000000 in
set_option maxRecDepth 100000 in
theorem c_X6_clause {gS : sG} (h : Nat) (tap : Nat) (e : Int) (hq : Nat) (t : Int → Int) (s : PS) (wi : Int) (pa : Int) (ns : Int) (us : Int) (sla : Nat) (ena : Nat) (cda : Nat) (sl : Int → Int) (en : Int → Int) (cd : Int → Int) (hB : PB e s) (he : 0 ≤ e ∧ e ≤ 100) (htb : ∀ j : Int, 0 ≤ j → j < e → 0 ≤ t j ∧ t j ≤ 127) (hIE : IE s ns us sl en cd) (h0 : s.2.1 = 0) (hns : ns ≤ 9) : Ct gS (S := Int × Int × Int × Int × (Int → Int) × (Int → Int) × (Int → Int)) yX6_clause cX6_clause 3 none 23 509 0 0 [ar h] [(h, co 6 (rdL tap e hq s)), (hq, co 3 [ai wi, ai pa, ai ns, ai us, ar sla, ar ena, ar cda]), (cda, cn 0 100 cd), (sla, cn 0 10 sl), (ena, cn 0 10 en)] (fun q => q ∈ ([(tap, cn 0 100 t)] : aW)) (fun u => IE (cls t e (s, wi, pa)).1 u.2.2.1 u.2.2.2.1 u.2.2.2.2.1 u.2.2.2.2.2.1 u.2.2.2.2.2.2 ∧ u.2.2.1 ≤ ns + 1 ∧ ((cls t e (s, wi, pa)).1.2.1 = 0 → u.1 = (cls t e (s, wi, pa)).2.1 ∧ u.2.1 = (cls t e (s, wi, pa)).2.2)) (fun u => none) (fun u => [(h, co 6 (rdL tap e hq ((cls t e (s, wi, pa)).1))), (hq, co 3 [ai u.1, ai u.2.1, ai u.2.2.1, ai u.2.2.2.1, ar sla, ar ena, ar cda]), (cda, cn 0 100 u.2.2.2.2.2.2), (sla, cn 0 10 u.2.2.2.2.1), (ena, cn 0 10 u.2.2.2.2.2.1)]) := by
  refine ct_V RX6 [(0, ar h)] (by decide) rfl (Nat.le_of_ble_eq_true rfl) rfl (fun x hgS hnm hro hret => ?_)
  subst hgS
  have r0 := hro _ (mem_at 0 rfl)
  obtain ⟨hB1, hB2, hB3⟩ := id hB
  have hfl := flt_c hB
  have hhr := hr_v (t := t) (e := e) (s := s)
  have hub := hIE.1
  show V x cX6_clause RX6 3 (rmU 23 509 0 0) [(h, co 6 (rdL tap e hq s)), (hq, co 3 [ai wi, ai pa, ai ns, ai us, ar sla, ar ena, ar cda]), (cda, cn 0 100 cd), (sla, cn 0 10 sl), (ena, cn 0 10 en)] 0 [(0, ar h)] [] 0 0
  rcases (show (hr t e s = 119) ∨ (hr t e s = 112) ∨ (hr t e s = 115) ∨ (hr t e s = 103) ∨ (¬ hr t e s = 119 ∧ ¬ hr t e s = 112 ∧ ¬ hr t e s = 115 ∧ ¬ hr t e s = 103) by omega) with hw | hw | hw | hw | hw
  · skip
    refine v_aload_n (pc := 0) 0 rfl dX6_clause_0 ?_
    refine v_ldcS (pc := 1) (q := ("MatFlip$Reader", 48, "wpsg", 0)) (List.mem_of_getElem? (i := 0) rfl) rfl dX6_clause_1 ?_
    refine v_callV (pc := 3) [0] [1, 2, 3, 4] [(hq, co 3 [ai wi, ai pa, ai ns, ai us, ar sla, ar ena, ar cda]), (cda, cn 0 100 cd), (sla, cn 0 10 sl), (ena, cn 0 10 en)] (As := [ar (lK (xg x) 0)]) (rest := []) (c_X6_takesOneOf h tap e hq t s 0 (by assumption) (by first | omega | assumption) (by assumption) (by decide)) (c := 6) rfl (Or.inr ⟨0, rfl⟩) wl_X6_50 wi_X6_takesOneOf wv_X6_X6_takesOneOf_X6_takesOneOf wk_X6_takesOneOf wz_X6 md_X6_takesOneOf rfl (Nat.le_of_ble_eq_true rfl) ⟨Nat.le_of_ble_eq_true rfl, Nat.le_of_ble_eq_true rfl, Nat.le_of_ble_eq_true rfl, Nat.le_of_ble_eq_true rfl⟩ rfl rfl rfl rfl (by decide) (ro_cons (Or.inl r0) ro_nil) dX6_clause_3 (fun u hu => ?_)
    show V x cX6_clause RX6 3 (rmU 23 509 0 0) [(hq, co 3 [ai wi, ai pa, ai ns, ai us, ar sla, ar ena, ar cda]), (cda, cn 0 100 cd), (sla, cn 0 10 sl), (ena, cn 0 10 en), (h, co 6 (rdL tap e hq ((to1 t e 0 s).2)))] 6 [(0, ar h)] [ai ((to1 t e 0 s).1)] 0 0
    have hto := to1_k (t := t) (e := e) (h := 119) (k := 0) (s := s) h0 hw (by decide) (by decide)
    refine v_eqi (y := 0) (by rw [hto]) ?_
    refine v_ws (ws2 := [(hq, co 3 [ai wi, ai pa, ai ns, ai us, ar sla, ar ena, ar cda]), (cda, cn 0 100 cd), (sla, cn 0 10 sl), (ena, cn 0 10 en), (h, co 6 (rdL tap e hq (adv s)))]) (by rw [hto]) ?_
    have hmx := Mv_adv hB (hr_lt hw (by decide))
    refine v_istore_n (pc := 6) (L2 := [(1, ai 0), (0, ar h)]) rfl (by decide) dX6_clause_6 ?_
    refine v_aload_n (pc := 7) 1 rfl dX6_clause_7 ?_
    refine v_iload_n (pc := 8) 0 rfl dX6_clause_8 ?_
    refine v_if_ne (pc := 9) 17 dX6_clause_9 (by decide) (by unfold iB; omega) (fun c_1 => by exfalso; omega) (fun c_1 => ?_)
    refine v_ldcS (pc := 12) (q := ("MatFlip$Reader", 54, "ide ", 1)) (List.mem_of_getElem? (i := 1) rfl) rfl dX6_clause_12 ?_
    refine v_goto (pc := 14) 39 dX6_clause_14 (by decide) ?_
    refine v_callV (pc := 39) [4] [0, 1, 2, 3] [(hq, co 3 [ai wi, ai pa, ai ns, ai us, ar sla, ar ena, ar cda]), (cda, cn 0 100 cd), (sla, cn 0 10 sl), (ena, cn 0 10 en)] (As := [ar (lK (xg x) 1)]) (rest := []) (c_X6_needs h tap e hq t (adv s) 1 (by exact hmx.1) (by first | omega | assumption) (by assumption) (by decide)) (c := 6) rfl (Or.inr ⟨4, rfl⟩) wl_X6_62 wi_X6_needs wv_X6_X6_needs_X6_needs wk_X6_needs wz_X6 md_X6_needs rfl (Nat.le_of_ble_eq_true rfl) ⟨Nat.le_of_ble_eq_true rfl, Nat.le_of_ble_eq_true rfl, Nat.le_of_ble_eq_true rfl, Nat.le_of_ble_eq_true rfl⟩ rfl rfl rfl rfl (by decide) (ro_cons (Or.inl r0) ro_nil) dX6_clause_39 (fun u hu => ?_)
    show V x cX6_clause RX6 3 (rmU 23 509 0 0) [(hq, co 3 [ai wi, ai pa, ai ns, ai us, ar sla, ar ena, ar cda]), (cda, cn 0 100 cd), (sla, cn 0 10 sl), (ena, cn 0 10 en), (h, co 6 (rdL tap e hq (spl t e 1 (lenS 1).toNat (adv s))))] 42 [(1, ai 0), (0, ar h)] [] 0 0
    have hm2 := Mv_spl (t := t) (i := 1) (by decide) hmx.1 (lenS 1).toNat (by decide)
    refine v_aload_n (pc := 42) 1 rfl dX6_clause_42 ?_
    refine v_callV (pc := 43) [4] [0, 1, 2, 3] [(hq, co 3 [ai wi, ai pa, ai ns, ai us, ar sla, ar ena, ar cda]), (cda, cn 0 100 cd), (sla, cn 0 10 sl), (ena, cn 0 10 en)] (As := []) (rest := []) (c_X6_number h tap e hq t (spl t e 1 (lenS 1).toNat (adv s)) (by exact hm2.1) (by first | omega | assumption) (by assumption)) (c := 6) rfl (Or.inr ⟨4, rfl⟩) wl_X6_66 wi_X6_number wv_X6_X6_number_X6_number wk_X6_number wz_X6 md_X6_number rfl (Nat.le_of_ble_eq_true rfl) ⟨Nat.le_of_ble_eq_true rfl, Nat.le_of_ble_eq_true rfl, Nat.le_of_ble_eq_true rfl, Nat.le_of_ble_eq_true rfl⟩ rfl rfl rfl rfl (by decide) (ro_cons (Or.inl r0) ro_nil) dX6_clause_43 (fun u hu => ?_)
    show V x cX6_clause RX6 3 (rmU 23 509 0 0) [(hq, co 3 [ai wi, ai pa, ai ns, ai us, ar sla, ar ena, ar cda]), (cda, cn 0 100 cd), (sla, cn 0 10 sl), (ena, cn 0 10 en), (h, co 6 (rdL tap e hq ((fig t e (spl t e 1 (lenS 1).toNat (adv s))).2)))] 46 [(1, ai 0), (0, ar h)] [ai ((fig t e (spl t e 1 (lenS 1).toNat (adv s))).1)] 0 0
    have hm3 := Mv_fig (t := t) hm2.1
    have hfb := fig_b (t := t) (e := e) (s := spl t e 1 (lenS 1).toNat (adv s))
    refine v_istore_n (pc := 46) (L2 := [(2, ai ((fig t e (spl t e 1 (lenS 1).toNat (adv s))).1)), (1, ai 0), (0, ar h)]) rfl (by decide) dX6_clause_46 ?_
    refine v_iload_n (pc := 47) 1 rfl dX6_clause_47 ?_
    refine v_if_ne (pc := 48) 62 dX6_clause_48 (by decide) (by unfold iB; omega) (fun c_2 => by exfalso; omega) (fun c_2 => ?_)
    refine v_aload_n (pc := 51) 2 rfl dX6_clause_51 ?_
    refine v_get (pc := 52) (v := ar hq) 2 (Or.inr ⟨4, rfl⟩) fl_6_12_6 rfl dX6_clause_52 ?_
    refine v_iload_n (pc := 55) 0 rfl dX6_clause_55 ?_
    refine v_put (pc := 56) 0 0 rfl fl_6_70_3 ck_3 ft_3_0 (okV_i _) (Nat.le_of_ble_eq_true rfl) (ws2 := [(hq, co 3 [ai ((fig t e (spl t e 1 (lenS 1).toNat (adv s))).1), ai pa, ai ns, ai us, ar sla, ar ena, ar cda]), (cda, cn 0 100 cd), (sla, cn 0 10 sl), (ena, cn 0 10 en), (h, co 6 (rdL tap e hq ((fig t e (spl t e 1 (lenS 1).toNat (adv s))).2)))]) rfl dX6_clause_56 ?_
    refine v_goto (pc := 59) 107 dX6_clause_59 (by decide) ?_
    have hcl := cls_1 (w := wi) (p := pa) hw h0
    refine v_ws (ws2 := [(hq, co 3 [ai ((fig t e (spl t e 1 (lenS 1).toNat (adv s))).1), ai pa, ai ns, ai us, ar sla, ar ena, ar cda]), (cda, cn 0 100 cd), (sla, cn 0 10 sl), (ena, cn 0 10 en), (h, co 6 (rdL tap e hq ((cls t e (s, wi, pa)).1)))]) (by rw [hcl]) ?_
    refine v_wsub (ws2 := [(h, co 6 (rdL tap e hq ((cls t e (s, wi, pa)).1))), (hq, co 3 [ai ((fig t e (spl t e 1 (lenS 1).toNat (adv s))).1), ai pa, ai ns, ai us, ar sla, ar ena, ar cda]), (cda, cn 0 100 cd), (sla, cn 0 10 sl), (ena, cn 0 10 en)]) [4, 0, 1, 2, 3] rfl rfl ?_
    exact hret ((fig t e (spl t e 1 (lenS 1).toNat (adv s))).1, pa, ns, us, sl, en, cd) _ _ _ _ _ (by rw [hcl]; exact ⟨IE_mv hIE (Mv_tr hmx (Mv_tr hm2 hm3)), (show ns ≤ ns + 1 by omega), fun q => ⟨(if_pos q).symm, rfl⟩⟩) rfl rfl (Nat.le_of_ble_eq_true rfl) (Nat.le_of_ble_eq_true rfl) dX6_clause_107
  · skip
    refine v_aload_n (pc := 0) 0 rfl dX6_clause_0 ?_
    refine v_ldcS (pc := 1) (q := ("MatFlip$Reader", 48, "wpsg", 0)) (List.mem_of_getElem? (i := 0) rfl) rfl dX6_clause_1 ?_
    refine v_callV (pc := 3) [0] [1, 2, 3, 4] [(hq, co 3 [ai wi, ai pa, ai ns, ai us, ar sla, ar ena, ar cda]), (cda, cn 0 100 cd), (sla, cn 0 10 sl), (ena, cn 0 10 en)] (As := [ar (lK (xg x) 0)]) (rest := []) (c_X6_takesOneOf h tap e hq t s 0 (by assumption) (by first | omega | assumption) (by assumption) (by decide)) (c := 6) rfl (Or.inr ⟨0, rfl⟩) wl_X6_50 wi_X6_takesOneOf wv_X6_X6_takesOneOf_X6_takesOneOf wk_X6_takesOneOf wz_X6 md_X6_takesOneOf rfl (Nat.le_of_ble_eq_true rfl) ⟨Nat.le_of_ble_eq_true rfl, Nat.le_of_ble_eq_true rfl, Nat.le_of_ble_eq_true rfl, Nat.le_of_ble_eq_true rfl⟩ rfl rfl rfl rfl (by decide) (ro_cons (Or.inl r0) ro_nil) dX6_clause_3 (fun u hu => ?_)
    show V x cX6_clause RX6 3 (rmU 23 509 0 0) [(hq, co 3 [ai wi, ai pa, ai ns, ai us, ar sla, ar ena, ar cda]), (cda, cn 0 100 cd), (sla, cn 0 10 sl), (ena, cn 0 10 en), (h, co 6 (rdL tap e hq ((to1 t e 0 s).2)))] 6 [(0, ar h)] [ai ((to1 t e 0 s).1)] 0 0
    have hto := to1_k (t := t) (e := e) (h := 112) (k := 1) (s := s) h0 hw (by decide) (by decide)
    refine v_eqi (y := 1) (by rw [hto]) ?_
    refine v_ws (ws2 := [(hq, co 3 [ai wi, ai pa, ai ns, ai us, ar sla, ar ena, ar cda]), (cda, cn 0 100 cd), (sla, cn 0 10 sl), (ena, cn 0 10 en), (h, co 6 (rdL tap e hq (adv s)))]) (by rw [hto]) ?_
    have hmx := Mv_adv hB (hr_lt hw (by decide))
    refine v_istore_n (pc := 6) (L2 := [(1, ai 1), (0, ar h)]) rfl (by decide) dX6_clause_6 ?_
    refine v_aload_n (pc := 7) 1 rfl dX6_clause_7 ?_
    refine v_iload_n (pc := 8) 0 rfl dX6_clause_8 ?_
    refine v_if_ne (pc := 9) 17 dX6_clause_9 (by decide) (by unfold iB; omega) (fun c_3 => ?_) (fun c_3 => by exfalso; omega)
    refine v_iload_n (pc := 17) 0 rfl dX6_clause_17 ?_
    refine v_iconst (pc := 18) dX6_clause_18 ?_
    refine v_icmp_ne (pc := 19) 27 dX6_clause_19 (by decide) (by unfold iB; omega) (by unfold iB; omega) (fun c_4 => by exfalso; omega) (fun c_4 => ?_)
    refine v_ldcS (pc := 22) (q := ("MatFlip$Reader", 56, "ay ", 2)) (List.mem_of_getElem? (i := 2) rfl) rfl dX6_clause_22 ?_
    refine v_goto (pc := 24) 39 dX6_clause_24 (by decide) ?_
    refine v_callV (pc := 39) [4] [0, 1, 2, 3] [(hq, co 3 [ai wi, ai pa, ai ns, ai us, ar sla, ar ena, ar cda]), (cda, cn 0 100 cd), (sla, cn 0 10 sl), (ena, cn 0 10 en)] (As := [ar (lK (xg x) 2)]) (rest := []) (c_X6_needs h tap e hq t (adv s) 2 (by exact hmx.1) (by first | omega | assumption) (by assumption) (by decide)) (c := 6) rfl (Or.inr ⟨4, rfl⟩) wl_X6_62 wi_X6_needs wv_X6_X6_needs_X6_needs wk_X6_needs wz_X6 md_X6_needs rfl (Nat.le_of_ble_eq_true rfl) ⟨Nat.le_of_ble_eq_true rfl, Nat.le_of_ble_eq_true rfl, Nat.le_of_ble_eq_true rfl, Nat.le_of_ble_eq_true rfl⟩ rfl rfl rfl rfl (by decide) (ro_cons (Or.inl r0) ro_nil) dX6_clause_39 (fun u hu => ?_)
    show V x cX6_clause RX6 3 (rmU 23 509 0 0) [(hq, co 3 [ai wi, ai pa, ai ns, ai us, ar sla, ar ena, ar cda]), (cda, cn 0 100 cd), (sla, cn 0 10 sl), (ena, cn 0 10 en), (h, co 6 (rdL tap e hq (spl t e 2 (lenS 2).toNat (adv s))))] 42 [(1, ai 1), (0, ar h)] [] 0 0
    have hm2 := Mv_spl (t := t) (i := 2) (by decide) hmx.1 (lenS 2).toNat (by decide)
    refine v_aload_n (pc := 42) 1 rfl dX6_clause_42 ?_
    refine v_callV (pc := 43) [4] [0, 1, 2, 3] [(hq, co 3 [ai wi, ai pa, ai ns, ai us, ar sla, ar ena, ar cda]), (cda, cn 0 100 cd), (sla, cn 0 10 sl), (ena, cn 0 10 en)] (As := []) (rest := []) (c_X6_number h tap e hq t (spl t e 2 (lenS 2).toNat (adv s)) (by exact hm2.1) (by first | omega | assumption) (by assumption)) (c := 6) rfl (Or.inr ⟨4, rfl⟩) wl_X6_66 wi_X6_number wv_X6_X6_number_X6_number wk_X6_number wz_X6 md_X6_number rfl (Nat.le_of_ble_eq_true rfl) ⟨Nat.le_of_ble_eq_true rfl, Nat.le_of_ble_eq_true rfl, Nat.le_of_ble_eq_true rfl, Nat.le_of_ble_eq_true rfl⟩ rfl rfl rfl rfl (by decide) (ro_cons (Or.inl r0) ro_nil) dX6_clause_43 (fun u hu => ?_)
    show V x cX6_clause RX6 3 (rmU 23 509 0 0) [(hq, co 3 [ai wi, ai pa, ai ns, ai us, ar sla, ar ena, ar cda]), (cda, cn 0 100 cd), (sla, cn 0 10 sl), (ena, cn 0 10 en), (h, co 6 (rdL tap e hq ((fig t e (spl t e 2 (lenS 2).toNat (adv s))).2)))] 46 [(1, ai 1), (0, ar h)] [ai ((fig t e (spl t e 2 (lenS 2).toNat (adv s))).1)] 0 0
    have hm3 := Mv_fig (t := t) hm2.1
    have hfb := fig_b (t := t) (e := e) (s := spl t e 2 (lenS 2).toNat (adv s))
    refine v_istore_n (pc := 46) (L2 := [(2, ai ((fig t e (spl t e 2 (lenS 2).toNat (adv s))).1)), (1, ai 1), (0, ar h)]) rfl (by decide) dX6_clause_46 ?_
    refine v_iload_n (pc := 47) 1 rfl dX6_clause_47 ?_
    refine v_if_ne (pc := 48) 62 dX6_clause_48 (by decide) (by unfold iB; omega) (fun c_5 => ?_) (fun c_5 => by exfalso; omega)
    refine v_iload_n (pc := 62) 1 rfl dX6_clause_62 ?_
    refine v_iconst (pc := 63) dX6_clause_63 ?_
    refine v_icmp_ne (pc := 64) 78 dX6_clause_64 (by decide) (by unfold iB; omega) (by unfold iB; omega) (fun c_6 => by exfalso; omega) (fun c_6 => ?_)
    refine v_aload_n (pc := 67) 2 rfl dX6_clause_67 ?_
    refine v_get (pc := 68) (v := ar hq) 2 (Or.inr ⟨4, rfl⟩) fl_6_12_6 rfl dX6_clause_68 ?_
    refine v_iload_n (pc := 71) 0 rfl dX6_clause_71 ?_
    refine v_put (pc := 72) 1 0 rfl fl_6_73_3 ck_3 ft_3_1 (okV_i _) (Nat.le_of_ble_eq_true rfl) (ws2 := [(hq, co 3 [ai wi, ai ((fig t e (spl t e 2 (lenS 2).toNat (adv s))).1), ai ns, ai us, ar sla, ar ena, ar cda]), (cda, cn 0 100 cd), (sla, cn 0 10 sl), (ena, cn 0 10 en), (h, co 6 (rdL tap e hq ((fig t e (spl t e 2 (lenS 2).toNat (adv s))).2)))]) rfl dX6_clause_72 ?_
    refine v_goto (pc := 75) 107 dX6_clause_75 (by decide) ?_
    have hcl := cls_2 (w := wi) (p := pa) hw h0
    refine v_ws (ws2 := [(hq, co 3 [ai wi, ai ((fig t e (spl t e 2 (lenS 2).toNat (adv s))).1), ai ns, ai us, ar sla, ar ena, ar cda]), (cda, cn 0 100 cd), (sla, cn 0 10 sl), (ena, cn 0 10 en), (h, co 6 (rdL tap e hq ((cls t e (s, wi, pa)).1)))]) (by rw [hcl]) ?_
    refine v_wsub (ws2 := [(h, co 6 (rdL tap e hq ((cls t e (s, wi, pa)).1))), (hq, co 3 [ai wi, ai ((fig t e (spl t e 2 (lenS 2).toNat (adv s))).1), ai ns, ai us, ar sla, ar ena, ar cda]), (cda, cn 0 100 cd), (sla, cn 0 10 sl), (ena, cn 0 10 en)]) [4, 0, 1, 2, 3] rfl rfl ?_
    exact hret (wi, (fig t e (spl t e 2 (lenS 2).toNat (adv s))).1, ns, us, sl, en, cd) _ _ _ _ _ (by rw [hcl]; exact ⟨IE_mv hIE (Mv_tr hmx (Mv_tr hm2 hm3)), (show ns ≤ ns + 1 by omega), fun q => ⟨rfl, (if_pos q).symm⟩⟩) rfl rfl (Nat.le_of_ble_eq_true rfl) (Nat.le_of_ble_eq_true rfl) dX6_clause_107
  · skip
    refine v_aload_n (pc := 0) 0 rfl dX6_clause_0 ?_
    refine v_ldcS (pc := 1) (q := ("MatFlip$Reader", 48, "wpsg", 0)) (List.mem_of_getElem? (i := 0) rfl) rfl dX6_clause_1 ?_
    refine v_callV (pc := 3) [0] [1, 2, 3, 4] [(hq, co 3 [ai wi, ai pa, ai ns, ai us, ar sla, ar ena, ar cda]), (cda, cn 0 100 cd), (sla, cn 0 10 sl), (ena, cn 0 10 en)] (As := [ar (lK (xg x) 0)]) (rest := []) (c_X6_takesOneOf h tap e hq t s 0 (by assumption) (by first | omega | assumption) (by assumption) (by decide)) (c := 6) rfl (Or.inr ⟨0, rfl⟩) wl_X6_50 wi_X6_takesOneOf wv_X6_X6_takesOneOf_X6_takesOneOf wk_X6_takesOneOf wz_X6 md_X6_takesOneOf rfl (Nat.le_of_ble_eq_true rfl) ⟨Nat.le_of_ble_eq_true rfl, Nat.le_of_ble_eq_true rfl, Nat.le_of_ble_eq_true rfl, Nat.le_of_ble_eq_true rfl⟩ rfl rfl rfl rfl (by decide) (ro_cons (Or.inl r0) ro_nil) dX6_clause_3 (fun u hu => ?_)
    show V x cX6_clause RX6 3 (rmU 23 509 0 0) [(hq, co 3 [ai wi, ai pa, ai ns, ai us, ar sla, ar ena, ar cda]), (cda, cn 0 100 cd), (sla, cn 0 10 sl), (ena, cn 0 10 en), (h, co 6 (rdL tap e hq ((to1 t e 0 s).2)))] 6 [(0, ar h)] [ai ((to1 t e 0 s).1)] 0 0
    have hto := to1_k (t := t) (e := e) (h := 115) (k := 2) (s := s) h0 hw (by decide) (by decide)
    refine v_eqi (y := 2) (by rw [hto]) ?_
    refine v_ws (ws2 := [(hq, co 3 [ai wi, ai pa, ai ns, ai us, ar sla, ar ena, ar cda]), (cda, cn 0 100 cd), (sla, cn 0 10 sl), (ena, cn 0 10 en), (h, co 6 (rdL tap e hq (adv s)))]) (by rw [hto]) ?_
    have hmx := Mv_adv hB (hr_lt hw (by decide))
    refine v_istore_n (pc := 6) (L2 := [(1, ai 2), (0, ar h)]) rfl (by decide) dX6_clause_6 ?_
    refine v_aload_n (pc := 7) 1 rfl dX6_clause_7 ?_
    refine v_iload_n (pc := 8) 0 rfl dX6_clause_8 ?_
    refine v_if_ne (pc := 9) 17 dX6_clause_9 (by decide) (by unfold iB; omega) (fun c_7 => ?_) (fun c_7 => by exfalso; omega)
    refine v_iload_n (pc := 17) 0 rfl dX6_clause_17 ?_
    refine v_iconst (pc := 18) dX6_clause_18 ?_
    refine v_icmp_ne (pc := 19) 27 dX6_clause_19 (by decide) (by unfold iB; omega) (by unfold iB; omega) (fun c_8 => ?_) (fun c_8 => by exfalso; omega)
    refine v_iload_n (pc := 27) 0 rfl dX6_clause_27 ?_
    refine v_iconst (pc := 28) dX6_clause_28 ?_
    refine v_icmp_ne (pc := 29) 37 dX6_clause_29 (by decide) (by unfold iB; omega) (by unfold iB; omega) (fun c_9 => by exfalso; omega) (fun c_9 => ?_)
    refine v_ldcS (pc := 32) (q := ("MatFlip$Reader", 58, "lip ", 3)) (List.mem_of_getElem? (i := 3) rfl) rfl dX6_clause_32 ?_
    refine v_goto (pc := 34) 39 dX6_clause_34 (by decide) ?_
    refine v_callV (pc := 39) [4] [0, 1, 2, 3] [(hq, co 3 [ai wi, ai pa, ai ns, ai us, ar sla, ar ena, ar cda]), (cda, cn 0 100 cd), (sla, cn 0 10 sl), (ena, cn 0 10 en)] (As := [ar (lK (xg x) 3)]) (rest := []) (c_X6_needs h tap e hq t (adv s) 3 (by exact hmx.1) (by first | omega | assumption) (by assumption) (by decide)) (c := 6) rfl (Or.inr ⟨4, rfl⟩) wl_X6_62 wi_X6_needs wv_X6_X6_needs_X6_needs wk_X6_needs wz_X6 md_X6_needs rfl (Nat.le_of_ble_eq_true rfl) ⟨Nat.le_of_ble_eq_true rfl, Nat.le_of_ble_eq_true rfl, Nat.le_of_ble_eq_true rfl, Nat.le_of_ble_eq_true rfl⟩ rfl rfl rfl rfl (by decide) (ro_cons (Or.inl r0) ro_nil) dX6_clause_39 (fun u hu => ?_)
    show V x cX6_clause RX6 3 (rmU 23 509 0 0) [(hq, co 3 [ai wi, ai pa, ai ns, ai us, ar sla, ar ena, ar cda]), (cda, cn 0 100 cd), (sla, cn 0 10 sl), (ena, cn 0 10 en), (h, co 6 (rdL tap e hq (spl t e 3 (lenS 3).toNat (adv s))))] 42 [(1, ai 2), (0, ar h)] [] 0 0
    have hm2 := Mv_spl (t := t) (i := 3) (by decide) hmx.1 (lenS 3).toNat (by decide)
    refine v_aload_n (pc := 42) 1 rfl dX6_clause_42 ?_
    refine v_callV (pc := 43) [4] [0, 1, 2, 3] [(hq, co 3 [ai wi, ai pa, ai ns, ai us, ar sla, ar ena, ar cda]), (cda, cn 0 100 cd), (sla, cn 0 10 sl), (ena, cn 0 10 en)] (As := []) (rest := []) (c_X6_number h tap e hq t (spl t e 3 (lenS 3).toNat (adv s)) (by exact hm2.1) (by first | omega | assumption) (by assumption)) (c := 6) rfl (Or.inr ⟨4, rfl⟩) wl_X6_66 wi_X6_number wv_X6_X6_number_X6_number wk_X6_number wz_X6 md_X6_number rfl (Nat.le_of_ble_eq_true rfl) ⟨Nat.le_of_ble_eq_true rfl, Nat.le_of_ble_eq_true rfl, Nat.le_of_ble_eq_true rfl, Nat.le_of_ble_eq_true rfl⟩ rfl rfl rfl rfl (by decide) (ro_cons (Or.inl r0) ro_nil) dX6_clause_43 (fun u hu => ?_)
    show V x cX6_clause RX6 3 (rmU 23 509 0 0) [(hq, co 3 [ai wi, ai pa, ai ns, ai us, ar sla, ar ena, ar cda]), (cda, cn 0 100 cd), (sla, cn 0 10 sl), (ena, cn 0 10 en), (h, co 6 (rdL tap e hq ((fig t e (spl t e 3 (lenS 3).toNat (adv s))).2)))] 46 [(1, ai 2), (0, ar h)] [ai ((fig t e (spl t e 3 (lenS 3).toNat (adv s))).1)] 0 0
    have hm3 := Mv_fig (t := t) hm2.1
    have hfb := fig_b (t := t) (e := e) (s := spl t e 3 (lenS 3).toNat (adv s))
    refine v_istore_n (pc := 46) (L2 := [(2, ai ((fig t e (spl t e 3 (lenS 3).toNat (adv s))).1)), (1, ai 2), (0, ar h)]) rfl (by decide) dX6_clause_46 ?_
    refine v_iload_n (pc := 47) 1 rfl dX6_clause_47 ?_
    refine v_if_ne (pc := 48) 62 dX6_clause_48 (by decide) (by unfold iB; omega) (fun c_10 => ?_) (fun c_10 => by exfalso; omega)
    refine v_iload_n (pc := 62) 1 rfl dX6_clause_62 ?_
    refine v_iconst (pc := 63) dX6_clause_63 ?_
    refine v_icmp_ne (pc := 64) 78 dX6_clause_64 (by decide) (by unfold iB; omega) (by unfold iB; omega) (fun c_11 => ?_) (fun c_11 => by exfalso; omega)
    refine v_aload_n (pc := 78) 2 rfl dX6_clause_78 ?_
    refine v_ldcS (pc := 79) (q := ("MatFlip$Reader", 76, " ", 5)) (List.mem_of_getElem? (i := 5) rfl) rfl dX6_clause_79 ?_
    refine v_callV (pc := 81) [4] [0, 1, 2, 3] [(hq, co 3 [ai wi, ai pa, ai ns, ai us, ar sla, ar ena, ar cda]), (cda, cn 0 100 cd), (sla, cn 0 10 sl), (ena, cn 0 10 en)] (As := [ar (lK (xg x) 5)]) (rest := []) (c_X6_needs h tap e hq t ((fig t e (spl t e 3 (lenS 3).toNat (adv s))).2) 5 (by exact hm3.1) (by first | omega | assumption) (by assumption) (by decide)) (c := 6) rfl (Or.inr ⟨4, rfl⟩) wl_X6_62 wi_X6_needs wv_X6_X6_needs_X6_needs wk_X6_needs wz_X6 md_X6_needs rfl (Nat.le_of_ble_eq_true rfl) ⟨Nat.le_of_ble_eq_true rfl, Nat.le_of_ble_eq_true rfl, Nat.le_of_ble_eq_true rfl, Nat.le_of_ble_eq_true rfl⟩ rfl rfl rfl rfl (by decide) (ro_cons (Or.inl r0) ro_nil) dX6_clause_81 (fun u hu => ?_)
    show V x cX6_clause RX6 3 (rmU 23 509 0 0) [(hq, co 3 [ai wi, ai pa, ai ns, ai us, ar sla, ar ena, ar cda]), (cda, cn 0 100 cd), (sla, cn 0 10 sl), (ena, cn 0 10 en), (h, co 6 (rdL tap e hq (spl t e 5 (lenS 5).toNat ((fig t e (spl t e 3 (lenS 3).toNat (adv s))).2))))] 84 [(2, ai ((fig t e (spl t e 3 (lenS 3).toNat (adv s))).1)), (1, ai 2), (0, ar h)] [] 0 0
    have hs5 : spl t e 5 (lenS 5).toNat (fig t e (spl t e 3 (lenS 3).toNat (adv s))).2 = mstP t e 32 (fig t e (spl t e 3 (lenS 3).toNat (adv s))).2 := spl_l1 (by decide) (by decide)
    refine v_ws (ws2 := [(hq, co 3 [ai wi, ai pa, ai ns, ai us, ar sla, ar ena, ar cda]), (cda, cn 0 100 cd), (sla, cn 0 10 sl), (ena, cn 0 10 en), (h, co 6 (rdL tap e hq (mstP t e 32 (fig t e (spl t e 3 (lenS 3).toNat (adv s))).2)))]) (by rw [hs5]) ?_
    have hm5 := Mv_mst (t := t) (c := 32) (by decide) hm3.1
    refine v_aload_n (pc := 84) 2 rfl dX6_clause_84 ?_
    refine v_iconst (pc := 85) dX6_clause_85 ?_
    refine v_callV (pc := 86) [4, 0, 1] [2, 3] [(sla, cn 0 10 sl), (ena, cn 0 10 en)] (As := [ai 0]) (rest := []) (c_reit_5 h tap e hq t (mstP t e 32 (fig t e (spl t e 3 (lenS 3).toNat (adv s))).2) wi pa ns us sla ena cda sl en cd (by exact hm5.1) (by first | omega | assumption) (by assumption) (by exact IE_mv hIE (Mv_tr hmx (Mv_tr hm2 (Mv_tr hm3 hm5))))) (c := 6) rfl (Or.inr ⟨4, rfl⟩) wl_X6_78 wi_X6_either wv_X6_X6_either_X6_either wk_X6_either wz_X6 md_X6_either rfl (Nat.le_of_ble_eq_true rfl) ⟨Nat.le_of_ble_eq_true rfl, Nat.le_of_ble_eq_true rfl, Nat.le_of_ble_eq_true rfl, Nat.le_of_ble_eq_true rfl⟩ rfl rfl rfl rfl (by decide) (ro_cons (Or.inl r0) ro_nil) dX6_clause_86 (fun u hu => ?_)
    obtain ⟨us2_12, cd2_13⟩ := u
    have g_14 : IE (soP t e (fac t e 5) (mstP t e 32 (fig t e (spl t e 3 (lenS 3).toNat (adv s))).2)) ns us2_12 sl en cd2_13 := hu
    show V x cX6_clause RX6 3 (rmU 23 509 0 0) [(sla, cn 0 10 sl), (ena, cn 0 10 en), (h, co 6 (rdL tap e hq (soP t e (fac t e 5) (mstP t e 32 (fig t e (spl t e 3 (lenS 3).toNat (adv s))).2)))), (hq, co 3 [ai wi, ai pa, ai ns, ai us2_12, ar sla, ar ena, ar cda]), (cda, cn 0 100 cd2_13)] 89 [(2, ai ((fig t e (spl t e 3 (lenS 3).toNat (adv s))).1)), (1, ai 2), (0, ar h)] [] 0 0
    have hub9 := g_14.1
    refine v_aload_n (pc := 89) 2 rfl dX6_clause_89 ?_
    refine v_get (pc := 90) (v := ar hq) 2 (Or.inr ⟨2, rfl⟩) fl_6_12_6 rfl dX6_clause_90 ?_
    refine v_iload_n (pc := 93) 1 rfl dX6_clause_93 ?_
    refine v_iconst (pc := 94) dX6_clause_94 ?_
    refine v_icmp_ne (pc := 95) 102 dX6_clause_95 (by decide) (by unfold iB; omega) (by unfold iB; omega) (fun c_15 => by exfalso; omega) (fun c_15 => ?_)
    refine v_iload_n (pc := 98) 0 rfl dX6_clause_98 ?_
    refine v_goto (pc := 99) 104 dX6_clause_99 (by decide) ?_
    refine v_callV (pc := 104) [3, 0, 1] [2, 4] [(h, co 6 (rdL tap e hq (soP t e (fac t e 5) (mstP t e 32 (fig t e (spl t e 3 (lenS 3).toNat (adv s))).2)))), (cda, cn 0 100 cd2_13)] (As := [ai ((fig t e (spl t e 3 (lenS 3).toNat (adv s))).1)]) (rest := []) (c_X3_addSlip hq wi pa ns us2_12 sla ena cda ((fig t e (spl t e 3 (lenS 3).toNat (adv s))).1) sl en (by first | omega | assumption)) (c := 3) rfl (Or.inr ⟨3, rfl⟩) wl_X6_82 wi_X3_addSlip wv_X3_X3_addSlip_X3_addSlip wk_X3_addSlip wz_X3 md_X3_addSlip rfl (Nat.le_of_ble_eq_true rfl) ⟨Nat.le_of_ble_eq_true rfl, Nat.le_of_ble_eq_true rfl, Nat.le_of_ble_eq_true rfl, Nat.le_of_ble_eq_true rfl⟩ rfl rfl rfl rfl (by decide) ro_nil dX6_clause_104 (fun u hu => ?_)
    show V x cX6_clause RX6 3 (rmU 23 509 0 0) [(h, co 6 (rdL tap e hq (soP t e (fac t e 5) (mstP t e 32 (fig t e (spl t e 3 (lenS 3).toNat (adv s))).2)))), (cda, cn 0 100 cd2_13), (hq, co 3 [ai wi, ai pa, ai (if ns < 10 then ns + 1 else ns), ai us2_12, ar sla, ar ena, ar cda]), (sla, cn 0 10 (if ns < 10 then aup sl ns ((fig t e (spl t e 3 (lenS 3).toNat (adv s))).1) else sl)), (ena, cn 0 10 (if ns < 10 then aup en ns us2_12 else en))] 107 [(2, ai ((fig t e (spl t e 3 (lenS 3).toNat (adv s))).1)), (1, ai 2), (0, ar h)] [] 0 0
    refine v_ws (ws2 := [(h, co 6 (rdL tap e hq (soP t e (fac t e 5) (mstP t e 32 (fig t e (spl t e 3 (lenS 3).toNat (adv s))).2)))), (cda, cn 0 100 cd2_13), (hq, co 3 [ai wi, ai pa, ai (ns + 1), ai us2_12, ar sla, ar ena, ar cda]), (sla, cn 0 10 (aup sl ns ((fig t e (spl t e 3 (lenS 3).toNat (adv s))).1))), (ena, cn 0 10 (aup en ns us2_12))]) (by rw [if_pos (show ns < 10 by omega), if_pos (show ns < 10 by omega), if_pos (show ns < 10 by omega)]) ?_
    refine v_ws (ws2 := [(h, co 6 (rdL tap e hq (emi (-10 - (fig t e (spl t e 3 (lenS 3).toNat (adv s))).1) (soP t e (fac t e 5) (mstP t e 32 (fig t e (spl t e 3 (lenS 3).toNat (adv s))).2))))), (cda, cn 0 100 cd2_13), (hq, co 3 [ai wi, ai pa, ai (ns + 1), ai us2_12, ar sla, ar ena, ar cda]), (sla, cn 0 10 (aup sl ns ((fig t e (spl t e 3 (lenS 3).toNat (adv s))).1))), (ena, cn 0 10 (aup en ns us2_12))]) (by show [(h, co 6 [ar tap, ai e, ar hq, ai ((soP t e (fac t e 5) (mstP t e 32 (fig t e (spl t e 3 (lenS 3).toNat (adv s))).2)).1), ai (flt (soP t e (fac t e 5) (mstP t e 32 (fig t e (spl t e 3 (lenS 3).toNat (adv s))).2)))]), (cda, cn 0 100 cd2_13), (hq, co 3 [ai wi, ai pa, ai (ns + 1), ai us2_12, ar sla, ar ena, ar cda]), (sla, cn 0 10 (aup sl ns ((fig t e (spl t e 3 (lenS 3).toNat (adv s))).1))), (ena, cn 0 10 (aup en ns us2_12))] = [(h, co 6 [ar tap, ai e, ar hq, ai ((emi (-10 - (fig t e (spl t e 3 (lenS 3).toNat (adv s))).1) (soP t e (fac t e 5) (mstP t e 32 (fig t e (spl t e 3 (lenS 3).toNat (adv s))).2))).1), ai (flt (emi (-10 - (fig t e (spl t e 3 (lenS 3).toNat (adv s))).1) (soP t e (fac t e 5) (mstP t e 32 (fig t e (spl t e 3 (lenS 3).toNat (adv s))).2))))]), (cda, cn 0 100 cd2_13), (hq, co 3 [ai wi, ai pa, ai (ns + 1), ai us2_12, ar sla, ar ena, ar cda]), (sla, cn 0 10 (aup sl ns ((fig t e (spl t e 3 (lenS 3).toNat (adv s))).1))), (ena, cn 0 10 (aup en ns us2_12))]; rw [(emi_1 (z := (-10 - (fig t e (spl t e 3 (lenS 3).toNat (adv s))).1)) (s := (soP t e (fac t e 5) (mstP t e 32 (fig t e (spl t e 3 (lenS 3).toNat (adv s))).2)))).1, (emi_1 (z := (-10 - (fig t e (spl t e 3 (lenS 3).toNat (adv s))).1)) (s := (soP t e (fac t e 5) (mstP t e 32 (fig t e (spl t e 3 (lenS 3).toNat (adv s))).2)))).2.2]) ?_
    have hcl := cls_3 (t := t) (e := e) (w := wi) (p := pa) hw
    have hmu : muP t e (-10) 11 s = (emi (-10 - (fig t e (spl t e 3 (lenS 3).toNat (adv s))).1) (soP t e (fac t e 5) (mstP t e 32 (fig t e (spl t e 3 (lenS 3).toNat (adv s))).2))) := by unfold muP; rw [spl_11 h0 hw]
    refine v_ws (ws2 := [(h, co 6 (rdL tap e hq ((cls t e (s, wi, pa)).1))), (cda, cn 0 100 cd2_13), (hq, co 3 [ai wi, ai pa, ai (ns + 1), ai us2_12, ar sla, ar ena, ar cda]), (sla, cn 0 10 (aup sl ns ((fig t e (spl t e 3 (lenS 3).toNat (adv s))).1))), (ena, cn 0 10 (aup en ns us2_12))]) (by rw [hcl, hmu]) ?_
    have hsl9 := mu_sl (t := t) (i := 11) (s := s) (by decide) hB (fun z => (hIE.2 z).2)
    rw [spl_11 h0 hw] at hsl9
    have hie := IE_slip (z := -10 - (fig t e (spl t e 3 (lenS 3).toNat (adv s))).1) g_14 (by omega) (by omega) hsl9
    rw [slV_1 hfb] at hie
    refine v_wsub (ws2 := [(h, co 6 (rdL tap e hq ((cls t e (s, wi, pa)).1))), (hq, co 3 [ai wi, ai pa, ai (ns + 1), ai us2_12, ar sla, ar ena, ar cda]), (cda, cn 0 100 cd2_13), (sla, cn 0 10 (aup sl ns ((fig t e (spl t e 3 (lenS 3).toNat (adv s))).1))), (ena, cn 0 10 (aup en ns us2_12))]) [0, 2, 1, 3, 4] rfl rfl ?_
    exact hret (wi, pa, (ns + 1), us2_12, (aup sl ns ((fig t e (spl t e 3 (lenS 3).toNat (adv s))).1)), (aup en ns us2_12), cd2_13) _ _ _ _ _ (by rw [hcl]; refine ⟨?_, Int.le_refl _, fun q => ⟨rfl, rfl⟩⟩; show IE (muP t e (-10) 11 s) _ _ _ _ _; rw [hmu]; exact hie) rfl rfl (Nat.le_of_ble_eq_true rfl) (Nat.le_of_ble_eq_true rfl) dX6_clause_107
  · skip
    refine v_aload_n (pc := 0) 0 rfl dX6_clause_0 ?_
    refine v_ldcS (pc := 1) (q := ("MatFlip$Reader", 48, "wpsg", 0)) (List.mem_of_getElem? (i := 0) rfl) rfl dX6_clause_1 ?_
    refine v_callV (pc := 3) [0] [1, 2, 3, 4] [(hq, co 3 [ai wi, ai pa, ai ns, ai us, ar sla, ar ena, ar cda]), (cda, cn 0 100 cd), (sla, cn 0 10 sl), (ena, cn 0 10 en)] (As := [ar (lK (xg x) 0)]) (rest := []) (c_X6_takesOneOf h tap e hq t s 0 (by assumption) (by first | omega | assumption) (by assumption) (by decide)) (c := 6) rfl (Or.inr ⟨0, rfl⟩) wl_X6_50 wi_X6_takesOneOf wv_X6_X6_takesOneOf_X6_takesOneOf wk_X6_takesOneOf wz_X6 md_X6_takesOneOf rfl (Nat.le_of_ble_eq_true rfl) ⟨Nat.le_of_ble_eq_true rfl, Nat.le_of_ble_eq_true rfl, Nat.le_of_ble_eq_true rfl, Nat.le_of_ble_eq_true rfl⟩ rfl rfl rfl rfl (by decide) (ro_cons (Or.inl r0) ro_nil) dX6_clause_3 (fun u hu => ?_)
    show V x cX6_clause RX6 3 (rmU 23 509 0 0) [(hq, co 3 [ai wi, ai pa, ai ns, ai us, ar sla, ar ena, ar cda]), (cda, cn 0 100 cd), (sla, cn 0 10 sl), (ena, cn 0 10 en), (h, co 6 (rdL tap e hq ((to1 t e 0 s).2)))] 6 [(0, ar h)] [ai ((to1 t e 0 s).1)] 0 0
    have hto := to1_k (t := t) (e := e) (h := 103) (k := 3) (s := s) h0 hw (by decide) (by decide)
    refine v_eqi (y := 3) (by rw [hto]) ?_
    refine v_ws (ws2 := [(hq, co 3 [ai wi, ai pa, ai ns, ai us, ar sla, ar ena, ar cda]), (cda, cn 0 100 cd), (sla, cn 0 10 sl), (ena, cn 0 10 en), (h, co 6 (rdL tap e hq (adv s)))]) (by rw [hto]) ?_
    have hmx := Mv_adv hB (hr_lt hw (by decide))
    refine v_istore_n (pc := 6) (L2 := [(1, ai 3), (0, ar h)]) rfl (by decide) dX6_clause_6 ?_
    refine v_aload_n (pc := 7) 1 rfl dX6_clause_7 ?_
    refine v_iload_n (pc := 8) 0 rfl dX6_clause_8 ?_
    refine v_if_ne (pc := 9) 17 dX6_clause_9 (by decide) (by unfold iB; omega) (fun c_16 => ?_) (fun c_16 => by exfalso; omega)
    refine v_iload_n (pc := 17) 0 rfl dX6_clause_17 ?_
    refine v_iconst (pc := 18) dX6_clause_18 ?_
    refine v_icmp_ne (pc := 19) 27 dX6_clause_19 (by decide) (by unfold iB; omega) (by unfold iB; omega) (fun c_17 => ?_) (fun c_17 => by exfalso; omega)
    refine v_iload_n (pc := 27) 0 rfl dX6_clause_27 ?_
    refine v_iconst (pc := 28) dX6_clause_28 ?_
    refine v_icmp_ne (pc := 29) 37 dX6_clause_29 (by decide) (by unfold iB; omega) (by unfold iB; omega) (fun c_18 => ?_) (fun c_18 => by exfalso; omega)
    refine v_ldcS (pc := 37) (q := ("MatFlip$Reader", 60, "lue ", 4)) (List.mem_of_getElem? (i := 4) rfl) rfl dX6_clause_37 ?_
    refine v_callV (pc := 39) [4] [0, 1, 2, 3] [(hq, co 3 [ai wi, ai pa, ai ns, ai us, ar sla, ar ena, ar cda]), (cda, cn 0 100 cd), (sla, cn 0 10 sl), (ena, cn 0 10 en)] (As := [ar (lK (xg x) 4)]) (rest := []) (c_X6_needs h tap e hq t (adv s) 4 (by exact hmx.1) (by first | omega | assumption) (by assumption) (by decide)) (c := 6) rfl (Or.inr ⟨4, rfl⟩) wl_X6_62 wi_X6_needs wv_X6_X6_needs_X6_needs wk_X6_needs wz_X6 md_X6_needs rfl (Nat.le_of_ble_eq_true rfl) ⟨Nat.le_of_ble_eq_true rfl, Nat.le_of_ble_eq_true rfl, Nat.le_of_ble_eq_true rfl, Nat.le_of_ble_eq_true rfl⟩ rfl rfl rfl rfl (by decide) (ro_cons (Or.inl r0) ro_nil) dX6_clause_39 (fun u hu => ?_)
    show V x cX6_clause RX6 3 (rmU 23 509 0 0) [(hq, co 3 [ai wi, ai pa, ai ns, ai us, ar sla, ar ena, ar cda]), (cda, cn 0 100 cd), (sla, cn 0 10 sl), (ena, cn 0 10 en), (h, co 6 (rdL tap e hq (spl t e 4 (lenS 4).toNat (adv s))))] 42 [(1, ai 3), (0, ar h)] [] 0 0
    have hm2 := Mv_spl (t := t) (i := 4) (by decide) hmx.1 (lenS 4).toNat (by decide)
    refine v_aload_n (pc := 42) 1 rfl dX6_clause_42 ?_
    refine v_callV (pc := 43) [4] [0, 1, 2, 3] [(hq, co 3 [ai wi, ai pa, ai ns, ai us, ar sla, ar ena, ar cda]), (cda, cn 0 100 cd), (sla, cn 0 10 sl), (ena, cn 0 10 en)] (As := []) (rest := []) (c_X6_number h tap e hq t (spl t e 4 (lenS 4).toNat (adv s)) (by exact hm2.1) (by first | omega | assumption) (by assumption)) (c := 6) rfl (Or.inr ⟨4, rfl⟩) wl_X6_66 wi_X6_number wv_X6_X6_number_X6_number wk_X6_number wz_X6 md_X6_number rfl (Nat.le_of_ble_eq_true rfl) ⟨Nat.le_of_ble_eq_true rfl, Nat.le_of_ble_eq_true rfl, Nat.le_of_ble_eq_true rfl, Nat.le_of_ble_eq_true rfl⟩ rfl rfl rfl rfl (by decide) (ro_cons (Or.inl r0) ro_nil) dX6_clause_43 (fun u hu => ?_)
    show V x cX6_clause RX6 3 (rmU 23 509 0 0) [(hq, co 3 [ai wi, ai pa, ai ns, ai us, ar sla, ar ena, ar cda]), (cda, cn 0 100 cd), (sla, cn 0 10 sl), (ena, cn 0 10 en), (h, co 6 (rdL tap e hq ((fig t e (spl t e 4 (lenS 4).toNat (adv s))).2)))] 46 [(1, ai 3), (0, ar h)] [ai ((fig t e (spl t e 4 (lenS 4).toNat (adv s))).1)] 0 0
    have hm3 := Mv_fig (t := t) hm2.1
    have hfb := fig_b (t := t) (e := e) (s := spl t e 4 (lenS 4).toNat (adv s))
    refine v_istore_n (pc := 46) (L2 := [(2, ai ((fig t e (spl t e 4 (lenS 4).toNat (adv s))).1)), (1, ai 3), (0, ar h)]) rfl (by decide) dX6_clause_46 ?_
    refine v_iload_n (pc := 47) 1 rfl dX6_clause_47 ?_
    refine v_if_ne (pc := 48) 62 dX6_clause_48 (by decide) (by unfold iB; omega) (fun c_19 => ?_) (fun c_19 => by exfalso; omega)
    refine v_iload_n (pc := 62) 1 rfl dX6_clause_62 ?_
    refine v_iconst (pc := 63) dX6_clause_63 ?_
    refine v_icmp_ne (pc := 64) 78 dX6_clause_64 (by decide) (by unfold iB; omega) (by unfold iB; omega) (fun c_20 => ?_) (fun c_20 => by exfalso; omega)
    refine v_aload_n (pc := 78) 2 rfl dX6_clause_78 ?_
    refine v_ldcS (pc := 79) (q := ("MatFlip$Reader", 76, " ", 5)) (List.mem_of_getElem? (i := 5) rfl) rfl dX6_clause_79 ?_
    refine v_callV (pc := 81) [4] [0, 1, 2, 3] [(hq, co 3 [ai wi, ai pa, ai ns, ai us, ar sla, ar ena, ar cda]), (cda, cn 0 100 cd), (sla, cn 0 10 sl), (ena, cn 0 10 en)] (As := [ar (lK (xg x) 5)]) (rest := []) (c_X6_needs h tap e hq t ((fig t e (spl t e 4 (lenS 4).toNat (adv s))).2) 5 (by exact hm3.1) (by first | omega | assumption) (by assumption) (by decide)) (c := 6) rfl (Or.inr ⟨4, rfl⟩) wl_X6_62 wi_X6_needs wv_X6_X6_needs_X6_needs wk_X6_needs wz_X6 md_X6_needs rfl (Nat.le_of_ble_eq_true rfl) ⟨Nat.le_of_ble_eq_true rfl, Nat.le_of_ble_eq_true rfl, Nat.le_of_ble_eq_true rfl, Nat.le_of_ble_eq_true rfl⟩ rfl rfl rfl rfl (by decide) (ro_cons (Or.inl r0) ro_nil) dX6_clause_81 (fun u hu => ?_)
    show V x cX6_clause RX6 3 (rmU 23 509 0 0) [(hq, co 3 [ai wi, ai pa, ai ns, ai us, ar sla, ar ena, ar cda]), (cda, cn 0 100 cd), (sla, cn 0 10 sl), (ena, cn 0 10 en), (h, co 6 (rdL tap e hq (spl t e 5 (lenS 5).toNat ((fig t e (spl t e 4 (lenS 4).toNat (adv s))).2))))] 84 [(2, ai ((fig t e (spl t e 4 (lenS 4).toNat (adv s))).1)), (1, ai 3), (0, ar h)] [] 0 0
    have hs5 : spl t e 5 (lenS 5).toNat (fig t e (spl t e 4 (lenS 4).toNat (adv s))).2 = mstP t e 32 (fig t e (spl t e 4 (lenS 4).toNat (adv s))).2 := spl_l1 (by decide) (by decide)
    refine v_ws (ws2 := [(hq, co 3 [ai wi, ai pa, ai ns, ai us, ar sla, ar ena, ar cda]), (cda, cn 0 100 cd), (sla, cn 0 10 sl), (ena, cn 0 10 en), (h, co 6 (rdL tap e hq (mstP t e 32 (fig t e (spl t e 4 (lenS 4).toNat (adv s))).2)))]) (by rw [hs5]) ?_
    have hm5 := Mv_mst (t := t) (c := 32) (by decide) hm3.1
    refine v_aload_n (pc := 84) 2 rfl dX6_clause_84 ?_
    refine v_iconst (pc := 85) dX6_clause_85 ?_
    refine v_callV (pc := 86) [4, 0, 1] [2, 3] [(sla, cn 0 10 sl), (ena, cn 0 10 en)] (As := [ai 0]) (rest := []) (c_reit_5 h tap e hq t (mstP t e 32 (fig t e (spl t e 4 (lenS 4).toNat (adv s))).2) wi pa ns us sla ena cda sl en cd (by exact hm5.1) (by first | omega | assumption) (by assumption) (by exact IE_mv hIE (Mv_tr hmx (Mv_tr hm2 (Mv_tr hm3 hm5))))) (c := 6) rfl (Or.inr ⟨4, rfl⟩) wl_X6_78 wi_X6_either wv_X6_X6_either_X6_either wk_X6_either wz_X6 md_X6_either rfl (Nat.le_of_ble_eq_true rfl) ⟨Nat.le_of_ble_eq_true rfl, Nat.le_of_ble_eq_true rfl, Nat.le_of_ble_eq_true rfl, Nat.le_of_ble_eq_true rfl⟩ rfl rfl rfl rfl (by decide) (ro_cons (Or.inl r0) ro_nil) dX6_clause_86 (fun u hu => ?_)
    obtain ⟨us2_21, cd2_22⟩ := u
    have g_23 : IE (soP t e (fac t e 5) (mstP t e 32 (fig t e (spl t e 4 (lenS 4).toNat (adv s))).2)) ns us2_21 sl en cd2_22 := hu
    show V x cX6_clause RX6 3 (rmU 23 509 0 0) [(sla, cn 0 10 sl), (ena, cn 0 10 en), (h, co 6 (rdL tap e hq (soP t e (fac t e 5) (mstP t e 32 (fig t e (spl t e 4 (lenS 4).toNat (adv s))).2)))), (hq, co 3 [ai wi, ai pa, ai ns, ai us2_21, ar sla, ar ena, ar cda]), (cda, cn 0 100 cd2_22)] 89 [(2, ai ((fig t e (spl t e 4 (lenS 4).toNat (adv s))).1)), (1, ai 3), (0, ar h)] [] 0 0
    have hub9 := g_23.1
    refine v_aload_n (pc := 89) 2 rfl dX6_clause_89 ?_
    refine v_get (pc := 90) (v := ar hq) 2 (Or.inr ⟨2, rfl⟩) fl_6_12_6 rfl dX6_clause_90 ?_
    refine v_iload_n (pc := 93) 1 rfl dX6_clause_93 ?_
    refine v_iconst (pc := 94) dX6_clause_94 ?_
    refine v_icmp_ne (pc := 95) 102 dX6_clause_95 (by decide) (by unfold iB; omega) (by unfold iB; omega) (fun c_24 => ?_) (fun c_24 => by exfalso; omega)
    refine v_iload_n (pc := 102) 0 rfl dX6_clause_102 ?_
    refine v_ineg (pc := 103) dX6_clause_103 ?_
    refine v_callV (pc := 104) [3, 0, 1] [2, 4] [(h, co 6 (rdL tap e hq (soP t e (fac t e 5) (mstP t e 32 (fig t e (spl t e 4 (lenS 4).toNat (adv s))).2)))), (cda, cn 0 100 cd2_22)] (As := [ai (-((fig t e (spl t e 4 (lenS 4).toNat (adv s))).1))]) (rest := []) (c_X3_addSlip hq wi pa ns us2_21 sla ena cda (-((fig t e (spl t e 4 (lenS 4).toNat (adv s))).1)) sl en (by first | omega | assumption)) (c := 3) rfl (Or.inr ⟨3, rfl⟩) wl_X6_82 wi_X3_addSlip wv_X3_X3_addSlip_X3_addSlip wk_X3_addSlip wz_X3 md_X3_addSlip rfl (Nat.le_of_ble_eq_true rfl) ⟨Nat.le_of_ble_eq_true rfl, Nat.le_of_ble_eq_true rfl, Nat.le_of_ble_eq_true rfl, Nat.le_of_ble_eq_true rfl⟩ rfl rfl rfl rfl (by decide) ro_nil dX6_clause_104 (fun u hu => ?_)
    show V x cX6_clause RX6 3 (rmU 23 509 0 0) [(h, co 6 (rdL tap e hq (soP t e (fac t e 5) (mstP t e 32 (fig t e (spl t e 4 (lenS 4).toNat (adv s))).2)))), (cda, cn 0 100 cd2_22), (hq, co 3 [ai wi, ai pa, ai (if ns < 10 then ns + 1 else ns), ai us2_21, ar sla, ar ena, ar cda]), (sla, cn 0 10 (if ns < 10 then aup sl ns (-((fig t e (spl t e 4 (lenS 4).toNat (adv s))).1)) else sl)), (ena, cn 0 10 (if ns < 10 then aup en ns us2_21 else en))] 107 [(2, ai ((fig t e (spl t e 4 (lenS 4).toNat (adv s))).1)), (1, ai 3), (0, ar h)] [] 0 0
    refine v_ws (ws2 := [(h, co 6 (rdL tap e hq (soP t e (fac t e 5) (mstP t e 32 (fig t e (spl t e 4 (lenS 4).toNat (adv s))).2)))), (cda, cn 0 100 cd2_22), (hq, co 3 [ai wi, ai pa, ai (ns + 1), ai us2_21, ar sla, ar ena, ar cda]), (sla, cn 0 10 (aup sl ns (-(fig t e (spl t e 4 (lenS 4).toNat (adv s))).1))), (ena, cn 0 10 (aup en ns us2_21))]) (by rw [if_pos (show ns < 10 by omega), if_pos (show ns < 10 by omega), if_pos (show ns < 10 by omega)]) ?_
    refine v_ws (ws2 := [(h, co 6 (rdL tap e hq (emi (-200 - (fig t e (spl t e 4 (lenS 4).toNat (adv s))).1) (soP t e (fac t e 5) (mstP t e 32 (fig t e (spl t e 4 (lenS 4).toNat (adv s))).2))))), (cda, cn 0 100 cd2_22), (hq, co 3 [ai wi, ai pa, ai (ns + 1), ai us2_21, ar sla, ar ena, ar cda]), (sla, cn 0 10 (aup sl ns (-(fig t e (spl t e 4 (lenS 4).toNat (adv s))).1))), (ena, cn 0 10 (aup en ns us2_21))]) (by show [(h, co 6 [ar tap, ai e, ar hq, ai ((soP t e (fac t e 5) (mstP t e 32 (fig t e (spl t e 4 (lenS 4).toNat (adv s))).2)).1), ai (flt (soP t e (fac t e 5) (mstP t e 32 (fig t e (spl t e 4 (lenS 4).toNat (adv s))).2)))]), (cda, cn 0 100 cd2_22), (hq, co 3 [ai wi, ai pa, ai (ns + 1), ai us2_21, ar sla, ar ena, ar cda]), (sla, cn 0 10 (aup sl ns (-(fig t e (spl t e 4 (lenS 4).toNat (adv s))).1))), (ena, cn 0 10 (aup en ns us2_21))] = [(h, co 6 [ar tap, ai e, ar hq, ai ((emi (-200 - (fig t e (spl t e 4 (lenS 4).toNat (adv s))).1) (soP t e (fac t e 5) (mstP t e 32 (fig t e (spl t e 4 (lenS 4).toNat (adv s))).2))).1), ai (flt (emi (-200 - (fig t e (spl t e 4 (lenS 4).toNat (adv s))).1) (soP t e (fac t e 5) (mstP t e 32 (fig t e (spl t e 4 (lenS 4).toNat (adv s))).2))))]), (cda, cn 0 100 cd2_22), (hq, co 3 [ai wi, ai pa, ai (ns + 1), ai us2_21, ar sla, ar ena, ar cda]), (sla, cn 0 10 (aup sl ns (-(fig t e (spl t e 4 (lenS 4).toNat (adv s))).1))), (ena, cn 0 10 (aup en ns us2_21))]; rw [(emi_1 (z := (-200 - (fig t e (spl t e 4 (lenS 4).toNat (adv s))).1)) (s := (soP t e (fac t e 5) (mstP t e 32 (fig t e (spl t e 4 (lenS 4).toNat (adv s))).2)))).1, (emi_1 (z := (-200 - (fig t e (spl t e 4 (lenS 4).toNat (adv s))).1)) (s := (soP t e (fac t e 5) (mstP t e 32 (fig t e (spl t e 4 (lenS 4).toNat (adv s))).2)))).2.2]) ?_
    have hcl := cls_4 (t := t) (e := e) (w := wi) (p := pa) hw
    have hmu : muP t e (-200) 12 s = (emi (-200 - (fig t e (spl t e 4 (lenS 4).toNat (adv s))).1) (soP t e (fac t e 5) (mstP t e 32 (fig t e (spl t e 4 (lenS 4).toNat (adv s))).2))) := by unfold muP; rw [spl_12 h0 hw]
    refine v_ws (ws2 := [(h, co 6 (rdL tap e hq ((cls t e (s, wi, pa)).1))), (cda, cn 0 100 cd2_22), (hq, co 3 [ai wi, ai pa, ai (ns + 1), ai us2_21, ar sla, ar ena, ar cda]), (sla, cn 0 10 (aup sl ns (-(fig t e (spl t e 4 (lenS 4).toNat (adv s))).1))), (ena, cn 0 10 (aup en ns us2_21))]) (by rw [hcl, hmu]) ?_
    have hsl9 := mu_sl (t := t) (i := 12) (s := s) (by decide) hB (fun z => (hIE.2 z).2)
    rw [spl_12 h0 hw] at hsl9
    have hie := IE_slip (z := -200 - (fig t e (spl t e 4 (lenS 4).toNat (adv s))).1) g_23 (by omega) (by omega) hsl9
    rw [slV_2 hfb] at hie
    refine v_wsub (ws2 := [(h, co 6 (rdL tap e hq ((cls t e (s, wi, pa)).1))), (hq, co 3 [ai wi, ai pa, ai (ns + 1), ai us2_21, ar sla, ar ena, ar cda]), (cda, cn 0 100 cd2_22), (sla, cn 0 10 (aup sl ns (-(fig t e (spl t e 4 (lenS 4).toNat (adv s))).1))), (ena, cn 0 10 (aup en ns us2_21))]) [0, 2, 1, 3, 4] rfl rfl ?_
    exact hret (wi, pa, (ns + 1), us2_21, (aup sl ns (-(fig t e (spl t e 4 (lenS 4).toNat (adv s))).1)), (aup en ns us2_21), cd2_22) _ _ _ _ _ (by rw [hcl]; refine ⟨?_, Int.le_refl _, fun q => ⟨rfl, rfl⟩⟩; show IE (muP t e (-200) 12 s) _ _ _ _ _; rw [hmu]; exact hie) rfl rfl (Nat.le_of_ble_eq_true rfl) (Nat.le_of_ble_eq_true rfl) dX6_clause_107
  · skip
    refine v_aload_n (pc := 0) 0 rfl dX6_clause_0 ?_
    refine v_ldcS (pc := 1) (q := ("MatFlip$Reader", 48, "wpsg", 0)) (List.mem_of_getElem? (i := 0) rfl) rfl dX6_clause_1 ?_
    refine v_callV (pc := 3) [0] [1, 2, 3, 4] [(hq, co 3 [ai wi, ai pa, ai ns, ai us, ar sla, ar ena, ar cda]), (cda, cn 0 100 cd), (sla, cn 0 10 sl), (ena, cn 0 10 en)] (As := [ar (lK (xg x) 0)]) (rest := []) (c_X6_takesOneOf h tap e hq t s 0 (by assumption) (by first | omega | assumption) (by assumption) (by decide)) (c := 6) rfl (Or.inr ⟨0, rfl⟩) wl_X6_50 wi_X6_takesOneOf wv_X6_X6_takesOneOf_X6_takesOneOf wk_X6_takesOneOf wz_X6 md_X6_takesOneOf rfl (Nat.le_of_ble_eq_true rfl) ⟨Nat.le_of_ble_eq_true rfl, Nat.le_of_ble_eq_true rfl, Nat.le_of_ble_eq_true rfl, Nat.le_of_ble_eq_true rfl⟩ rfl rfl rfl rfl (by decide) (ro_cons (Or.inl r0) ro_nil) dX6_clause_3 (fun u hu => ?_)
    show V x cX6_clause RX6 3 (rmU 23 509 0 0) [(hq, co 3 [ai wi, ai pa, ai ns, ai us, ar sla, ar ena, ar cda]), (cda, cn 0 100 cd), (sla, cn 0 10 sl), (ena, cn 0 10 en), (h, co 6 (rdL tap e hq ((to1 t e 0 s).2)))] 6 [(0, ar h)] [ai ((to1 t e 0 s).1)] 0 0
    have hto := to1_e (t := t) (e := e) (s := s) hw.1 hw.2.1 hw.2.2.1 hw.2.2.2
    refine v_eqi (y := 0) (by rw [hto]) ?_
    refine v_ws (ws2 := [(hq, co 3 [ai wi, ai pa, ai ns, ai us, ar sla, ar ena, ar cda]), (cda, cn 0 100 cd), (sla, cn 0 10 sl), (ena, cn 0 10 en), (h, co 6 (rdL tap e hq (bad s)))]) (by rw [hto]) ?_
    have hmx := Mv_bad hB
    have hwx : ¬ (bad s).2.1 = 0 := by show ¬ (1 : Int) = 0; decide
    refine v_istore_n (pc := 6) (L2 := [(1, ai 0), (0, ar h)]) rfl (by decide) dX6_clause_6 ?_
    refine v_aload_n (pc := 7) 1 rfl dX6_clause_7 ?_
    refine v_iload_n (pc := 8) 0 rfl dX6_clause_8 ?_
    refine v_if_ne (pc := 9) 17 dX6_clause_9 (by decide) (by unfold iB; omega) (fun c_25 => by exfalso; omega) (fun c_25 => ?_)
    refine v_ldcS (pc := 12) (q := ("MatFlip$Reader", 54, "ide ", 1)) (List.mem_of_getElem? (i := 1) rfl) rfl dX6_clause_12 ?_
    refine v_goto (pc := 14) 39 dX6_clause_14 (by decide) ?_
    refine v_callV (pc := 39) [4] [0, 1, 2, 3] [(hq, co 3 [ai wi, ai pa, ai ns, ai us, ar sla, ar ena, ar cda]), (cda, cn 0 100 cd), (sla, cn 0 10 sl), (ena, cn 0 10 en)] (As := [ar (lK (xg x) 1)]) (rest := []) (c_X6_needs h tap e hq t (bad s) 1 (by exact hmx.1) (by first | omega | assumption) (by assumption) (by decide)) (c := 6) rfl (Or.inr ⟨4, rfl⟩) wl_X6_62 wi_X6_needs wv_X6_X6_needs_X6_needs wk_X6_needs wz_X6 md_X6_needs rfl (Nat.le_of_ble_eq_true rfl) ⟨Nat.le_of_ble_eq_true rfl, Nat.le_of_ble_eq_true rfl, Nat.le_of_ble_eq_true rfl, Nat.le_of_ble_eq_true rfl⟩ rfl rfl rfl rfl (by decide) (ro_cons (Or.inl r0) ro_nil) dX6_clause_39 (fun u hu => ?_)
    show V x cX6_clause RX6 3 (rmU 23 509 0 0) [(hq, co 3 [ai wi, ai pa, ai ns, ai us, ar sla, ar ena, ar cda]), (cda, cn 0 100 cd), (sla, cn 0 10 sl), (ena, cn 0 10 en), (h, co 6 (rdL tap e hq (spl t e 1 (lenS 1).toNat (bad s))))] 42 [(1, ai 0), (0, ar h)] [] 0 0
    have hm2 := Mv_spl (t := t) (i := 1) (by decide) hmx.1 (lenS 1).toNat (by decide)
    refine v_aload_n (pc := 42) 1 rfl dX6_clause_42 ?_
    refine v_callV (pc := 43) [4] [0, 1, 2, 3] [(hq, co 3 [ai wi, ai pa, ai ns, ai us, ar sla, ar ena, ar cda]), (cda, cn 0 100 cd), (sla, cn 0 10 sl), (ena, cn 0 10 en)] (As := []) (rest := []) (c_X6_number h tap e hq t (spl t e 1 (lenS 1).toNat (bad s)) (by exact hm2.1) (by first | omega | assumption) (by assumption)) (c := 6) rfl (Or.inr ⟨4, rfl⟩) wl_X6_66 wi_X6_number wv_X6_X6_number_X6_number wk_X6_number wz_X6 md_X6_number rfl (Nat.le_of_ble_eq_true rfl) ⟨Nat.le_of_ble_eq_true rfl, Nat.le_of_ble_eq_true rfl, Nat.le_of_ble_eq_true rfl, Nat.le_of_ble_eq_true rfl⟩ rfl rfl rfl rfl (by decide) (ro_cons (Or.inl r0) ro_nil) dX6_clause_43 (fun u hu => ?_)
    show V x cX6_clause RX6 3 (rmU 23 509 0 0) [(hq, co 3 [ai wi, ai pa, ai ns, ai us, ar sla, ar ena, ar cda]), (cda, cn 0 100 cd), (sla, cn 0 10 sl), (ena, cn 0 10 en), (h, co 6 (rdL tap e hq ((fig t e (spl t e 1 (lenS 1).toNat (bad s))).2)))] 46 [(1, ai 0), (0, ar h)] [ai ((fig t e (spl t e 1 (lenS 1).toNat (bad s))).1)] 0 0
    have hm3 := Mv_fig (t := t) hm2.1
    have hfb := fig_b (t := t) (e := e) (s := spl t e 1 (lenS 1).toNat (bad s))
    refine v_istore_n (pc := 46) (L2 := [(2, ai ((fig t e (spl t e 1 (lenS 1).toNat (bad s))).1)), (1, ai 0), (0, ar h)]) rfl (by decide) dX6_clause_46 ?_
    refine v_iload_n (pc := 47) 1 rfl dX6_clause_47 ?_
    refine v_if_ne (pc := 48) 62 dX6_clause_48 (by decide) (by unfold iB; omega) (fun c_26 => by exfalso; omega) (fun c_26 => ?_)
    refine v_aload_n (pc := 51) 2 rfl dX6_clause_51 ?_
    refine v_get (pc := 52) (v := ar hq) 2 (Or.inr ⟨4, rfl⟩) fl_6_12_6 rfl dX6_clause_52 ?_
    refine v_iload_n (pc := 55) 0 rfl dX6_clause_55 ?_
    refine v_put (pc := 56) 0 0 rfl fl_6_70_3 ck_3 ft_3_0 (okV_i _) (Nat.le_of_ble_eq_true rfl) (ws2 := [(hq, co 3 [ai ((fig t e (spl t e 1 (lenS 1).toNat (bad s))).1), ai pa, ai ns, ai us, ar sla, ar ena, ar cda]), (cda, cn 0 100 cd), (sla, cn 0 10 sl), (ena, cn 0 10 en), (h, co 6 (rdL tap e hq ((fig t e (spl t e 1 (lenS 1).toNat (bad s))).2)))]) rfl dX6_clause_56 ?_
    refine v_goto (pc := 59) 107 dX6_clause_59 (by decide) ?_
    have hcl := cls_5 (w := wi) (p := pa) hw.1 hw.2.1 hw.2.2.1 hw.2.2.2
    have hzz : (fig t e (spl t e 1 (lenS 1).toNat (bad s))).2 = bad s := by rw [spl_w0 (by decide) hmx.1 hwx, fig_w0 hmx.1 hwx]
    refine v_ws (ws2 := [(hq, co 3 [ai ((fig t e (spl t e 1 (lenS 1).toNat (bad s))).1), ai pa, ai ns, ai us, ar sla, ar ena, ar cda]), (cda, cn 0 100 cd), (sla, cn 0 10 sl), (ena, cn 0 10 en), (h, co 6 (rdL tap e hq ((cls t e (s, wi, pa)).1)))]) (by rw [hcl, hzz]) ?_
    refine v_wsub (ws2 := [(h, co 6 (rdL tap e hq ((cls t e (s, wi, pa)).1))), (hq, co 3 [ai ((fig t e (spl t e 1 (lenS 1).toNat (bad s))).1), ai pa, ai ns, ai us, ar sla, ar ena, ar cda]), (cda, cn 0 100 cd), (sla, cn 0 10 sl), (ena, cn 0 10 en)]) [4, 0, 1, 2, 3] rfl rfl ?_
    exact hret ((fig t e (spl t e 1 (lenS 1).toNat (bad s))).1, pa, ns, us, sl, en, cd) _ _ _ _ _ (by rw [hcl]; exact ⟨IE_mv hIE hmx, (show ns ≤ ns + 1 by omega), fun q => absurd q hwx⟩) rfl rfl (Nat.le_of_ble_eq_true rfl) (Nat.le_of_ble_eq_true rfl) dX6_clause_107
set_option maxHeartbeats 4000000 in
set_option maxRecDepth 100000 in
theorem c_X6_read {gS : sG} (h : Nat) (tap : Nat) (e : Int) (hq : Nat) (t : Int → Int) (s : PS) (wi : Int) (pa : Int) (ns : Int) (us : Int) (sla : Nat) (ena : Nat) (cda : Nat) (sl : Int → Int) (en : Int → Int) (cd : Int → Int) (hB : PB e s) (he : 0 ≤ e ∧ e ≤ 100) (htb : ∀ j : Int, 0 ≤ j → j < e → 0 ≤ t j ∧ t j ≤ 127) (hIE : IE s ns us sl en cd) (h0 : s.2.1 = 0) (hns : ns = 0) : Ct gS (S := Int × Int × Int × Int × (Int → Int) × (Int → Int) × (Int → Int)) yX6_read cX6_read 2 (some (.object "MatFlip$Inn")) 24 531 0 0 [ar h] [(h, co 6 (rdL tap e hq s)), (hq, co 3 [ai wi, ai pa, ai ns, ai us, ar sla, ar ena, ar cda]), (cda, cn 0 100 cd), (sla, cn 0 10 sl), (ena, cn 0 10 en)] (fun q => q ∈ ([(tap, cn 0 100 t)] : aW)) (fun u => (enS e (clN t e 9 (cls t e (s, wi, pa))).1).2.1 = 0 → (EIn (clN t e 9 (cls t e (s, wi, pa))).1.2.2 u.2.2.1 u.2.2.2.1 u.2.2.2.2.1 u.2.2.2.2.2.1 u.2.2.2.2.2.2 ∧ u.2.2.2.1 ≤ 100 ∧ u.2.2.1 ≤ 10) ∧ u.1 = (clN t e 9 (cls t e (s, wi, pa))).2.1 ∧ u.2.1 = (clN t e 9 (cls t e (s, wi, pa))).2.2) (fun u => some (aq (if (enS e (clN t e 9 (cls t e (s, wi, pa))).1).2.1 = 0 then some hq else none))) (fun u => [(h, co 6 (rdL tap e hq (enS e (clN t e 9 (cls t e (s, wi, pa))).1))), (hq, co 3 [ai u.1, ai u.2.1, ai u.2.2.1, ai u.2.2.2.1, ar sla, ar ena, ar cda]), (cda, cn 0 100 u.2.2.2.2.2.2), (sla, cn 0 10 u.2.2.2.2.1), (ena, cn 0 10 u.2.2.2.2.2.1)]) := by
  refine ct_A "MatFlip$Inn" RX6 [(0, ar h)] (by decide) rfl (Nat.le_of_ble_eq_true rfl) rfl (fun x hgS hro hret => ?_)
  subst hgS
  have r0 := hro _ (mem_at 0 rfl)
  obtain ⟨hB1, hB2, hB3⟩ := id hB
  have hfl := flt_c hB
  have hhr := hr_v (t := t) (e := e) (s := s)
  have hub := hIE.1
  show V x cX6_read RX6 2 (rmU 24 531 0 0) [(h, co 6 (rdL tap e hq s)), (hq, co 3 [ai wi, ai pa, ai ns, ai us, ar sla, ar ena, ar cda]), (cda, cn 0 100 cd), (sla, cn 0 10 sl), (ena, cn 0 10 en)] 0 [(0, ar h)] [] 0 0
  refine v_aload_n (pc := 0) 0 rfl dX6_read_0 ?_
  refine v_callV (pc := 1) [0, 1, 2, 3, 4] [] [] (As := []) (rest := []) (c_X6_clause h tap e hq t s wi pa ns us sla ena cda sl en cd (by assumption) (by first | omega | assumption) (by assumption) (by assumption) (by exact h0) (by omega)) (c := 6) rfl (Or.inr ⟨0, rfl⟩) wl_X6_35 wi_X6_clause wv_X6_X6_clause_X6_clause wk_X6_clause wz_X6 md_X6_clause rfl (Nat.le_of_ble_eq_true rfl) ⟨Nat.le_of_ble_eq_true rfl, Nat.le_of_ble_eq_true rfl, Nat.le_of_ble_eq_true rfl, Nat.le_of_ble_eq_true rfl⟩ rfl rfl rfl rfl (by decide) (ro_cons (Or.inl r0) ro_nil) dX6_read_1 (fun u hu => ?_)
  obtain ⟨wi2_1, pa2_2, ns2_3, us2_4, sl2_5, en2_6, cd2_7⟩ := u
  have g_8 : IE (cls t e (s, wi, pa)).1 ns2_3 us2_4 sl2_5 en2_6 cd2_7 ∧ ns2_3 ≤ ns + 1 ∧ ((cls t e (s, wi, pa)).1.2.1 = 0 → wi2_1 = (cls t e (s, wi, pa)).2.1 ∧ pa2_2 = (cls t e (s, wi, pa)).2.2) := hu
  show V x cX6_read RX6 2 (rmU 24 531 0 0) [(h, co 6 (rdL tap e hq ((cls t e (s, wi, pa)).1))), (hq, co 3 [ai wi2_1, ai pa2_2, ai ns2_3, ai us2_4, ar sla, ar ena, ar cda]), (cda, cn 0 100 cd2_7), (sla, cn 0 10 sl2_5), (ena, cn 0 10 en2_6)] 4 [(0, ar h)] [] 0 0
  have hbc := PB_cls (t := t) (c := (s, wi, pa)) hB
  refine v_iconst (pc := 4) dX6_read_4 ?_
  refine v_istore_n (pc := 5) (L2 := [(1, ai 1), (0, ar h)]) rfl (by decide) dX6_read_5 ?_
  have lp6 : ∀ (mm : Nat) (k : Int) (s1 : PS) (w1 : Int) (p1 : Int) (wi1 : Int) (pa1 : Int) (ns1 : Int) (us1 : Int) (sl1 : Int → Int) (en1 : Int → Int) (cd1 : Int → Int), (10 - k).toNat = mm → (1 ≤ k ∧ k ≤ 10) → (clN t e (10 - k).toNat (s1, w1, p1) = (clN t e 9 (cls t e (s, wi, pa)))) → (PB e s1) → (IE s1 ns1 us1 sl1 en1 cd1) → (ns1 ≤ k) → (s1.2.1 = 0 → wi1 = w1 ∧ pa1 = p1) → V x cX6_read RX6 2 (rmU 24 531 0 0) [(h, co 6 (rdL tap e hq s1)), (hq, co 3 [ai wi1, ai pa1, ai ns1, ai us1, ar sla, ar ena, ar cda]), (cda, cn 0 100 cd1), (sla, cn 0 10 sl1), (ena, cn 0 10 en1)] 6 [(0, ar h), (1, ai k)] [] 0 0 := by
    intro mm
    induction mm using Nat.strongRecOn with
    | _ mm ih =>
      intro k s1 w1 p1 wi1 pa1 ns1 us1 sl1 en1 cd1 hmm hk hcl hBq hI1 hn1 hwp
      obtain ⟨hQ1, hQ2, hQ3⟩ := id hBq
      have hfl1 := flt_c hBq
      have hhr1 := hr_v (t := t) (e := e) (s := s1)
      have hub1 := hI1.1
      refine v_iload_n (pc := 6) 1 rfl dX6_read_6 ?_
      refine v_bipush (pc := 7) dX6_read_7 (by decide) ?_
      refine v_icmp_ge (pc := 9) 31 dX6_read_9 (by decide) (by unfold iB; omega) (by unfold iB; omega) (fun c_9 => ?_) (fun c_9 => ?_)
      · skip
        have hend : (clN t e 9 (cls t e (s, wi, pa))).1 = s1 := by rw [← hcl]; first | rw [clN_st (by show ¬ (s1.2.1 = 0 ∧ hr t e s1 = 59); omega)] | rw [show (10 - k).toNat = 0 by omega, clN]
        have hend2 : (clN t e 9 (cls t e (s, wi, pa))) = (s1, w1, p1) := by rw [← hcl]; first | rw [clN_st (by show ¬ (s1.2.1 = 0 ∧ hr t e s1 = 59); omega)] | rw [show (10 - k).toNat = 0 by omega, clN]
        refine v_aload_n (pc := 31) 0 rfl dX6_read_31 ?_
        refine v_get (pc := 32) (v := ai s1.1) 3 (Or.inr ⟨0, rfl⟩) fl_6_42_6 rfl dX6_read_32 ?_
        refine v_aload_n (pc := 35) 0 rfl dX6_read_35 ?_
        refine v_get (pc := 36) (v := ai e) 1 (Or.inr ⟨0, rfl⟩) fl_6_32_6 rfl dX6_read_36 ?_
        refine v_icmp_ge (pc := 39) 46 dX6_read_39 (by decide) (by unfold iB; omega) (by unfold iB; omega) (fun c_10 => ?_) (fun c_10 => ?_)
        · skip
          have hen : (enS e (clN t e 9 (cls t e (s, wi, pa))).1) = s1 := by rw [hend2]; show (if s1.2.1 = 0 ∧ ¬ s1.1 = e then bad s1 else s1) = _; rw [if_neg (fun q => q.2 (by omega))]
          refine v_ws (ws2 := [(h, co 6 (rdL tap e hq (enS e (clN t e 9 (cls t e (s, wi, pa))).1))), (hq, co 3 [ai wi1, ai pa1, ai ns1, ai us1, ar sla, ar ena, ar cda]), (cda, cn 0 100 cd1), (sla, cn 0 10 sl1), (ena, cn 0 10 en1)]) (by rw [hen]) ?_
          have hf9 : flt (enS e (clN t e 9 (cls t e (s, wi, pa))).1) = flt s1 := by rw [hen]
          refine v_aload_n (pc := 46) 0 rfl dX6_read_46 ?_
          refine v_get (pc := 47) (v := ai (flt (enS e (clN t e 9 (cls t e (s, wi, pa))).1))) 4 (Or.inr ⟨0, rfl⟩) fl_6_18_6 rfl dX6_read_47 ?_
          refine v_if_ge (pc := 50) 60 dX6_read_50 (by decide) (by unfold iB; omega) (fun c_11 => ?_) (fun c_11 => ?_)
          · skip
            refine v_null (pc := 60) dX6_read_60 ?_
            exact hret (wi1, pa1, ns1, us1, sl1, en1, cd1) _ _ _ _ _ _ (by intro q; rw [hen] at q; rw [hend2]; first | exact absurd q hnz | exact ⟨⟨(hI1.2 q).1, (show us1 ≤ 100 by omega), (show ns1 ≤ 10 by omega)⟩, hwp q⟩) (congrArg (fun z => some (aq z)) (by rw [hen]; first | (rw [if_pos (by omega)]; done) | (rw [if_neg (by omega)]; done) | (rw [if_neg hnz]; done))) rfl (Nat.le_of_ble_eq_true rfl) (Nat.le_of_ble_eq_true rfl) dX6_read_61
          · skip
            refine v_aload_n (pc := 53) 0 rfl dX6_read_53 ?_
            refine v_get (pc := 54) (v := ar hq) 2 (Or.inr ⟨0, rfl⟩) fl_6_12_6 rfl dX6_read_54 ?_
            refine v_goto (pc := 57) 61 dX6_read_57 (by decide) ?_
            exact hret (wi1, pa1, ns1, us1, sl1, en1, cd1) _ _ _ _ _ _ (by intro q; rw [hen] at q; rw [hend2]; first | exact absurd q hnz | exact ⟨⟨(hI1.2 q).1, (show us1 ≤ 100 by omega), (show ns1 ≤ 10 by omega)⟩, hwp q⟩) (congrArg (fun z => some (aq z)) (by rw [hen]; first | (rw [if_pos (by omega)]; done) | (rw [if_neg (by omega)]; done) | (rw [if_neg hnz]; done))) rfl (Nat.le_of_ble_eq_true rfl) (Nat.le_of_ble_eq_true rfl) dX6_read_61
        · skip
          refine v_aload_n (pc := 42) 0 rfl dX6_read_42 ?_
          refine v_callV (pc := 43) [0] [1, 2, 3, 4] [(hq, co 3 [ai wi1, ai pa1, ai ns1, ai us1, ar sla, ar ena, ar cda]), (cda, cn 0 100 cd1), (sla, cn 0 10 sl1), (ena, cn 0 10 en1)] (As := []) (rest := []) (c_X6_fails h tap e hq s1 (by exact hBq) (by first | omega | assumption)) (c := 6) rfl (Or.inr ⟨0, rfl⟩) wl_X6_45 wi_X6_fails wv_X6_X6_fails_X6_fails wk_X6_fails wz_X6 md_X6_fails rfl (Nat.le_of_ble_eq_true rfl) ⟨Nat.le_of_ble_eq_true rfl, Nat.le_of_ble_eq_true rfl, Nat.le_of_ble_eq_true rfl, Nat.le_of_ble_eq_true rfl⟩ rfl rfl rfl rfl (by decide) ro_nil dX6_read_43 (fun u hu => ?_)
          show V x cX6_read RX6 2 (rmU 24 531 0 0) [(hq, co 3 [ai wi1, ai pa1, ai ns1, ai us1, ar sla, ar ena, ar cda]), (cda, cn 0 100 cd1), (sla, cn 0 10 sl1), (ena, cn 0 10 en1), (h, co 6 (rdL tap e hq (bad s1)))] 46 [(0, ar h), (1, ai k)] [] 0 0
          have hen : (enS e (clN t e 9 (cls t e (s, wi, pa))).1) = bad s1 := by rw [hend2]; show (if s1.2.1 = 0 ∧ ¬ s1.1 = e then bad s1 else s1) = _; rcases Classical.em (s1.2.1 = 0) with z | z; (rw [if_pos ⟨z, by omega⟩]); (rw [if_neg (fun q => z q.1), bad_of hBq z])
          refine v_ws (ws2 := [(hq, co 3 [ai wi1, ai pa1, ai ns1, ai us1, ar sla, ar ena, ar cda]), (cda, cn 0 100 cd1), (sla, cn 0 10 sl1), (ena, cn 0 10 en1), (h, co 6 (rdL tap e hq (enS e (clN t e 9 (cls t e (s, wi, pa))).1)))]) (by rw [hen]) ?_
          have hf9 : flt (enS e (clN t e 9 (cls t e (s, wi, pa))).1) = flt (bad s1) := by rw [hen]
          have hnz : ¬ (bad s1).2.1 = 0 := by show ¬ (1 : Int) = 0; decide
          have hflb : flt (bad s1) = s1.1 := flt_bad
          refine v_aload_n (pc := 46) 0 rfl dX6_read_46 ?_
          refine v_get (pc := 47) (v := ai (flt (enS e (clN t e 9 (cls t e (s, wi, pa))).1))) 4 (Or.inr ⟨4, rfl⟩) fl_6_18_6 rfl dX6_read_47 ?_
          refine v_if_ge (pc := 50) 60 dX6_read_50 (by decide) (by unfold iB; omega) (fun c_12 => ?_) (fun c_12 => ?_)
          · skip
            refine v_null (pc := 60) dX6_read_60 ?_
            refine v_wsub (ws2 := [(h, co 6 (rdL tap e hq (enS e (clN t e 9 (cls t e (s, wi, pa))).1))), (hq, co 3 [ai wi1, ai pa1, ai ns1, ai us1, ar sla, ar ena, ar cda]), (cda, cn 0 100 cd1), (sla, cn 0 10 sl1), (ena, cn 0 10 en1)]) [4, 0, 1, 2, 3] rfl rfl ?_
            exact hret (wi1, pa1, ns1, us1, sl1, en1, cd1) _ _ _ _ _ _ (by intro q; rw [hen] at q; rw [hend2]; first | exact absurd q hnz | exact ⟨⟨(hI1.2 q).1, (show us1 ≤ 100 by omega), (show ns1 ≤ 10 by omega)⟩, hwp q⟩) (congrArg (fun z => some (aq z)) (by rw [hen]; first | (rw [if_pos (by omega)]; done) | (rw [if_neg (by omega)]; done) | (rw [if_neg hnz]; done))) rfl (Nat.le_of_ble_eq_true rfl) (Nat.le_of_ble_eq_true rfl) dX6_read_61
          · skip
            refine v_aload_n (pc := 53) 0 rfl dX6_read_53 ?_
            refine v_get (pc := 54) (v := ar hq) 2 (Or.inr ⟨4, rfl⟩) fl_6_12_6 rfl dX6_read_54 ?_
            refine v_goto (pc := 57) 61 dX6_read_57 (by decide) ?_
            refine v_wsub (ws2 := [(h, co 6 (rdL tap e hq (enS e (clN t e 9 (cls t e (s, wi, pa))).1))), (hq, co 3 [ai wi1, ai pa1, ai ns1, ai us1, ar sla, ar ena, ar cda]), (cda, cn 0 100 cd1), (sla, cn 0 10 sl1), (ena, cn 0 10 en1)]) [4, 0, 1, 2, 3] rfl rfl ?_
            exact hret (wi1, pa1, ns1, us1, sl1, en1, cd1) _ _ _ _ _ _ (by intro q; rw [hen] at q; rw [hend2]; first | exact absurd q hnz | exact ⟨⟨(hI1.2 q).1, (show us1 ≤ 100 by omega), (show ns1 ≤ 10 by omega)⟩, hwp q⟩) (congrArg (fun z => some (aq z)) (by rw [hen]; first | (rw [if_pos (by omega)]; done) | (rw [if_neg (by omega)]; done) | (rw [if_neg hnz]; done))) rfl (Nat.le_of_ble_eq_true rfl) (Nat.le_of_ble_eq_true rfl) dX6_read_61
      · skip
        refine v_aload_n (pc := 12) 0 rfl dX6_read_12 ?_
        refine v_bipush (pc := 13) dX6_read_13 (by decide) ?_
        refine v_callV (pc := 15) [0] [1, 2, 3, 4] [(hq, co 3 [ai wi1, ai pa1, ai ns1, ai us1, ar sla, ar ena, ar cda]), (cda, cn 0 100 cd1), (sla, cn 0 10 sl1), (ena, cn 0 10 en1)] (As := [ai 59]) (rest := []) (c_X6_takes h tap e hq t s1 59 (by exact hBq) (by first | omega | assumption) (by assumption) (by first | omega | assumption)) (c := 6) rfl (Or.inr ⟨0, rfl⟩) wl_X6_38 wi_X6_takes wv_X6_X6_takes_X6_takes wk_X6_takes wz_X6 md_X6_takes rfl (Nat.le_of_ble_eq_true rfl) ⟨Nat.le_of_ble_eq_true rfl, Nat.le_of_ble_eq_true rfl, Nat.le_of_ble_eq_true rfl, Nat.le_of_ble_eq_true rfl⟩ rfl rfl rfl rfl (by decide) (ro_cons (Or.inl r0) ro_nil) dX6_read_15 (fun u hu => ?_)
        show V x cX6_read RX6 2 (rmU 24 531 0 0) [(hq, co 3 [ai wi1, ai pa1, ai ns1, ai us1, ar sla, ar ena, ar cda]), (cda, cn 0 100 cd1), (sla, cn 0 10 sl1), (ena, cn 0 10 en1), (h, co 6 (rdL tap e hq (tkS t e 59 s1)))] 18 [(0, ar h), (1, ai k)] [ai (if s1.2.1 = 0 ∧ hr t e s1 = 59 then 1 else 0)] 0 0
        refine v_ifb_eq (pc := 18) 31 dX6_read_18 (by decide) (fun c_13 => ?_) (fun c_13 => ?_)
        · skip
          have hk : tkS t e 59 s1 = s1 := if_neg (by omega)
          refine v_ws (ws2 := [(hq, co 3 [ai wi1, ai pa1, ai ns1, ai us1, ar sla, ar ena, ar cda]), (cda, cn 0 100 cd1), (sla, cn 0 10 sl1), (ena, cn 0 10 en1), (h, co 6 (rdL tap e hq s1))]) (by rw [hk]) ?_
          have hend : (clN t e 9 (cls t e (s, wi, pa))).1 = s1 := by rw [← hcl]; first | rw [clN_st (by show ¬ (s1.2.1 = 0 ∧ hr t e s1 = 59); omega)] | rw [show (10 - k).toNat = 0 by omega, clN]
          have hend2 : (clN t e 9 (cls t e (s, wi, pa))) = (s1, w1, p1) := by rw [← hcl]; first | rw [clN_st (by show ¬ (s1.2.1 = 0 ∧ hr t e s1 = 59); omega)] | rw [show (10 - k).toNat = 0 by omega, clN]
          refine v_aload_n (pc := 31) 0 rfl dX6_read_31 ?_
          refine v_get (pc := 32) (v := ai s1.1) 3 (Or.inr ⟨4, rfl⟩) fl_6_42_6 rfl dX6_read_32 ?_
          refine v_aload_n (pc := 35) 0 rfl dX6_read_35 ?_
          refine v_get (pc := 36) (v := ai e) 1 (Or.inr ⟨4, rfl⟩) fl_6_32_6 rfl dX6_read_36 ?_
          refine v_icmp_ge (pc := 39) 46 dX6_read_39 (by decide) (by unfold iB; omega) (by unfold iB; omega) (fun c_14 => ?_) (fun c_14 => ?_)
          · skip
            have hen : (enS e (clN t e 9 (cls t e (s, wi, pa))).1) = s1 := by rw [hend2]; show (if s1.2.1 = 0 ∧ ¬ s1.1 = e then bad s1 else s1) = _; rw [if_neg (fun q => q.2 (by omega))]
            refine v_ws (ws2 := [(hq, co 3 [ai wi1, ai pa1, ai ns1, ai us1, ar sla, ar ena, ar cda]), (cda, cn 0 100 cd1), (sla, cn 0 10 sl1), (ena, cn 0 10 en1), (h, co 6 (rdL tap e hq (enS e (clN t e 9 (cls t e (s, wi, pa))).1)))]) (by rw [hen]) ?_
            have hf9 : flt (enS e (clN t e 9 (cls t e (s, wi, pa))).1) = flt s1 := by rw [hen]
            refine v_aload_n (pc := 46) 0 rfl dX6_read_46 ?_
            refine v_get (pc := 47) (v := ai (flt (enS e (clN t e 9 (cls t e (s, wi, pa))).1))) 4 (Or.inr ⟨4, rfl⟩) fl_6_18_6 rfl dX6_read_47 ?_
            refine v_if_ge (pc := 50) 60 dX6_read_50 (by decide) (by unfold iB; omega) (fun c_15 => ?_) (fun c_15 => ?_)
            · skip
              refine v_null (pc := 60) dX6_read_60 ?_
              refine v_wsub (ws2 := [(h, co 6 (rdL tap e hq (enS e (clN t e 9 (cls t e (s, wi, pa))).1))), (hq, co 3 [ai wi1, ai pa1, ai ns1, ai us1, ar sla, ar ena, ar cda]), (cda, cn 0 100 cd1), (sla, cn 0 10 sl1), (ena, cn 0 10 en1)]) [4, 0, 1, 2, 3] rfl rfl ?_
              exact hret (wi1, pa1, ns1, us1, sl1, en1, cd1) _ _ _ _ _ _ (by intro q; rw [hen] at q; rw [hend2]; first | exact absurd q hnz | exact ⟨⟨(hI1.2 q).1, (show us1 ≤ 100 by omega), (show ns1 ≤ 10 by omega)⟩, hwp q⟩) (congrArg (fun z => some (aq z)) (by rw [hen]; first | (rw [if_pos (by omega)]; done) | (rw [if_neg (by omega)]; done) | (rw [if_neg hnz]; done))) rfl (Nat.le_of_ble_eq_true rfl) (Nat.le_of_ble_eq_true rfl) dX6_read_61
            · skip
              refine v_aload_n (pc := 53) 0 rfl dX6_read_53 ?_
              refine v_get (pc := 54) (v := ar hq) 2 (Or.inr ⟨4, rfl⟩) fl_6_12_6 rfl dX6_read_54 ?_
              refine v_goto (pc := 57) 61 dX6_read_57 (by decide) ?_
              refine v_wsub (ws2 := [(h, co 6 (rdL tap e hq (enS e (clN t e 9 (cls t e (s, wi, pa))).1))), (hq, co 3 [ai wi1, ai pa1, ai ns1, ai us1, ar sla, ar ena, ar cda]), (cda, cn 0 100 cd1), (sla, cn 0 10 sl1), (ena, cn 0 10 en1)]) [4, 0, 1, 2, 3] rfl rfl ?_
              exact hret (wi1, pa1, ns1, us1, sl1, en1, cd1) _ _ _ _ _ _ (by intro q; rw [hen] at q; rw [hend2]; first | exact absurd q hnz | exact ⟨⟨(hI1.2 q).1, (show us1 ≤ 100 by omega), (show ns1 ≤ 10 by omega)⟩, hwp q⟩) (congrArg (fun z => some (aq z)) (by rw [hen]; first | (rw [if_pos (by omega)]; done) | (rw [if_neg (by omega)]; done) | (rw [if_neg hnz]; done))) rfl (Nat.le_of_ble_eq_true rfl) (Nat.le_of_ble_eq_true rfl) dX6_read_61
          · skip
            refine v_aload_n (pc := 42) 0 rfl dX6_read_42 ?_
            refine v_callV (pc := 43) [4] [0, 1, 2, 3] [(hq, co 3 [ai wi1, ai pa1, ai ns1, ai us1, ar sla, ar ena, ar cda]), (cda, cn 0 100 cd1), (sla, cn 0 10 sl1), (ena, cn 0 10 en1)] (As := []) (rest := []) (c_X6_fails h tap e hq s1 (by exact hBq) (by first | omega | assumption)) (c := 6) rfl (Or.inr ⟨4, rfl⟩) wl_X6_45 wi_X6_fails wv_X6_X6_fails_X6_fails wk_X6_fails wz_X6 md_X6_fails rfl (Nat.le_of_ble_eq_true rfl) ⟨Nat.le_of_ble_eq_true rfl, Nat.le_of_ble_eq_true rfl, Nat.le_of_ble_eq_true rfl, Nat.le_of_ble_eq_true rfl⟩ rfl rfl rfl rfl (by decide) ro_nil dX6_read_43 (fun u hu => ?_)
            show V x cX6_read RX6 2 (rmU 24 531 0 0) [(hq, co 3 [ai wi1, ai pa1, ai ns1, ai us1, ar sla, ar ena, ar cda]), (cda, cn 0 100 cd1), (sla, cn 0 10 sl1), (ena, cn 0 10 en1), (h, co 6 (rdL tap e hq (bad s1)))] 46 [(0, ar h), (1, ai k)] [] 0 0
            have hen : (enS e (clN t e 9 (cls t e (s, wi, pa))).1) = bad s1 := by rw [hend2]; show (if s1.2.1 = 0 ∧ ¬ s1.1 = e then bad s1 else s1) = _; rcases Classical.em (s1.2.1 = 0) with z | z; (rw [if_pos ⟨z, by omega⟩]); (rw [if_neg (fun q => z q.1), bad_of hBq z])
            refine v_ws (ws2 := [(hq, co 3 [ai wi1, ai pa1, ai ns1, ai us1, ar sla, ar ena, ar cda]), (cda, cn 0 100 cd1), (sla, cn 0 10 sl1), (ena, cn 0 10 en1), (h, co 6 (rdL tap e hq (enS e (clN t e 9 (cls t e (s, wi, pa))).1)))]) (by rw [hen]) ?_
            have hf9 : flt (enS e (clN t e 9 (cls t e (s, wi, pa))).1) = flt (bad s1) := by rw [hen]
            have hnz : ¬ (bad s1).2.1 = 0 := by show ¬ (1 : Int) = 0; decide
            have hflb : flt (bad s1) = s1.1 := flt_bad
            refine v_aload_n (pc := 46) 0 rfl dX6_read_46 ?_
            refine v_get (pc := 47) (v := ai (flt (enS e (clN t e 9 (cls t e (s, wi, pa))).1))) 4 (Or.inr ⟨4, rfl⟩) fl_6_18_6 rfl dX6_read_47 ?_
            refine v_if_ge (pc := 50) 60 dX6_read_50 (by decide) (by unfold iB; omega) (fun c_16 => ?_) (fun c_16 => ?_)
            · skip
              refine v_null (pc := 60) dX6_read_60 ?_
              refine v_wsub (ws2 := [(h, co 6 (rdL tap e hq (enS e (clN t e 9 (cls t e (s, wi, pa))).1))), (hq, co 3 [ai wi1, ai pa1, ai ns1, ai us1, ar sla, ar ena, ar cda]), (cda, cn 0 100 cd1), (sla, cn 0 10 sl1), (ena, cn 0 10 en1)]) [4, 0, 1, 2, 3] rfl rfl ?_
              exact hret (wi1, pa1, ns1, us1, sl1, en1, cd1) _ _ _ _ _ _ (by intro q; rw [hen] at q; rw [hend2]; first | exact absurd q hnz | exact ⟨⟨(hI1.2 q).1, (show us1 ≤ 100 by omega), (show ns1 ≤ 10 by omega)⟩, hwp q⟩) (congrArg (fun z => some (aq z)) (by rw [hen]; first | (rw [if_pos (by omega)]; done) | (rw [if_neg (by omega)]; done) | (rw [if_neg hnz]; done))) rfl (Nat.le_of_ble_eq_true rfl) (Nat.le_of_ble_eq_true rfl) dX6_read_61
            · skip
              refine v_aload_n (pc := 53) 0 rfl dX6_read_53 ?_
              refine v_get (pc := 54) (v := ar hq) 2 (Or.inr ⟨4, rfl⟩) fl_6_12_6 rfl dX6_read_54 ?_
              refine v_goto (pc := 57) 61 dX6_read_57 (by decide) ?_
              refine v_wsub (ws2 := [(h, co 6 (rdL tap e hq (enS e (clN t e 9 (cls t e (s, wi, pa))).1))), (hq, co 3 [ai wi1, ai pa1, ai ns1, ai us1, ar sla, ar ena, ar cda]), (cda, cn 0 100 cd1), (sla, cn 0 10 sl1), (ena, cn 0 10 en1)]) [4, 0, 1, 2, 3] rfl rfl ?_
              exact hret (wi1, pa1, ns1, us1, sl1, en1, cd1) _ _ _ _ _ _ (by intro q; rw [hen] at q; rw [hend2]; first | exact absurd q hnz | exact ⟨⟨(hI1.2 q).1, (show us1 ≤ 100 by omega), (show ns1 ≤ 10 by omega)⟩, hwp q⟩) (congrArg (fun z => some (aq z)) (by rw [hen]; first | (rw [if_pos (by omega)]; done) | (rw [if_neg (by omega)]; done) | (rw [if_neg hnz]; done))) rfl (Nat.le_of_ble_eq_true rfl) (Nat.le_of_ble_eq_true rfl) dX6_read_61
        · skip
          have hk : tkS t e 59 s1 = adv s1 := if_pos (by omega)
          refine v_ws (ws2 := [(hq, co 3 [ai wi1, ai pa1, ai ns1, ai us1, ar sla, ar ena, ar cda]), (cda, cn 0 100 cd1), (sla, cn 0 10 sl1), (ena, cn 0 10 en1), (h, co 6 (rdL tap e hq (adv s1)))]) (by rw [hk]) ?_
          have hBa := (adv_k hBq (by omega)).1
          have hma := Mv_adv hBq (show s1.1 < e by omega)
          have h1z : s1.2.1 = 0 := by omega
          refine v_aload_n (pc := 21) 0 rfl dX6_read_21 ?_
          refine v_callV (pc := 22) [4, 0, 1, 2, 3] [] [] (As := []) (rest := []) (c_X6_clause h tap e hq t (adv s1) wi1 pa1 ns1 us1 sla ena cda sl1 en1 cd1 (by exact hBa) (by first | omega | assumption) (by assumption) (by exact IE_mv hI1 hma) (by exact h1z) (by omega)) (c := 6) rfl (Or.inr ⟨4, rfl⟩) wl_X6_35 wi_X6_clause wv_X6_X6_clause_X6_clause wk_X6_clause wz_X6 md_X6_clause rfl (Nat.le_of_ble_eq_true rfl) ⟨Nat.le_of_ble_eq_true rfl, Nat.le_of_ble_eq_true rfl, Nat.le_of_ble_eq_true rfl, Nat.le_of_ble_eq_true rfl⟩ rfl rfl rfl rfl (by decide) (ro_cons (Or.inl r0) ro_nil) dX6_read_22 (fun u hu => ?_)
          obtain ⟨wi2_17, pa2_18, ns2_19, us2_20, sl2_21, en2_22, cd2_23⟩ := u
          have g_24 : IE (cls t e ((adv s1), wi1, pa1)).1 ns2_19 us2_20 sl2_21 en2_22 cd2_23 ∧ ns2_19 ≤ ns1 + 1 ∧ ((cls t e ((adv s1), wi1, pa1)).1.2.1 = 0 → wi2_17 = (cls t e ((adv s1), wi1, pa1)).2.1 ∧ pa2_18 = (cls t e ((adv s1), wi1, pa1)).2.2) := hu
          show V x cX6_read RX6 2 (rmU 24 531 0 0) [(h, co 6 (rdL tap e hq ((cls t e ((adv s1), wi1, pa1)).1))), (hq, co 3 [ai wi2_17, ai pa2_18, ai ns2_19, ai us2_20, ar sla, ar ena, ar cda]), (cda, cn 0 100 cd2_23), (sla, cn 0 10 sl2_21), (ena, cn 0 10 en2_22)] 25 [(0, ar h), (1, ai k)] [] 0 0
          have hbd := PB_cls (t := t) (c := (adv s1, wi1, pa1)) hBa
          refine v_iinc (pc := 25) 1 (L2 := [(1, ai (k + 1)), (0, ar h)]) rfl rfl (by decide) dX6_read_25 ?_
          refine v_goto (pc := 28) 6 dX6_read_28 (by decide) ?_
          refine v_sub (L2 := [(0, ar h), (1, ai (k + 1))]) [1, 0] rfl ?_
          exact ih _ (by omega) (k + 1) ((cls t e ((adv s1), wi1, pa1)).1) ((cls t e ((adv s1), wi1, pa1)).2.1) ((cls t e ((adv s1), wi1, pa1)).2.2) wi2_17 pa2_18 ns2_19 us2_20 sl2_21 en2_22 cd2_23 rfl (by omega) (by rw [← hcl, show (10 - k).toNat = (10 - (k + 1)).toNat + 1 by omega, clN_go (show s1.2.1 = 0 ∧ hr t e s1 = 59 by omega)]; show _ = clN t e _ (cls t e (adv s1, w1, p1)); rw [← (hwp h1z).1, ← (hwp h1z).2]) (by exact hbd) (by exact g_24.1) (by have := g_24.2.1; omega) (by exact g_24.2.2)
  refine v_sub (L2 := [(0, ar h), (1, ai 1)]) [1, 0] rfl ?_
  exact lp6 _ 1 ((cls t e (s, wi, pa)).1) ((cls t e (s, wi, pa)).2.1) ((cls t e (s, wi, pa)).2.2) wi2_1 pa2_2 ns2_3 us2_4 sl2_5 en2_6 cd2_7 rfl (by omega) (by rfl) (by exact hbc) (by exact g_8.1) (by have := g_8.2.1; omega) (by exact g_8.2.2)
