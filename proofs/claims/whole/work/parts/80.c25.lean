theorem fac_ex {t : Int → Int} {e : Int} {d : Nat} {s : PS} (h0 : s.2.1 = 0) (h1 : hr t e s = 33) : fac t e (d + 1) s = emi (-1) (fac t e d (adv s)) := by
  rw [fac, if_pos h0, if_pos h1]
theorem fac_br {t : Int → Int} {e : Int} {d : Nat} {s : PS} (h0 : s.2.1 = 0) (h1 : hr t e s = 40) : fac t e (d + 1) s = mstP t e 41 (soP t e (fac t e d) (adv s)) := by
  rw [fac, if_pos h0, if_neg (by omega), if_pos h1]
theorem soP_mono {t : Int → Int} {e : Int} {d : Nat} {s : PS} (h : (soP t e (fac t e d) s).2.1 = 0) : s.2.1 = 0 := by
  by_cases q : s.2.1 = 0
  · exact q
  · rw [soP_w0 q] at h
    exact h
theorem fac_mono {t : Int → Int} {e : Int} {d : Nat} {s : PS} (h : (fac t e d s).2.1 = 0) : s.2.1 = 0 := by
  by_cases q : s.2.1 = 0
  · exact q
  · rw [fac_w0 q] at h
    exact h
theorem evP_mono {t : Int → Int} {e : Int} {d : Nat} {s : PS} (h : (evP t e (fac t e d) s).2.1 = 0) : s.2.1 = 0 := by
  by_cases q : s.2.1 = 0
  · exact q
  · unfold evP at h
    rw [fac_w0 q, lpP_wx q] at h
    exact h
set_option maxHeartbeats 4000000 in
set_option maxRecDepth 100000 in
theorem c_rfac_0 {gS : sG} (h : Nat) (tap : Nat) (e : Int) (hq : Nat) (t : Int → Int) (s : PS) (wi : Int) (pa : Int) (ns : Int) (us : Int) (sla : Nat) (ena : Nat) (cda : Nat) (sl : Int → Int) (en : Int → Int) (cd : Int → Int) (hB : PB e s) (he : 0 ≤ e ∧ e ≤ 100) (htb : ∀ j : Int, 0 ≤ j → j < e → 0 ≤ t j ∧ t j ≤ 127) (hIE : IE s ns us sl en cd) : Ct gS (S := Int × (Int → Int)) yX6_factor cX6_factor 4 none 5 107 0 0 [ar h, ai 5] [(h, co 6 (rdL tap e hq s)), (hq, co 3 [ai wi, ai pa, ai ns, ai us, ar sla, ar ena, ar cda]), (cda, cn 0 100 cd)] (fun q => q ∈ ([(tap, cn 0 100 t)] : aW)) (fun u => IE (fac t e 0 s) ns u.1 sl en u.2) (fun u => none) (fun u => [(h, co 6 (rdL tap e hq (fac t e 0 s))), (hq, co 3 [ai wi, ai pa, ai ns, ai u.1, ar sla, ar ena, ar cda]), (cda, cn 0 100 u.2)]) := by
  refine ct_V RX6 [(0, ar h), (1, ai 5)] (by decide) rfl (Nat.le_of_ble_eq_true rfl) rfl (fun x hgS hnm hro hret => ?_)
  subst hgS
  have r0 := hro _ (mem_at 0 rfl)
  obtain ⟨hB1, hB2, hB3⟩ := id hB
  have hfl := flt_c hB
  have hhr := hr_v (t := t) (e := e) (s := s)
  have hub := hIE.1
  show V x cX6_factor RX6 4 (rmU 5 107 0 0) [(h, co 6 (rdL tap e hq s)), (hq, co 3 [ai wi, ai pa, ai ns, ai us, ar sla, ar ena, ar cda]), (cda, cn 0 100 cd)] 0 [(0, ar h), (1, ai 5)] [] 0 0
  refine v_iload_n (pc := 0) 1 rfl dX6_factor_0 ?_
  refine v_iconst (pc := 1) dX6_factor_1 ?_
  refine v_icmp_ge (pc := 2) 32 dX6_factor_2 (by decide) (by unfold iB; omega) (by unfold iB; omega) (fun c_1 => ?_) (fun c_1 => by exfalso; omega)
  refine v_iload_n (pc := 32) 1 rfl dX6_factor_32 ?_
  refine v_iconst (pc := 33) dX6_factor_33 ?_
  refine v_icmp_ge (pc := 34) 62 dX6_factor_34 (by decide) (by unfold iB; omega) (by unfold iB; omega) (fun c_2 => ?_) (fun c_2 => by exfalso; omega)
  refine v_aload_n (pc := 62) 0 rfl dX6_factor_62 ?_
  refine v_ldcS (pc := 63) (q := ("MatFlip$Reader", 96, "pkngsy", 7)) (List.mem_of_getElem? (i := 7) rfl) rfl dX6_factor_63 ?_
  refine v_callV (pc := 65) [0] [1, 2] [(hq, co 3 [ai wi, ai pa, ai ns, ai us, ar sla, ar ena, ar cda]), (cda, cn 0 100 cd)] (As := [ar (lK (xg x) 7)]) (rest := []) (c_X6_takesOneOf h tap e hq t s 7 (by assumption) (by first | omega | assumption) (by assumption) (by decide)) (c := 6) rfl (Or.inr ⟨0, rfl⟩) wl_X6_50 wi_X6_takesOneOf wv_X6_X6_takesOneOf_X6_takesOneOf wk_X6_takesOneOf wz_X6 md_X6_takesOneOf rfl (Nat.le_of_ble_eq_true rfl) ⟨Nat.le_of_ble_eq_true rfl, Nat.le_of_ble_eq_true rfl, Nat.le_of_ble_eq_true rfl, Nat.le_of_ble_eq_true rfl⟩ rfl rfl rfl rfl (by decide) (ro_cons (Or.inl r0) ro_nil) dX6_factor_65 (fun u hu => ?_)
  show V x cX6_factor RX6 4 (rmU 5 107 0 0) [(hq, co 3 [ai wi, ai pa, ai ns, ai us, ar sla, ar ena, ar cda]), (cda, cn 0 100 cd), (h, co 6 (rdL tap e hq ((to1 t e 7 s).2)))] 68 [(0, ar h), (1, ai 5)] [ai ((to1 t e 7 s).1)] 0 0
  have hm7 := Mv_to1 (t := t) (e := e) (i := 7) (by decide) hB
  refine v_istore_n (pc := 68) (L2 := [(2, ai ((to1 t e 7 s).1)), (0, ar h), (1, ai 5)]) rfl (by decide) dX6_factor_68 ?_
  refine v_aload_n (pc := 69) 1 rfl dX6_factor_69 ?_
  refine v_ldcS (pc := 70) (q := ("MatFlip$Reader", 98, "<=>", 8)) (List.mem_of_getElem? (i := 8) rfl) rfl dX6_factor_70 ?_
  refine v_callV (pc := 72) [2] [0, 1] [(hq, co 3 [ai wi, ai pa, ai ns, ai us, ar sla, ar ena, ar cda]), (cda, cn 0 100 cd)] (As := [ar (lK (xg x) 8)]) (rest := []) (c_X6_takesOneOf h tap e hq t ((to1 t e 7 s).2) 8 (by exact hm7.1) (by first | omega | assumption) (by assumption) (by decide)) (c := 6) rfl (Or.inr ⟨2, rfl⟩) wl_X6_50 wi_X6_takesOneOf wv_X6_X6_takesOneOf_X6_takesOneOf wk_X6_takesOneOf wz_X6 md_X6_takesOneOf rfl (Nat.le_of_ble_eq_true rfl) ⟨Nat.le_of_ble_eq_true rfl, Nat.le_of_ble_eq_true rfl, Nat.le_of_ble_eq_true rfl, Nat.le_of_ble_eq_true rfl⟩ rfl rfl rfl rfl (by decide) (ro_cons (Or.inl r0) ro_nil) dX6_factor_72 (fun u hu => ?_)
  show V x cX6_factor RX6 4 (rmU 5 107 0 0) [(hq, co 3 [ai wi, ai pa, ai ns, ai us, ar sla, ar ena, ar cda]), (cda, cn 0 100 cd), (h, co 6 (rdL tap e hq ((to1 t e 8 ((to1 t e 7 s).2)).2)))] 75 [(2, ai ((to1 t e 7 s).1)), (0, ar h), (1, ai 5)] [ai ((to1 t e 8 ((to1 t e 7 s).2)).1)] 0 0
  have hm8 := Mv_to1 (t := t) (e := e) (i := 8) (by decide) hm7.1
  refine v_istore_n (pc := 75) (L2 := [(3, ai ((to1 t e 8 ((to1 t e 7 s).2)).1)), (2, ai ((to1 t e 7 s).1)), (0, ar h), (1, ai 5)]) rfl (by decide) dX6_factor_75 ?_
  refine v_aload_n (pc := 76) 2 rfl dX6_factor_76 ?_
  refine v_get (pc := 77) (v := ar hq) 2 (Or.inr ⟨2, rfl⟩) fl_6_12_6 rfl dX6_factor_77 ?_
  refine v_iload_n (pc := 80) 1 rfl dX6_factor_80 ?_
  refine v_iload_n (pc := 81) 0 rfl dX6_factor_81 ?_
  refine v_aload_n (pc := 82) 2 rfl dX6_factor_82 ?_
  refine v_callV (pc := 83) [2] [0, 1] [(hq, co 3 [ai wi, ai pa, ai ns, ai us, ar sla, ar ena, ar cda]), (cda, cn 0 100 cd)] (As := []) (rest := [ai ((to1 t e 8 ((to1 t e 7 s).2)).1), ai ((to1 t e 7 s).1), ar hq]) (c_X6_number h tap e hq t ((to1 t e 8 ((to1 t e 7 s).2)).2) (by exact hm8.1) (by first | omega | assumption) (by assumption)) (c := 6) rfl (Or.inr ⟨2, rfl⟩) wl_X6_66 wi_X6_number wv_X6_X6_number_X6_number wk_X6_number wz_X6 md_X6_number rfl (Nat.le_of_ble_eq_true rfl) ⟨Nat.le_of_ble_eq_true rfl, Nat.le_of_ble_eq_true rfl, Nat.le_of_ble_eq_true rfl, Nat.le_of_ble_eq_true rfl⟩ rfl rfl rfl rfl (by decide) (ro_cons (Or.inl r0) ro_nil) dX6_factor_83 (fun u hu => ?_)
  show V x cX6_factor RX6 4 (rmU 5 107 0 0) [(hq, co 3 [ai wi, ai pa, ai ns, ai us, ar sla, ar ena, ar cda]), (cda, cn 0 100 cd), (h, co 6 (rdL tap e hq ((fig t e ((to1 t e 8 ((to1 t e 7 s).2)).2)).2)))] 86 [(3, ai ((to1 t e 8 ((to1 t e 7 s).2)).1)), (2, ai ((to1 t e 7 s).1)), (0, ar h), (1, ai 5)] [ai ((fig t e ((to1 t e 8 ((to1 t e 7 s).2)).2)).1), ai ((to1 t e 8 ((to1 t e 7 s).2)).1), ai ((to1 t e 7 s).1), ar hq] 0 0
  refine v_callV (pc := 86) [0, 1] [2] [(h, co 6 (rdL tap e hq ((fig t e ((to1 t e 8 ((to1 t e 7 s).2)).2)).2)))] (As := [ai ((to1 t e 7 s).1), ai ((to1 t e 8 ((to1 t e 7 s).2)).1), ai ((fig t e ((to1 t e 8 ((to1 t e 7 s).2)).2)).1)]) (rest := []) (c_X3_addTest hq wi pa ns us sla ena cda ((to1 t e 7 s).1) ((to1 t e 8 ((to1 t e 7 s).2)).1) ((fig t e ((to1 t e 8 ((to1 t e 7 s).2)).2)).1) cd (by first | omega | assumption)) (c := 3) rfl (Or.inr ⟨0, rfl⟩) wl_X6_100 wi_X3_addTest wv_X3_X3_addTest_X3_addTest wk_X3_addTest wz_X3 md_X3_addTest rfl (Nat.le_of_ble_eq_true rfl) ⟨Nat.le_of_ble_eq_true rfl, Nat.le_of_ble_eq_true rfl, Nat.le_of_ble_eq_true rfl, Nat.le_of_ble_eq_true rfl⟩ rfl rfl rfl rfl (by decide) ro_nil dX6_factor_86 (fun u hu => ?_)
  show V x cX6_factor RX6 4 (rmU 5 107 0 0) [(h, co 6 (rdL tap e hq ((fig t e ((to1 t e 8 ((to1 t e 7 s).2)).2)).2))), (hq, co 3 [ai wi, ai pa, ai ns, ai (if us < 100 then us + 1 else us), ar sla, ar ena, ar cda]), (cda, cn 0 100 (if us < 100 then aup cd us ((((to1 t e 7 s).1) * 3 + ((to1 t e 8 ((to1 t e 7 s).2)).1)) * 100 + ((fig t e ((to1 t e 8 ((to1 t e 7 s).2)).2)).1)) else cd))] 89 [(3, ai ((to1 t e 8 ((to1 t e 7 s).2)).1)), (2, ai ((to1 t e 7 s).1)), (0, ar h), (1, ai 5)] [] 0 0
  refine v_ws (ws2 := [(h, co 6 (rdL tap e hq (tsS t e s))), (hq, co 3 [ai wi, ai pa, ai ns, ai (if us < 100 then us + 1 else us), ar sla, ar ena, ar cda]), (cda, cn 0 100 (if us < 100 then aup cd us ((((to1 t e 7 s).1) * 3 + ((to1 t e 8 ((to1 t e 7 s).2)).1)) * 100 + ((fig t e ((to1 t e 8 ((to1 t e 7 s).2)).2)).1)) else cd))]) (by rfl) ?_
  refine v_ws (ws2 := [(h, co 6 (rdL tap e hq (emi (tsZ t e s) (tsS t e s)))), (hq, co 3 [ai wi, ai pa, ai ns, ai (if us < 100 then us + 1 else us), ar sla, ar ena, ar cda]), (cda, cn 0 100 (if us < 100 then aup cd us ((((to1 t e 7 s).1) * 3 + ((to1 t e 8 ((to1 t e 7 s).2)).1)) * 100 + ((fig t e ((to1 t e 8 ((to1 t e 7 s).2)).2)).1)) else cd))]) (by show [(h, co 6 [ar tap, ai e, ar hq, ai ((tsS t e s).1), ai (flt (tsS t e s))]), (hq, co 3 [ai wi, ai pa, ai ns, ai (if us < 100 then us + 1 else us), ar sla, ar ena, ar cda]), (cda, cn 0 100 (if us < 100 then aup cd us ((((to1 t e 7 s).1) * 3 + ((to1 t e 8 ((to1 t e 7 s).2)).1)) * 100 + ((fig t e ((to1 t e 8 ((to1 t e 7 s).2)).2)).1)) else cd))] = [(h, co 6 [ar tap, ai e, ar hq, ai ((emi (tsZ t e s) (tsS t e s)).1), ai (flt (emi (tsZ t e s) (tsS t e s)))]), (hq, co 3 [ai wi, ai pa, ai ns, ai (if us < 100 then us + 1 else us), ar sla, ar ena, ar cda]), (cda, cn 0 100 (if us < 100 then aup cd us ((((to1 t e 7 s).1) * 3 + ((to1 t e 8 ((to1 t e 7 s).2)).1)) * 100 + ((fig t e ((to1 t e 8 ((to1 t e 7 s).2)).2)).1)) else cd))]; rw [(emi_1 (z := (tsZ t e s)) (s := (tsS t e s))).1, (emi_1 (z := (tsZ t e s)) (s := (tsS t e s))).2.2]) ?_
  have hfc : fac t e 0 s = emi (tsZ t e s) (tsS t e s) := fac_cl hB (Or.inl rfl)
  refine v_ws (ws2 := [(h, co 6 (rdL tap e hq (fac t e 0 s))), (hq, co 3 [ai wi, ai pa, ai ns, ai (if us < 100 then us + 1 else us), ar sla, ar ena, ar cda]), (cda, cn 0 100 (if us < 100 then aup cd us ((((to1 t e 7 s).1) * 3 + ((to1 t e 8 ((to1 t e 7 s).2)).1)) * 100 + ((fig t e ((to1 t e 8 ((to1 t e 7 s).2)).2)).1)) else cd))]) (by rw [hfc]) ?_
  have hen := enc_ts (t := t) (e := e) (s := s)
  have hie := IE_code (z := tsZ t e s) (IE_mv hIE (Mv_tsS (t := t) hB)) (by omega) (tsS_sl hB he.2 (fun z => (hIE.2 z).2))
  rw [hen.1] at hie
  exact hret ((if us < 100 then us + 1 else us), (if us < 100 then aup cd us ((((to1 t e 7 s).1) * 3 + ((to1 t e 8 ((to1 t e 7 s).2)).1)) * 100 + ((fig t e ((to1 t e 8 ((to1 t e 7 s).2)).2)).1)) else cd)) _ _ _ _ _ (by rw [hfc]; exact hie) rfl rfl (Nat.le_of_ble_eq_true rfl) (Nat.le_of_ble_eq_true rfl) dX6_factor_89
set_option maxHeartbeats 4000000 in
set_option maxRecDepth 100000 in
theorem c_rbth_0 {gS : sG} (h : Nat) (tap : Nat) (e : Int) (hq : Nat) (t : Int → Int) (s : PS) (wi : Int) (pa : Int) (ns : Int) (us : Int) (sla : Nat) (ena : Nat) (cda : Nat) (sl : Int → Int) (en : Int → Int) (cd : Int → Int) (hB : PB e s) (he : 0 ≤ e ∧ e ≤ 100) (htb : ∀ j : Int, 0 ≤ j → j < e → 0 ≤ t j ∧ t j ≤ 127) (hIE : IE s ns us sl en cd) : Ct gS (S := Int × (Int → Int)) yX6_both cX6_both 3 none 6 130 0 0 [ar h, ai 5] [(h, co 6 (rdL tap e hq s)), (hq, co 3 [ai wi, ai pa, ai ns, ai us, ar sla, ar ena, ar cda]), (cda, cn 0 100 cd)] (fun q => q ∈ ([(tap, cn 0 100 t)] : aW)) (fun u => IE (evP t e (fac t e 0) s) ns u.1 sl en u.2) (fun u => none) (fun u => [(h, co 6 (rdL tap e hq (evP t e (fac t e 0) s))), (hq, co 3 [ai wi, ai pa, ai ns, ai u.1, ar sla, ar ena, ar cda]), (cda, cn 0 100 u.2)]) := by
  refine ct_V RX6 [(0, ar h), (1, ai 5)] (by decide) rfl (Nat.le_of_ble_eq_true rfl) rfl (fun x hgS hnm hro hret => ?_)
  subst hgS
  have r0 := hro _ (mem_at 0 rfl)
  obtain ⟨hB1, hB2, hB3⟩ := id hB
  have hfl := flt_c hB
  have hhr := hr_v (t := t) (e := e) (s := s)
  have hub := hIE.1
  show V x cX6_both RX6 3 (rmU 6 130 0 0) [(h, co 6 (rdL tap e hq s)), (hq, co 3 [ai wi, ai pa, ai ns, ai us, ar sla, ar ena, ar cda]), (cda, cn 0 100 cd)] 0 [(0, ar h), (1, ai 5)] [] 0 0
  refine v_aload_n (pc := 0) 0 rfl dX6_both_0 ?_
  refine v_iload_n (pc := 1) 1 rfl dX6_both_1 ?_
  refine v_callV (pc := 2) [0, 1, 2] [] [] (As := [ai 5]) (rest := []) (c_rfac_0 h tap e hq t s wi pa ns us sla ena cda sl en cd (by assumption) (by first | omega | assumption) (by assumption) (by assumption)) (c := 6) rfl (Or.inr ⟨0, rfl⟩) wl_X6_91 wi_X6_factor wv_X6_X6_factor_X6_factor wk_X6_factor wz_X6 md_X6_factor rfl (Nat.le_of_ble_eq_true rfl) ⟨Nat.le_of_ble_eq_true rfl, Nat.le_of_ble_eq_true rfl, Nat.le_of_ble_eq_true rfl, Nat.le_of_ble_eq_true rfl⟩ rfl rfl rfl rfl (by decide) (ro_cons (Or.inl r0) ro_nil) dX6_both_2 (fun u hu => ?_)
  obtain ⟨us2_1, cd2_2⟩ := u
  have g_3 : IE (fac t e 0 s) ns us2_1 sl en cd2_2 := hu
  show V x cX6_both RX6 3 (rmU 6 130 0 0) [(h, co 6 (rdL tap e hq (fac t e 0 s))), (hq, co 3 [ai wi, ai pa, ai ns, ai us2_1, ar sla, ar ena, ar cda]), (cda, cn 0 100 cd2_2)] 5 [(0, ar h), (1, ai 5)] [] 0 0
  have hp1 := fac_k (t := t) 0 s hB
  refine v_iconst (pc := 5) dX6_both_5 ?_
  refine v_istore_n (pc := 6) (L2 := [(2, ai 0), (0, ar h), (1, ai 5)]) rfl (by decide) dX6_both_6 ?_
  have lp7 : ∀ (mm : Nat) (k : Int) (s1 : PS) (us1 : Int) (cd1 : Int → Int), (100 - k).toNat = mm → (0 ≤ k ∧ k ≤ 100) → (lpP t e 38 (-2) (fac t e 0) 101 s1 = evP t e (fac t e 0) s) → (PB e s1) → (IE s1 ns us1 sl en cd1) → (k ≤ s1.1) → V x cX6_both RX6 3 (rmU 6 130 0 0) [(h, co 6 (rdL tap e hq s1)), (hq, co 3 [ai wi, ai pa, ai ns, ai us1, ar sla, ar ena, ar cda]), (cda, cn 0 100 cd1)] 7 [(0, ar h), (1, ai 5), (2, ai k)] [] 0 0 := by
    intro mm
    induction mm using Nat.strongRecOn with
    | _ mm ih =>
      intro k s1 us1 cd1 hmm hk hlp hBq hI1 hks
      obtain ⟨hQ1, hQ2, hQ3⟩ := id hBq
      have hfl1 := flt_c hBq
      have hhr1 := hr_v (t := t) (e := e) (s := s1)
      have hub1 := hI1.1
      refine v_iload_n (pc := 7) 2 rfl dX6_both_7 ?_
      refine v_bipush (pc := 8) dX6_both_8 (by decide) ?_
      refine v_icmp_ge (pc := 10) 42 dX6_both_10 (by decide) (by unfold iB; omega) (by unfold iB; omega) (fun c_4 => ?_) (fun c_4 => ?_)
      · skip
        have he1 : evP t e (fac t e 0) s = s1 := hlp.symm.trans (lpP_st (by omega))
        refine v_ws (ws2 := [(h, co 6 (rdL tap e hq (evP t e (fac t e 0) s))), (hq, co 3 [ai wi, ai pa, ai ns, ai us1, ar sla, ar ena, ar cda]), (cda, cn 0 100 cd1)]) (by rw [he1]) ?_
        exact hret (us1, cd1) _ _ _ _ _ (by rw [he1]; exact hI1) rfl rfl (Nat.le_of_ble_eq_true rfl) (Nat.le_of_ble_eq_true rfl) dX6_both_42
      · skip
        refine v_aload_n (pc := 13) 0 rfl dX6_both_13 ?_
        refine v_bipush (pc := 14) dX6_both_14 (by decide) ?_
        refine v_callV (pc := 16) [0] [1, 2] [(hq, co 3 [ai wi, ai pa, ai ns, ai us1, ar sla, ar ena, ar cda]), (cda, cn 0 100 cd1)] (As := [ai 38]) (rest := []) (c_X6_takes h tap e hq t s1 38 (by exact hBq) (by first | omega | assumption) (by assumption) (by first | omega | assumption)) (c := 6) rfl (Or.inr ⟨0, rfl⟩) wl_X6_38 wi_X6_takes wv_X6_X6_takes_X6_takes wk_X6_takes wz_X6 md_X6_takes rfl (Nat.le_of_ble_eq_true rfl) ⟨Nat.le_of_ble_eq_true rfl, Nat.le_of_ble_eq_true rfl, Nat.le_of_ble_eq_true rfl, Nat.le_of_ble_eq_true rfl⟩ rfl rfl rfl rfl (by decide) (ro_cons (Or.inl r0) ro_nil) dX6_both_16 (fun u hu => ?_)
        show V x cX6_both RX6 3 (rmU 6 130 0 0) [(hq, co 3 [ai wi, ai pa, ai ns, ai us1, ar sla, ar ena, ar cda]), (cda, cn 0 100 cd1), (h, co 6 (rdL tap e hq (tkS t e 38 s1)))] 19 [(0, ar h), (1, ai 5), (2, ai k)] [ai (if s1.2.1 = 0 ∧ hr t e s1 = 38 then 1 else 0)] 0 0
        refine v_ifb_eq (pc := 19) 42 dX6_both_19 (by decide) (fun c_5 => ?_) (fun c_5 => ?_)
        · skip
          have hk : tkS t e 38 s1 = s1 := if_neg (by omega)
          refine v_ws (ws2 := [(hq, co 3 [ai wi, ai pa, ai ns, ai us1, ar sla, ar ena, ar cda]), (cda, cn 0 100 cd1), (h, co 6 (rdL tap e hq s1))]) (by rw [hk]) ?_
          have he1 : evP t e (fac t e 0) s = s1 := hlp.symm.trans (lpP_st (by omega))
          refine v_ws (ws2 := [(hq, co 3 [ai wi, ai pa, ai ns, ai us1, ar sla, ar ena, ar cda]), (cda, cn 0 100 cd1), (h, co 6 (rdL tap e hq (evP t e (fac t e 0) s)))]) (by rw [he1]) ?_
          refine v_wsub (ws2 := [(h, co 6 (rdL tap e hq (evP t e (fac t e 0) s))), (hq, co 3 [ai wi, ai pa, ai ns, ai us1, ar sla, ar ena, ar cda]), (cda, cn 0 100 cd1)]) [2, 0, 1] rfl rfl ?_
          exact hret (us1, cd1) _ _ _ _ _ (by rw [he1]; exact hI1) rfl rfl (Nat.le_of_ble_eq_true rfl) (Nat.le_of_ble_eq_true rfl) dX6_both_42
        · skip
          have hk : tkS t e 38 s1 = adv s1 := if_pos (by omega)
          refine v_ws (ws2 := [(hq, co 3 [ai wi, ai pa, ai ns, ai us1, ar sla, ar ena, ar cda]), (cda, cn 0 100 cd1), (h, co 6 (rdL tap e hq (adv s1)))]) (by rw [hk]) ?_
          have hBa := (adv_k hBq (by omega)).1
          have hma := Mv_adv hBq (show s1.1 < e by omega)
          refine v_aload_n (pc := 22) 0 rfl dX6_both_22 ?_
          refine v_iload_n (pc := 23) 1 rfl dX6_both_23 ?_
          refine v_callV (pc := 24) [2, 0, 1] [] [] (As := [ai 5]) (rest := []) (c_rfac_0 h tap e hq t (adv s1) wi pa ns us1 sla ena cda sl en cd1 (by exact hBa) (by first | omega | assumption) (by assumption) (by exact IE_mv hI1 hma)) (c := 6) rfl (Or.inr ⟨2, rfl⟩) wl_X6_91 wi_X6_factor wv_X6_X6_factor_X6_factor wk_X6_factor wz_X6 md_X6_factor rfl (Nat.le_of_ble_eq_true rfl) ⟨Nat.le_of_ble_eq_true rfl, Nat.le_of_ble_eq_true rfl, Nat.le_of_ble_eq_true rfl, Nat.le_of_ble_eq_true rfl⟩ rfl rfl rfl rfl (by decide) (ro_cons (Or.inl r0) ro_nil) dX6_both_24 (fun u hu => ?_)
          obtain ⟨us2_6, cd2_7⟩ := u
          have g_8 : IE (fac t e 0 (adv s1)) ns us2_6 sl en cd2_7 := hu
          show V x cX6_both RX6 3 (rmU 6 130 0 0) [(h, co 6 (rdL tap e hq (fac t e 0 (adv s1)))), (hq, co 3 [ai wi, ai pa, ai ns, ai us2_6, ar sla, ar ena, ar cda]), (cda, cn 0 100 cd2_7)] 27 [(0, ar h), (1, ai 5), (2, ai k)] [] 0 0
          have hpx := fac_k (t := t) 0 (adv s1) hBa
          have hp2 := hpx.2.1
          have had : (adv s1).1 = s1.1 + 1 := rfl
          have hub3 := g_8.1
          refine v_aload_n (pc := 27) 0 rfl dX6_both_27 ?_
          refine v_get (pc := 28) (v := ar hq) 2 (Or.inr ⟨0, rfl⟩) fl_6_12_6 rfl dX6_both_28 ?_
          refine v_bipush (pc := 31) dX6_both_31 (by decide) ?_
          refine v_callV (pc := 33) [1, 2] [0] [(h, co 6 (rdL tap e hq (fac t e 0 (adv s1))))] (As := [ai (-2)]) (rest := []) (c_X3_addCode hq wi pa ns us2_6 sla ena cda (-2) cd2_7 (by first | omega | assumption)) (c := 3) rfl (Or.inr ⟨1, rfl⟩) wl_X6_88 wi_X3_addCode wv_X3_X3_addCode_X3_addCode wk_X3_addCode wz_X3 md_X3_addCode rfl (Nat.le_of_ble_eq_true rfl) ⟨Nat.le_of_ble_eq_true rfl, Nat.le_of_ble_eq_true rfl, Nat.le_of_ble_eq_true rfl, Nat.le_of_ble_eq_true rfl⟩ rfl rfl rfl rfl (by decide) ro_nil dX6_both_33 (fun u hu => ?_)
          show V x cX6_both RX6 3 (rmU 6 130 0 0) [(h, co 6 (rdL tap e hq (fac t e 0 (adv s1)))), (hq, co 3 [ai wi, ai pa, ai ns, ai (if us2_6 < 100 then us2_6 + 1 else us2_6), ar sla, ar ena, ar cda]), (cda, cn 0 100 (if us2_6 < 100 then aup cd2_7 us2_6 (-2) else cd2_7))] 36 [(0, ar h), (1, ai 5), (2, ai k)] [] 0 0
          refine v_ws (ws2 := [(h, co 6 (rdL tap e hq (emi (-2) (fac t e 0 (adv s1))))), (hq, co 3 [ai wi, ai pa, ai ns, ai (if us2_6 < 100 then us2_6 + 1 else us2_6), ar sla, ar ena, ar cda]), (cda, cn 0 100 (if us2_6 < 100 then aup cd2_7 us2_6 (-2) else cd2_7))]) (by show [(h, co 6 [ar tap, ai e, ar hq, ai ((fac t e 0 (adv s1)).1), ai (flt (fac t e 0 (adv s1)))]), (hq, co 3 [ai wi, ai pa, ai ns, ai (if us2_6 < 100 then us2_6 + 1 else us2_6), ar sla, ar ena, ar cda]), (cda, cn 0 100 (if us2_6 < 100 then aup cd2_7 us2_6 (-2) else cd2_7))] = [(h, co 6 [ar tap, ai e, ar hq, ai ((emi (-2) (fac t e 0 (adv s1))).1), ai (flt (emi (-2) (fac t e 0 (adv s1))))]), (hq, co 3 [ai wi, ai pa, ai ns, ai (if us2_6 < 100 then us2_6 + 1 else us2_6), ar sla, ar ena, ar cda]), (cda, cn 0 100 (if us2_6 < 100 then aup cd2_7 us2_6 (-2) else cd2_7))]; rw [(emi_1 (z := -2) (s := (fac t e 0 (adv s1)))).1, (emi_1 (z := -2) (s := (fac t e 0 (adv s1)))).2.2]) ?_
          refine v_iinc (pc := 36) 2 (L2 := [(2, ai (k + 1)), (0, ar h), (1, ai 5)]) rfl rfl (by decide) dX6_both_36 ?_
          refine v_goto (pc := 39) 7 dX6_both_39 (by decide) ?_
          refine v_sub (L2 := [(0, ar h), (1, ai 5), (2, ai (k + 1))]) [1, 2, 0] rfl ?_
          exact ih _ (by omega) (k + 1) (emi (-2) (fac t e 0 (adv s1))) (if us2_6 < 100 then us2_6 + 1 else us2_6) (if us2_6 < 100 then aup cd2_7 us2_6 (-2) else cd2_7) rfl (by omega) (by rw [← hlp]; exact (lpP_go (by decide) (fac_k (t := t) 0) he.2 hBq (by omega) (by omega)).symm) (by exact PB_emi hpx.1) (by exact IE_code g_8 (by decide) (sl_of hpx (fun z => by show ((s1.2.2.length : Nat) : Int) + 1 ≤ s1.1 + 1; have := (hI1.2 z).2; omega) fac_mono he.2)) (by rw [emi_1.1]; omega)
  refine v_sub (L2 := [(0, ar h), (1, ai 5), (2, ai 0)]) [1, 2, 0] rfl ?_
  exact lp7 _ 0 (fac t e 0 s) us2_1 cd2_2 rfl (by omega) (by rfl) (by exact hp1.1) (by exact g_3) (by have := hp1.2.1; omega)
set_option maxHeartbeats 4000000 in
set_option maxRecDepth 100000 in
theorem c_reit_0 {gS : sG} (h : Nat) (tap : Nat) (e : Int) (hq : Nat) (t : Int → Int) (s : PS) (wi : Int) (pa : Int) (ns : Int) (us : Int) (sla : Nat) (ena : Nat) (cda : Nat) (sl : Int → Int) (en : Int → Int) (cd : Int → Int) (hB : PB e s) (he : 0 ≤ e ∧ e ≤ 100) (htb : ∀ j : Int, 0 ≤ j → j < e → 0 ≤ t j ∧ t j ≤ 127) (hIE : IE s ns us sl en cd) : Ct gS (S := Int × (Int → Int)) yX6_either cX6_either 3 none 7 152 0 0 [ar h, ai 5] [(h, co 6 (rdL tap e hq s)), (hq, co 3 [ai wi, ai pa, ai ns, ai us, ar sla, ar ena, ar cda]), (cda, cn 0 100 cd)] (fun q => q ∈ ([(tap, cn 0 100 t)] : aW)) (fun u => IE (soP t e (fac t e 0) s) ns u.1 sl en u.2) (fun u => none) (fun u => [(h, co 6 (rdL tap e hq (soP t e (fac t e 0) s))), (hq, co 3 [ai wi, ai pa, ai ns, ai u.1, ar sla, ar ena, ar cda]), (cda, cn 0 100 u.2)]) := by
  refine ct_V RX6 [(0, ar h), (1, ai 5)] (by decide) rfl (Nat.le_of_ble_eq_true rfl) rfl (fun x hgS hnm hro hret => ?_)
  subst hgS
  have r0 := hro _ (mem_at 0 rfl)
  obtain ⟨hB1, hB2, hB3⟩ := id hB
  have hfl := flt_c hB
  have hhr := hr_v (t := t) (e := e) (s := s)
  have hub := hIE.1
  show V x cX6_either RX6 3 (rmU 7 152 0 0) [(h, co 6 (rdL tap e hq s)), (hq, co 3 [ai wi, ai pa, ai ns, ai us, ar sla, ar ena, ar cda]), (cda, cn 0 100 cd)] 0 [(0, ar h), (1, ai 5)] [] 0 0
  refine v_aload_n (pc := 0) 0 rfl dX6_either_0 ?_
  refine v_iload_n (pc := 1) 1 rfl dX6_either_1 ?_
  refine v_callV (pc := 2) [0, 1, 2] [] [] (As := [ai 5]) (rest := []) (c_rbth_0 h tap e hq t s wi pa ns us sla ena cda sl en cd (by assumption) (by first | omega | assumption) (by assumption) (by assumption)) (c := 6) rfl (Or.inr ⟨0, rfl⟩) wl_X6_85 wi_X6_both wv_X6_X6_both_X6_both wk_X6_both wz_X6 md_X6_both rfl (Nat.le_of_ble_eq_true rfl) ⟨Nat.le_of_ble_eq_true rfl, Nat.le_of_ble_eq_true rfl, Nat.le_of_ble_eq_true rfl, Nat.le_of_ble_eq_true rfl⟩ rfl rfl rfl rfl (by decide) (ro_cons (Or.inl r0) ro_nil) dX6_either_2 (fun u hu => ?_)
  obtain ⟨us2_1, cd2_2⟩ := u
  have g_3 : IE (evP t e (fac t e 0) s) ns us2_1 sl en cd2_2 := hu
  show V x cX6_either RX6 3 (rmU 7 152 0 0) [(h, co 6 (rdL tap e hq (evP t e (fac t e 0) s))), (hq, co 3 [ai wi, ai pa, ai ns, ai us2_1, ar sla, ar ena, ar cda]), (cda, cn 0 100 cd2_2)] 5 [(0, ar h), (1, ai 5)] [] 0 0
  have hp1 := evP_k (t := t) (fac_k (t := t) 0) s hB
  refine v_iconst (pc := 5) dX6_either_5 ?_
  refine v_istore_n (pc := 6) (L2 := [(2, ai 0), (0, ar h), (1, ai 5)]) rfl (by decide) dX6_either_6 ?_
  have lp7 : ∀ (mm : Nat) (k : Int) (s1 : PS) (us1 : Int) (cd1 : Int → Int), (100 - k).toNat = mm → (0 ≤ k ∧ k ≤ 100) → (lpP t e 124 (-3) (evP t e (fac t e 0)) 101 s1 = soP t e (fac t e 0) s) → (PB e s1) → (IE s1 ns us1 sl en cd1) → (k ≤ s1.1) → V x cX6_either RX6 3 (rmU 7 152 0 0) [(h, co 6 (rdL tap e hq s1)), (hq, co 3 [ai wi, ai pa, ai ns, ai us1, ar sla, ar ena, ar cda]), (cda, cn 0 100 cd1)] 7 [(0, ar h), (1, ai 5), (2, ai k)] [] 0 0 := by
    intro mm
    induction mm using Nat.strongRecOn with
    | _ mm ih =>
      intro k s1 us1 cd1 hmm hk hlp hBq hI1 hks
      obtain ⟨hQ1, hQ2, hQ3⟩ := id hBq
      have hfl1 := flt_c hBq
      have hhr1 := hr_v (t := t) (e := e) (s := s1)
      have hub1 := hI1.1
      refine v_iload_n (pc := 7) 2 rfl dX6_either_7 ?_
      refine v_bipush (pc := 8) dX6_either_8 (by decide) ?_
      refine v_icmp_ge (pc := 10) 42 dX6_either_10 (by decide) (by unfold iB; omega) (by unfold iB; omega) (fun c_4 => ?_) (fun c_4 => ?_)
      · skip
        have he1 : soP t e (fac t e 0) s = s1 := hlp.symm.trans (lpP_st (by omega))
        refine v_ws (ws2 := [(h, co 6 (rdL tap e hq (soP t e (fac t e 0) s))), (hq, co 3 [ai wi, ai pa, ai ns, ai us1, ar sla, ar ena, ar cda]), (cda, cn 0 100 cd1)]) (by rw [he1]) ?_
        exact hret (us1, cd1) _ _ _ _ _ (by rw [he1]; exact hI1) rfl rfl (Nat.le_of_ble_eq_true rfl) (Nat.le_of_ble_eq_true rfl) dX6_either_42
      · skip
        refine v_aload_n (pc := 13) 0 rfl dX6_either_13 ?_
        refine v_bipush (pc := 14) dX6_either_14 (by decide) ?_
        refine v_callV (pc := 16) [0] [1, 2] [(hq, co 3 [ai wi, ai pa, ai ns, ai us1, ar sla, ar ena, ar cda]), (cda, cn 0 100 cd1)] (As := [ai 124]) (rest := []) (c_X6_takes h tap e hq t s1 124 (by exact hBq) (by first | omega | assumption) (by assumption) (by first | omega | assumption)) (c := 6) rfl (Or.inr ⟨0, rfl⟩) wl_X6_38 wi_X6_takes wv_X6_X6_takes_X6_takes wk_X6_takes wz_X6 md_X6_takes rfl (Nat.le_of_ble_eq_true rfl) ⟨Nat.le_of_ble_eq_true rfl, Nat.le_of_ble_eq_true rfl, Nat.le_of_ble_eq_true rfl, Nat.le_of_ble_eq_true rfl⟩ rfl rfl rfl rfl (by decide) (ro_cons (Or.inl r0) ro_nil) dX6_either_16 (fun u hu => ?_)
        show V x cX6_either RX6 3 (rmU 7 152 0 0) [(hq, co 3 [ai wi, ai pa, ai ns, ai us1, ar sla, ar ena, ar cda]), (cda, cn 0 100 cd1), (h, co 6 (rdL tap e hq (tkS t e 124 s1)))] 19 [(0, ar h), (1, ai 5), (2, ai k)] [ai (if s1.2.1 = 0 ∧ hr t e s1 = 124 then 1 else 0)] 0 0
        refine v_ifb_eq (pc := 19) 42 dX6_either_19 (by decide) (fun c_5 => ?_) (fun c_5 => ?_)
        · skip
          have hk : tkS t e 124 s1 = s1 := if_neg (by omega)
          refine v_ws (ws2 := [(hq, co 3 [ai wi, ai pa, ai ns, ai us1, ar sla, ar ena, ar cda]), (cda, cn 0 100 cd1), (h, co 6 (rdL tap e hq s1))]) (by rw [hk]) ?_
          have he1 : soP t e (fac t e 0) s = s1 := hlp.symm.trans (lpP_st (by omega))
          refine v_ws (ws2 := [(hq, co 3 [ai wi, ai pa, ai ns, ai us1, ar sla, ar ena, ar cda]), (cda, cn 0 100 cd1), (h, co 6 (rdL tap e hq (soP t e (fac t e 0) s)))]) (by rw [he1]) ?_
          refine v_wsub (ws2 := [(h, co 6 (rdL tap e hq (soP t e (fac t e 0) s))), (hq, co 3 [ai wi, ai pa, ai ns, ai us1, ar sla, ar ena, ar cda]), (cda, cn 0 100 cd1)]) [2, 0, 1] rfl rfl ?_
          exact hret (us1, cd1) _ _ _ _ _ (by rw [he1]; exact hI1) rfl rfl (Nat.le_of_ble_eq_true rfl) (Nat.le_of_ble_eq_true rfl) dX6_either_42
        · skip
          have hk : tkS t e 124 s1 = adv s1 := if_pos (by omega)
          refine v_ws (ws2 := [(hq, co 3 [ai wi, ai pa, ai ns, ai us1, ar sla, ar ena, ar cda]), (cda, cn 0 100 cd1), (h, co 6 (rdL tap e hq (adv s1)))]) (by rw [hk]) ?_
          have hBa := (adv_k hBq (by omega)).1
          have hma := Mv_adv hBq (show s1.1 < e by omega)
          refine v_aload_n (pc := 22) 0 rfl dX6_either_22 ?_
          refine v_iload_n (pc := 23) 1 rfl dX6_either_23 ?_
          refine v_callV (pc := 24) [2, 0, 1] [] [] (As := [ai 5]) (rest := []) (c_rbth_0 h tap e hq t (adv s1) wi pa ns us1 sla ena cda sl en cd1 (by exact hBa) (by first | omega | assumption) (by assumption) (by exact IE_mv hI1 hma)) (c := 6) rfl (Or.inr ⟨2, rfl⟩) wl_X6_85 wi_X6_both wv_X6_X6_both_X6_both wk_X6_both wz_X6 md_X6_both rfl (Nat.le_of_ble_eq_true rfl) ⟨Nat.le_of_ble_eq_true rfl, Nat.le_of_ble_eq_true rfl, Nat.le_of_ble_eq_true rfl, Nat.le_of_ble_eq_true rfl⟩ rfl rfl rfl rfl (by decide) (ro_cons (Or.inl r0) ro_nil) dX6_either_24 (fun u hu => ?_)
          obtain ⟨us2_6, cd2_7⟩ := u
          have g_8 : IE (evP t e (fac t e 0) (adv s1)) ns us2_6 sl en cd2_7 := hu
          show V x cX6_either RX6 3 (rmU 7 152 0 0) [(h, co 6 (rdL tap e hq (evP t e (fac t e 0) (adv s1)))), (hq, co 3 [ai wi, ai pa, ai ns, ai us2_6, ar sla, ar ena, ar cda]), (cda, cn 0 100 cd2_7)] 27 [(0, ar h), (1, ai 5), (2, ai k)] [] 0 0
          have hpx := evP_k (t := t) (fac_k (t := t) 0) (adv s1) hBa
          have hp2 := hpx.2.1
          have had : (adv s1).1 = s1.1 + 1 := rfl
          have hub3 := g_8.1
          refine v_aload_n (pc := 27) 0 rfl dX6_either_27 ?_
          refine v_get (pc := 28) (v := ar hq) 2 (Or.inr ⟨0, rfl⟩) fl_6_12_6 rfl dX6_either_28 ?_
          refine v_bipush (pc := 31) dX6_either_31 (by decide) ?_
          refine v_callV (pc := 33) [1, 2] [0] [(h, co 6 (rdL tap e hq (evP t e (fac t e 0) (adv s1))))] (As := [ai (-3)]) (rest := []) (c_X3_addCode hq wi pa ns us2_6 sla ena cda (-3) cd2_7 (by first | omega | assumption)) (c := 3) rfl (Or.inr ⟨1, rfl⟩) wl_X6_88 wi_X3_addCode wv_X3_X3_addCode_X3_addCode wk_X3_addCode wz_X3 md_X3_addCode rfl (Nat.le_of_ble_eq_true rfl) ⟨Nat.le_of_ble_eq_true rfl, Nat.le_of_ble_eq_true rfl, Nat.le_of_ble_eq_true rfl, Nat.le_of_ble_eq_true rfl⟩ rfl rfl rfl rfl (by decide) ro_nil dX6_either_33 (fun u hu => ?_)
          show V x cX6_either RX6 3 (rmU 7 152 0 0) [(h, co 6 (rdL tap e hq (evP t e (fac t e 0) (adv s1)))), (hq, co 3 [ai wi, ai pa, ai ns, ai (if us2_6 < 100 then us2_6 + 1 else us2_6), ar sla, ar ena, ar cda]), (cda, cn 0 100 (if us2_6 < 100 then aup cd2_7 us2_6 (-3) else cd2_7))] 36 [(0, ar h), (1, ai 5), (2, ai k)] [] 0 0
          refine v_ws (ws2 := [(h, co 6 (rdL tap e hq (emi (-3) (evP t e (fac t e 0) (adv s1))))), (hq, co 3 [ai wi, ai pa, ai ns, ai (if us2_6 < 100 then us2_6 + 1 else us2_6), ar sla, ar ena, ar cda]), (cda, cn 0 100 (if us2_6 < 100 then aup cd2_7 us2_6 (-3) else cd2_7))]) (by show [(h, co 6 [ar tap, ai e, ar hq, ai ((evP t e (fac t e 0) (adv s1)).1), ai (flt (evP t e (fac t e 0) (adv s1)))]), (hq, co 3 [ai wi, ai pa, ai ns, ai (if us2_6 < 100 then us2_6 + 1 else us2_6), ar sla, ar ena, ar cda]), (cda, cn 0 100 (if us2_6 < 100 then aup cd2_7 us2_6 (-3) else cd2_7))] = [(h, co 6 [ar tap, ai e, ar hq, ai ((emi (-3) (evP t e (fac t e 0) (adv s1))).1), ai (flt (emi (-3) (evP t e (fac t e 0) (adv s1))))]), (hq, co 3 [ai wi, ai pa, ai ns, ai (if us2_6 < 100 then us2_6 + 1 else us2_6), ar sla, ar ena, ar cda]), (cda, cn 0 100 (if us2_6 < 100 then aup cd2_7 us2_6 (-3) else cd2_7))]; rw [(emi_1 (z := -3) (s := (evP t e (fac t e 0) (adv s1)))).1, (emi_1 (z := -3) (s := (evP t e (fac t e 0) (adv s1)))).2.2]) ?_
          refine v_iinc (pc := 36) 2 (L2 := [(2, ai (k + 1)), (0, ar h), (1, ai 5)]) rfl rfl (by decide) dX6_either_36 ?_
          refine v_goto (pc := 39) 7 dX6_either_39 (by decide) ?_
          refine v_sub (L2 := [(0, ar h), (1, ai 5), (2, ai (k + 1))]) [1, 2, 0] rfl ?_
          exact ih _ (by omega) (k + 1) (emi (-3) (evP t e (fac t e 0) (adv s1))) (if us2_6 < 100 then us2_6 + 1 else us2_6) (if us2_6 < 100 then aup cd2_7 us2_6 (-3) else cd2_7) rfl (by omega) (by rw [← hlp]; exact (lpP_go (by decide) (evP_k (t := t) (fac_k (t := t) 0)) he.2 hBq (by omega) (by omega)).symm) (by exact PB_emi hpx.1) (by exact IE_code g_8 (by decide) (sl_of hpx (fun z => by show ((s1.2.2.length : Nat) : Int) + 1 ≤ s1.1 + 1; have := (hI1.2 z).2; omega) evP_mono he.2)) (by rw [emi_1.1]; omega)
  refine v_sub (L2 := [(0, ar h), (1, ai 5), (2, ai 0)]) [1, 2, 0] rfl ?_
  exact lp7 _ 0 (evP t e (fac t e 0) s) us2_1 cd2_2 rfl (by omega) (by rfl) (by exact hp1.1) (by exact g_3) (by have := hp1.2.1; omega)
set_option maxHeartbeats 4000000 in
set_option maxRecDepth 100000 in
theorem c_rfac_1 {gS : sG} (h : Nat) (tap : Nat) (e : Int) (hq : Nat) (t : Int → Int) (s : PS) (wi : Int) (pa : Int) (ns : Int) (us : Int) (sla : Nat) (ena : Nat) (cda : Nat) (sl : Int → Int) (en : Int → Int) (cd : Int → Int) (hB : PB e s) (he : 0 ≤ e ∧ e ≤ 100) (htb : ∀ j : Int, 0 ≤ j → j < e → 0 ≤ t j ∧ t j ≤ 127) (hIE : IE s ns us sl en cd) : Ct gS (S := Int × (Int → Int)) yX6_factor cX6_factor 4 none 8 174 0 0 [ar h, ai 4] [(h, co 6 (rdL tap e hq s)), (hq, co 3 [ai wi, ai pa, ai ns, ai us, ar sla, ar ena, ar cda]), (cda, cn 0 100 cd)] (fun q => q ∈ ([(tap, cn 0 100 t)] : aW)) (fun u => IE (fac t e 1 s) ns u.1 sl en u.2) (fun u => none) (fun u => [(h, co 6 (rdL tap e hq (fac t e 1 s))), (hq, co 3 [ai wi, ai pa, ai ns, ai u.1, ar sla, ar ena, ar cda]), (cda, cn 0 100 u.2)]) := by
  refine ct_V RX6 [(0, ar h), (1, ai 4)] (by decide) rfl (Nat.le_of_ble_eq_true rfl) rfl (fun x hgS hnm hro hret => ?_)
  subst hgS
  have r0 := hro _ (mem_at 0 rfl)
  obtain ⟨hB1, hB2, hB3⟩ := id hB
  have hfl := flt_c hB
  have hhr := hr_v (t := t) (e := e) (s := s)
  have hub := hIE.1
  show V x cX6_factor RX6 4 (rmU 8 174 0 0) [(h, co 6 (rdL tap e hq s)), (hq, co 3 [ai wi, ai pa, ai ns, ai us, ar sla, ar ena, ar cda]), (cda, cn 0 100 cd)] 0 [(0, ar h), (1, ai 4)] [] 0 0
  refine v_iload_n (pc := 0) 1 rfl dX6_factor_0 ?_
  refine v_iconst (pc := 1) dX6_factor_1 ?_
  refine v_icmp_ge (pc := 2) 32 dX6_factor_2 (by decide) (by unfold iB; omega) (by unfold iB; omega) (fun c_1 => by exfalso; omega) (fun c_1 => ?_)
  refine v_aload_n (pc := 5) 0 rfl dX6_factor_5 ?_
  refine v_bipush (pc := 6) dX6_factor_6 (by decide) ?_
  refine v_callV (pc := 8) [0] [1, 2] [(hq, co 3 [ai wi, ai pa, ai ns, ai us, ar sla, ar ena, ar cda]), (cda, cn 0 100 cd)] (As := [ai 33]) (rest := []) (c_X6_takes h tap e hq t s 33 (by assumption) (by first | omega | assumption) (by assumption) (by first | omega | assumption)) (c := 6) rfl (Or.inr ⟨0, rfl⟩) wl_X6_38 wi_X6_takes wv_X6_X6_takes_X6_takes wk_X6_takes wz_X6 md_X6_takes rfl (Nat.le_of_ble_eq_true rfl) ⟨Nat.le_of_ble_eq_true rfl, Nat.le_of_ble_eq_true rfl, Nat.le_of_ble_eq_true rfl, Nat.le_of_ble_eq_true rfl⟩ rfl rfl rfl rfl (by decide) (ro_cons (Or.inl r0) ro_nil) dX6_factor_8 (fun u hu => ?_)
  show V x cX6_factor RX6 4 (rmU 8 174 0 0) [(hq, co 3 [ai wi, ai pa, ai ns, ai us, ar sla, ar ena, ar cda]), (cda, cn 0 100 cd), (h, co 6 (rdL tap e hq (tkS t e 33 s)))] 11 [(0, ar h), (1, ai 4)] [ai (if s.2.1 = 0 ∧ hr t e s = 33 then 1 else 0)] 0 0
  refine v_ifb_eq (pc := 11) 32 dX6_factor_11 (by decide) (fun c_2 => ?_) (fun c_2 => ?_)
  · skip
    have hk : tkS t e 33 s = s := if_neg (by omega)
    refine v_ws (ws2 := [(hq, co 3 [ai wi, ai pa, ai ns, ai us, ar sla, ar ena, ar cda]), (cda, cn 0 100 cd), (h, co 6 (rdL tap e hq s))]) (by rw [hk]) ?_
    refine v_iload_n (pc := 32) 1 rfl dX6_factor_32 ?_
    refine v_iconst (pc := 33) dX6_factor_33 ?_
    refine v_icmp_ge (pc := 34) 62 dX6_factor_34 (by decide) (by unfold iB; omega) (by unfold iB; omega) (fun c_3 => by exfalso; omega) (fun c_3 => ?_)
    refine v_aload_n (pc := 37) 0 rfl dX6_factor_37 ?_
    refine v_bipush (pc := 38) dX6_factor_38 (by decide) ?_
    refine v_callV (pc := 40) [2] [0, 1] [(hq, co 3 [ai wi, ai pa, ai ns, ai us, ar sla, ar ena, ar cda]), (cda, cn 0 100 cd)] (As := [ai 40]) (rest := []) (c_X6_takes h tap e hq t s 40 (by assumption) (by first | omega | assumption) (by assumption) (by first | omega | assumption)) (c := 6) rfl (Or.inr ⟨2, rfl⟩) wl_X6_38 wi_X6_takes wv_X6_X6_takes_X6_takes wk_X6_takes wz_X6 md_X6_takes rfl (Nat.le_of_ble_eq_true rfl) ⟨Nat.le_of_ble_eq_true rfl, Nat.le_of_ble_eq_true rfl, Nat.le_of_ble_eq_true rfl, Nat.le_of_ble_eq_true rfl⟩ rfl rfl rfl rfl (by decide) (ro_cons (Or.inl r0) ro_nil) dX6_factor_40 (fun u hu => ?_)
    show V x cX6_factor RX6 4 (rmU 8 174 0 0) [(hq, co 3 [ai wi, ai pa, ai ns, ai us, ar sla, ar ena, ar cda]), (cda, cn 0 100 cd), (h, co 6 (rdL tap e hq (tkS t e 40 s)))] 43 [(0, ar h), (1, ai 4)] [ai (if s.2.1 = 0 ∧ hr t e s = 40 then 1 else 0)] 0 0
    refine v_ifb_eq (pc := 43) 62 dX6_factor_43 (by decide) (fun c_4 => ?_) (fun c_4 => ?_)
    · skip
      have hk : tkS t e 40 s = s := if_neg (by omega)
      refine v_ws (ws2 := [(hq, co 3 [ai wi, ai pa, ai ns, ai us, ar sla, ar ena, ar cda]), (cda, cn 0 100 cd), (h, co 6 (rdL tap e hq s))]) (by rw [hk]) ?_
      refine v_aload_n (pc := 62) 0 rfl dX6_factor_62 ?_
      refine v_ldcS (pc := 63) (q := ("MatFlip$Reader", 96, "pkngsy", 7)) (List.mem_of_getElem? (i := 7) rfl) rfl dX6_factor_63 ?_
      refine v_callV (pc := 65) [2] [0, 1] [(hq, co 3 [ai wi, ai pa, ai ns, ai us, ar sla, ar ena, ar cda]), (cda, cn 0 100 cd)] (As := [ar (lK (xg x) 7)]) (rest := []) (c_X6_takesOneOf h tap e hq t s 7 (by assumption) (by first | omega | assumption) (by assumption) (by decide)) (c := 6) rfl (Or.inr ⟨2, rfl⟩) wl_X6_50 wi_X6_takesOneOf wv_X6_X6_takesOneOf_X6_takesOneOf wk_X6_takesOneOf wz_X6 md_X6_takesOneOf rfl (Nat.le_of_ble_eq_true rfl) ⟨Nat.le_of_ble_eq_true rfl, Nat.le_of_ble_eq_true rfl, Nat.le_of_ble_eq_true rfl, Nat.le_of_ble_eq_true rfl⟩ rfl rfl rfl rfl (by decide) (ro_cons (Or.inl r0) ro_nil) dX6_factor_65 (fun u hu => ?_)
      show V x cX6_factor RX6 4 (rmU 8 174 0 0) [(hq, co 3 [ai wi, ai pa, ai ns, ai us, ar sla, ar ena, ar cda]), (cda, cn 0 100 cd), (h, co 6 (rdL tap e hq ((to1 t e 7 s).2)))] 68 [(0, ar h), (1, ai 4)] [ai ((to1 t e 7 s).1)] 0 0
      have hm7 := Mv_to1 (t := t) (e := e) (i := 7) (by decide) hB
      refine v_istore_n (pc := 68) (L2 := [(2, ai ((to1 t e 7 s).1)), (0, ar h), (1, ai 4)]) rfl (by decide) dX6_factor_68 ?_
      refine v_aload_n (pc := 69) 1 rfl dX6_factor_69 ?_
      refine v_ldcS (pc := 70) (q := ("MatFlip$Reader", 98, "<=>", 8)) (List.mem_of_getElem? (i := 8) rfl) rfl dX6_factor_70 ?_
      refine v_callV (pc := 72) [2] [0, 1] [(hq, co 3 [ai wi, ai pa, ai ns, ai us, ar sla, ar ena, ar cda]), (cda, cn 0 100 cd)] (As := [ar (lK (xg x) 8)]) (rest := []) (c_X6_takesOneOf h tap e hq t ((to1 t e 7 s).2) 8 (by exact hm7.1) (by first | omega | assumption) (by assumption) (by decide)) (c := 6) rfl (Or.inr ⟨2, rfl⟩) wl_X6_50 wi_X6_takesOneOf wv_X6_X6_takesOneOf_X6_takesOneOf wk_X6_takesOneOf wz_X6 md_X6_takesOneOf rfl (Nat.le_of_ble_eq_true rfl) ⟨Nat.le_of_ble_eq_true rfl, Nat.le_of_ble_eq_true rfl, Nat.le_of_ble_eq_true rfl, Nat.le_of_ble_eq_true rfl⟩ rfl rfl rfl rfl (by decide) (ro_cons (Or.inl r0) ro_nil) dX6_factor_72 (fun u hu => ?_)
      show V x cX6_factor RX6 4 (rmU 8 174 0 0) [(hq, co 3 [ai wi, ai pa, ai ns, ai us, ar sla, ar ena, ar cda]), (cda, cn 0 100 cd), (h, co 6 (rdL tap e hq ((to1 t e 8 ((to1 t e 7 s).2)).2)))] 75 [(2, ai ((to1 t e 7 s).1)), (0, ar h), (1, ai 4)] [ai ((to1 t e 8 ((to1 t e 7 s).2)).1)] 0 0
      have hm8 := Mv_to1 (t := t) (e := e) (i := 8) (by decide) hm7.1
      refine v_istore_n (pc := 75) (L2 := [(3, ai ((to1 t e 8 ((to1 t e 7 s).2)).1)), (2, ai ((to1 t e 7 s).1)), (0, ar h), (1, ai 4)]) rfl (by decide) dX6_factor_75 ?_
      refine v_aload_n (pc := 76) 2 rfl dX6_factor_76 ?_
      refine v_get (pc := 77) (v := ar hq) 2 (Or.inr ⟨2, rfl⟩) fl_6_12_6 rfl dX6_factor_77 ?_
      refine v_iload_n (pc := 80) 1 rfl dX6_factor_80 ?_
      refine v_iload_n (pc := 81) 0 rfl dX6_factor_81 ?_
      refine v_aload_n (pc := 82) 2 rfl dX6_factor_82 ?_
      refine v_callV (pc := 83) [2] [0, 1] [(hq, co 3 [ai wi, ai pa, ai ns, ai us, ar sla, ar ena, ar cda]), (cda, cn 0 100 cd)] (As := []) (rest := [ai ((to1 t e 8 ((to1 t e 7 s).2)).1), ai ((to1 t e 7 s).1), ar hq]) (c_X6_number h tap e hq t ((to1 t e 8 ((to1 t e 7 s).2)).2) (by exact hm8.1) (by first | omega | assumption) (by assumption)) (c := 6) rfl (Or.inr ⟨2, rfl⟩) wl_X6_66 wi_X6_number wv_X6_X6_number_X6_number wk_X6_number wz_X6 md_X6_number rfl (Nat.le_of_ble_eq_true rfl) ⟨Nat.le_of_ble_eq_true rfl, Nat.le_of_ble_eq_true rfl, Nat.le_of_ble_eq_true rfl, Nat.le_of_ble_eq_true rfl⟩ rfl rfl rfl rfl (by decide) (ro_cons (Or.inl r0) ro_nil) dX6_factor_83 (fun u hu => ?_)
      show V x cX6_factor RX6 4 (rmU 8 174 0 0) [(hq, co 3 [ai wi, ai pa, ai ns, ai us, ar sla, ar ena, ar cda]), (cda, cn 0 100 cd), (h, co 6 (rdL tap e hq ((fig t e ((to1 t e 8 ((to1 t e 7 s).2)).2)).2)))] 86 [(3, ai ((to1 t e 8 ((to1 t e 7 s).2)).1)), (2, ai ((to1 t e 7 s).1)), (0, ar h), (1, ai 4)] [ai ((fig t e ((to1 t e 8 ((to1 t e 7 s).2)).2)).1), ai ((to1 t e 8 ((to1 t e 7 s).2)).1), ai ((to1 t e 7 s).1), ar hq] 0 0
      refine v_callV (pc := 86) [0, 1] [2] [(h, co 6 (rdL tap e hq ((fig t e ((to1 t e 8 ((to1 t e 7 s).2)).2)).2)))] (As := [ai ((to1 t e 7 s).1), ai ((to1 t e 8 ((to1 t e 7 s).2)).1), ai ((fig t e ((to1 t e 8 ((to1 t e 7 s).2)).2)).1)]) (rest := []) (c_X3_addTest hq wi pa ns us sla ena cda ((to1 t e 7 s).1) ((to1 t e 8 ((to1 t e 7 s).2)).1) ((fig t e ((to1 t e 8 ((to1 t e 7 s).2)).2)).1) cd (by first | omega | assumption)) (c := 3) rfl (Or.inr ⟨0, rfl⟩) wl_X6_100 wi_X3_addTest wv_X3_X3_addTest_X3_addTest wk_X3_addTest wz_X3 md_X3_addTest rfl (Nat.le_of_ble_eq_true rfl) ⟨Nat.le_of_ble_eq_true rfl, Nat.le_of_ble_eq_true rfl, Nat.le_of_ble_eq_true rfl, Nat.le_of_ble_eq_true rfl⟩ rfl rfl rfl rfl (by decide) ro_nil dX6_factor_86 (fun u hu => ?_)
      show V x cX6_factor RX6 4 (rmU 8 174 0 0) [(h, co 6 (rdL tap e hq ((fig t e ((to1 t e 8 ((to1 t e 7 s).2)).2)).2))), (hq, co 3 [ai wi, ai pa, ai ns, ai (if us < 100 then us + 1 else us), ar sla, ar ena, ar cda]), (cda, cn 0 100 (if us < 100 then aup cd us ((((to1 t e 7 s).1) * 3 + ((to1 t e 8 ((to1 t e 7 s).2)).1)) * 100 + ((fig t e ((to1 t e 8 ((to1 t e 7 s).2)).2)).1)) else cd))] 89 [(3, ai ((to1 t e 8 ((to1 t e 7 s).2)).1)), (2, ai ((to1 t e 7 s).1)), (0, ar h), (1, ai 4)] [] 0 0
      refine v_ws (ws2 := [(h, co 6 (rdL tap e hq (tsS t e s))), (hq, co 3 [ai wi, ai pa, ai ns, ai (if us < 100 then us + 1 else us), ar sla, ar ena, ar cda]), (cda, cn 0 100 (if us < 100 then aup cd us ((((to1 t e 7 s).1) * 3 + ((to1 t e 8 ((to1 t e 7 s).2)).1)) * 100 + ((fig t e ((to1 t e 8 ((to1 t e 7 s).2)).2)).1)) else cd))]) (by rfl) ?_
      refine v_ws (ws2 := [(h, co 6 (rdL tap e hq (emi (tsZ t e s) (tsS t e s)))), (hq, co 3 [ai wi, ai pa, ai ns, ai (if us < 100 then us + 1 else us), ar sla, ar ena, ar cda]), (cda, cn 0 100 (if us < 100 then aup cd us ((((to1 t e 7 s).1) * 3 + ((to1 t e 8 ((to1 t e 7 s).2)).1)) * 100 + ((fig t e ((to1 t e 8 ((to1 t e 7 s).2)).2)).1)) else cd))]) (by show [(h, co 6 [ar tap, ai e, ar hq, ai ((tsS t e s).1), ai (flt (tsS t e s))]), (hq, co 3 [ai wi, ai pa, ai ns, ai (if us < 100 then us + 1 else us), ar sla, ar ena, ar cda]), (cda, cn 0 100 (if us < 100 then aup cd us ((((to1 t e 7 s).1) * 3 + ((to1 t e 8 ((to1 t e 7 s).2)).1)) * 100 + ((fig t e ((to1 t e 8 ((to1 t e 7 s).2)).2)).1)) else cd))] = [(h, co 6 [ar tap, ai e, ar hq, ai ((emi (tsZ t e s) (tsS t e s)).1), ai (flt (emi (tsZ t e s) (tsS t e s)))]), (hq, co 3 [ai wi, ai pa, ai ns, ai (if us < 100 then us + 1 else us), ar sla, ar ena, ar cda]), (cda, cn 0 100 (if us < 100 then aup cd us ((((to1 t e 7 s).1) * 3 + ((to1 t e 8 ((to1 t e 7 s).2)).1)) * 100 + ((fig t e ((to1 t e 8 ((to1 t e 7 s).2)).2)).1)) else cd))]; rw [(emi_1 (z := (tsZ t e s)) (s := (tsS t e s))).1, (emi_1 (z := (tsZ t e s)) (s := (tsS t e s))).2.2]) ?_
      have hfc : fac t e 1 s = emi (tsZ t e s) (tsS t e s) := fac_cl hB (Or.inr (by omega))
      refine v_ws (ws2 := [(h, co 6 (rdL tap e hq (fac t e 1 s))), (hq, co 3 [ai wi, ai pa, ai ns, ai (if us < 100 then us + 1 else us), ar sla, ar ena, ar cda]), (cda, cn 0 100 (if us < 100 then aup cd us ((((to1 t e 7 s).1) * 3 + ((to1 t e 8 ((to1 t e 7 s).2)).1)) * 100 + ((fig t e ((to1 t e 8 ((to1 t e 7 s).2)).2)).1)) else cd))]) (by rw [hfc]) ?_
      have hen := enc_ts (t := t) (e := e) (s := s)
      have hie := IE_code (z := tsZ t e s) (IE_mv hIE (Mv_tsS (t := t) hB)) (by omega) (tsS_sl hB he.2 (fun z => (hIE.2 z).2))
      rw [hen.1] at hie
      exact hret ((if us < 100 then us + 1 else us), (if us < 100 then aup cd us ((((to1 t e 7 s).1) * 3 + ((to1 t e 8 ((to1 t e 7 s).2)).1)) * 100 + ((fig t e ((to1 t e 8 ((to1 t e 7 s).2)).2)).1)) else cd)) _ _ _ _ _ (by rw [hfc]; exact hie) rfl rfl (Nat.le_of_ble_eq_true rfl) (Nat.le_of_ble_eq_true rfl) dX6_factor_89
    · skip
      have hk : tkS t e 40 s = adv s := if_pos (by omega)
      refine v_ws (ws2 := [(hq, co 3 [ai wi, ai pa, ai ns, ai us, ar sla, ar ena, ar cda]), (cda, cn 0 100 cd), (h, co 6 (rdL tap e hq (adv s)))]) (by rw [hk]) ?_
      have hBa := (adv_k hB (by omega)).1
      have hma := Mv_adv hB (show s.1 < e by omega)
      refine v_aload_n (pc := 46) 0 rfl dX6_factor_46 ?_
      refine v_iload_n (pc := 47) 1 rfl dX6_factor_47 ?_
      refine v_iconst (pc := 48) dX6_factor_48 ?_
      refine v_iadd (pc := 49) dX6_factor_49 ?_
      refine v_callV (pc := 50) [2, 0, 1] [] [] (As := [ai 5]) (rest := []) (c_reit_0 h tap e hq t (adv s) wi pa ns us sla ena cda sl en cd (by exact hBa) (by first | omega | assumption) (by assumption) (by exact IE_mv hIE hma)) (c := 6) rfl (Or.inr ⟨2, rfl⟩) wl_X6_78 wi_X6_either wv_X6_X6_either_X6_either wk_X6_either wz_X6 md_X6_either rfl (Nat.le_of_ble_eq_true rfl) ⟨Nat.le_of_ble_eq_true rfl, Nat.le_of_ble_eq_true rfl, Nat.le_of_ble_eq_true rfl, Nat.le_of_ble_eq_true rfl⟩ rfl rfl rfl rfl (by decide) (ro_cons (Or.inl r0) ro_nil) dX6_factor_50 (fun u hu => ?_)
      obtain ⟨us2_5, cd2_6⟩ := u
      have g_7 : IE (soP t e (fac t e 0) (adv s)) ns us2_5 sl en cd2_6 := hu
      show V x cX6_factor RX6 4 (rmU 8 174 0 0) [(h, co 6 (rdL tap e hq (soP t e (fac t e 0) (adv s)))), (hq, co 3 [ai wi, ai pa, ai ns, ai us2_5, ar sla, ar ena, ar cda]), (cda, cn 0 100 cd2_6)] 53 [(0, ar h), (1, ai 4)] [] 0 0
      have hBx := (soP_k (t := t) (fac_k (t := t) 0) (adv s) hBa).1
      refine v_aload_n (pc := 53) 0 rfl dX6_factor_53 ?_
      refine v_ldcS (pc := 54) (q := ("MatFlip$Reader", 94, ")", 6)) (List.mem_of_getElem? (i := 6) rfl) rfl dX6_factor_54 ?_
      refine v_callV (pc := 56) [0] [1, 2] [(hq, co 3 [ai wi, ai pa, ai ns, ai us2_5, ar sla, ar ena, ar cda]), (cda, cn 0 100 cd2_6)] (As := [ar (lK (xg x) 6)]) (rest := []) (c_X6_needs h tap e hq t (soP t e (fac t e 0) (adv s)) 6 (by exact hBx) (by first | omega | assumption) (by assumption) (by decide)) (c := 6) rfl (Or.inr ⟨0, rfl⟩) wl_X6_62 wi_X6_needs wv_X6_X6_needs_X6_needs wk_X6_needs wz_X6 md_X6_needs rfl (Nat.le_of_ble_eq_true rfl) ⟨Nat.le_of_ble_eq_true rfl, Nat.le_of_ble_eq_true rfl, Nat.le_of_ble_eq_true rfl, Nat.le_of_ble_eq_true rfl⟩ rfl rfl rfl rfl (by decide) (ro_cons (Or.inl r0) ro_nil) dX6_factor_56 (fun u hu => ?_)
      show V x cX6_factor RX6 4 (rmU 8 174 0 0) [(hq, co 3 [ai wi, ai pa, ai ns, ai us2_5, ar sla, ar ena, ar cda]), (cda, cn 0 100 cd2_6), (h, co 6 (rdL tap e hq (spl t e 6 (lenS 6).toNat (soP t e (fac t e 0) (adv s)))))] 59 [(0, ar h), (1, ai 4)] [] 0 0
      have hfc : fac t e 1 s = mstP t e 41 (soP t e (fac t e 0) (adv s)) := fac_br (by omega) (by omega)
      have hs1 : spl t e 6 (lenS 6).toNat (soP t e (fac t e 0) (adv s)) = mstP t e 41 (soP t e (fac t e 0) (adv s)) := spl_l1 (by decide) (by decide)
      refine v_ws (ws2 := [(hq, co 3 [ai wi, ai pa, ai ns, ai us2_5, ar sla, ar ena, ar cda]), (cda, cn 0 100 cd2_6), (h, co 6 (rdL tap e hq (fac t e 1 s)))]) (by rw [hfc, hs1]) ?_
      refine v_goto (pc := 59) 89 dX6_factor_59 (by decide) ?_
      refine v_wsub (ws2 := [(h, co 6 (rdL tap e hq (fac t e 1 s))), (hq, co 3 [ai wi, ai pa, ai ns, ai us2_5, ar sla, ar ena, ar cda]), (cda, cn 0 100 cd2_6)]) [2, 0, 1] rfl rfl ?_
      exact hret (us2_5, cd2_6) _ _ _ _ _ (by rw [hfc]; exact IE_mv g_7 (Mv_mst (by decide) hBx)) rfl rfl (Nat.le_of_ble_eq_true rfl) (Nat.le_of_ble_eq_true rfl) dX6_factor_89
  · skip
    have hk : tkS t e 33 s = adv s := if_pos (by omega)
    refine v_ws (ws2 := [(hq, co 3 [ai wi, ai pa, ai ns, ai us, ar sla, ar ena, ar cda]), (cda, cn 0 100 cd), (h, co 6 (rdL tap e hq (adv s)))]) (by rw [hk]) ?_
    have hBa := (adv_k hB (by omega)).1
    have hma := Mv_adv hB (show s.1 < e by omega)
    refine v_aload_n (pc := 14) 0 rfl dX6_factor_14 ?_
    refine v_iload_n (pc := 15) 1 rfl dX6_factor_15 ?_
    refine v_iconst (pc := 16) dX6_factor_16 ?_
    refine v_iadd (pc := 17) dX6_factor_17 ?_
    refine v_callV (pc := 18) [2, 0, 1] [] [] (As := [ai 5]) (rest := []) (c_rfac_0 h tap e hq t (adv s) wi pa ns us sla ena cda sl en cd (by exact hBa) (by first | omega | assumption) (by assumption) (by exact IE_mv hIE hma)) (c := 6) rfl (Or.inr ⟨2, rfl⟩) wl_X6_91 wi_X6_factor wv_X6_X6_factor_X6_factor wk_X6_factor wz_X6 md_X6_factor rfl (Nat.le_of_ble_eq_true rfl) ⟨Nat.le_of_ble_eq_true rfl, Nat.le_of_ble_eq_true rfl, Nat.le_of_ble_eq_true rfl, Nat.le_of_ble_eq_true rfl⟩ rfl rfl rfl rfl (by decide) (ro_cons (Or.inl r0) ro_nil) dX6_factor_18 (fun u hu => ?_)
    obtain ⟨us2_8, cd2_9⟩ := u
    have g_10 : IE (fac t e 0 (adv s)) ns us2_8 sl en cd2_9 := hu
    show V x cX6_factor RX6 4 (rmU 8 174 0 0) [(h, co 6 (rdL tap e hq (fac t e 0 (adv s)))), (hq, co 3 [ai wi, ai pa, ai ns, ai us2_8, ar sla, ar ena, ar cda]), (cda, cn 0 100 cd2_9)] 21 [(0, ar h), (1, ai 4)] [] 0 0
    have hub2 := g_10.1
    refine v_aload_n (pc := 21) 0 rfl dX6_factor_21 ?_
    refine v_get (pc := 22) (v := ar hq) 2 (Or.inr ⟨0, rfl⟩) fl_6_12_6 rfl dX6_factor_22 ?_
    refine v_iconst (pc := 25) dX6_factor_25 ?_
    refine v_callV (pc := 26) [1, 2] [0] [(h, co 6 (rdL tap e hq (fac t e 0 (adv s))))] (As := [ai (-1)]) (rest := []) (c_X3_addCode hq wi pa ns us2_8 sla ena cda (-1) cd2_9 (by first | omega | assumption)) (c := 3) rfl (Or.inr ⟨1, rfl⟩) wl_X6_88 wi_X3_addCode wv_X3_X3_addCode_X3_addCode wk_X3_addCode wz_X3 md_X3_addCode rfl (Nat.le_of_ble_eq_true rfl) ⟨Nat.le_of_ble_eq_true rfl, Nat.le_of_ble_eq_true rfl, Nat.le_of_ble_eq_true rfl, Nat.le_of_ble_eq_true rfl⟩ rfl rfl rfl rfl (by decide) ro_nil dX6_factor_26 (fun u hu => ?_)
    show V x cX6_factor RX6 4 (rmU 8 174 0 0) [(h, co 6 (rdL tap e hq (fac t e 0 (adv s)))), (hq, co 3 [ai wi, ai pa, ai ns, ai (if us2_8 < 100 then us2_8 + 1 else us2_8), ar sla, ar ena, ar cda]), (cda, cn 0 100 (if us2_8 < 100 then aup cd2_9 us2_8 (-1) else cd2_9))] 29 [(0, ar h), (1, ai 4)] [] 0 0
    refine v_ws (ws2 := [(h, co 6 (rdL tap e hq (emi (-1) (fac t e 0 (adv s))))), (hq, co 3 [ai wi, ai pa, ai ns, ai (if us2_8 < 100 then us2_8 + 1 else us2_8), ar sla, ar ena, ar cda]), (cda, cn 0 100 (if us2_8 < 100 then aup cd2_9 us2_8 (-1) else cd2_9))]) (by show [(h, co 6 [ar tap, ai e, ar hq, ai ((fac t e 0 (adv s)).1), ai (flt (fac t e 0 (adv s)))]), (hq, co 3 [ai wi, ai pa, ai ns, ai (if us2_8 < 100 then us2_8 + 1 else us2_8), ar sla, ar ena, ar cda]), (cda, cn 0 100 (if us2_8 < 100 then aup cd2_9 us2_8 (-1) else cd2_9))] = [(h, co 6 [ar tap, ai e, ar hq, ai ((emi (-1) (fac t e 0 (adv s))).1), ai (flt (emi (-1) (fac t e 0 (adv s))))]), (hq, co 3 [ai wi, ai pa, ai ns, ai (if us2_8 < 100 then us2_8 + 1 else us2_8), ar sla, ar ena, ar cda]), (cda, cn 0 100 (if us2_8 < 100 then aup cd2_9 us2_8 (-1) else cd2_9))]; rw [(emi_1 (z := -1) (s := (fac t e 0 (adv s)))).1, (emi_1 (z := -1) (s := (fac t e 0 (adv s)))).2.2]) ?_
    have hfc : fac t e 1 s = emi (-1) (fac t e 0 (adv s)) := fac_ex (by omega) (by omega)
    refine v_ws (ws2 := [(h, co 6 (rdL tap e hq (fac t e 1 s))), (hq, co 3 [ai wi, ai pa, ai ns, ai (if us2_8 < 100 then us2_8 + 1 else us2_8), ar sla, ar ena, ar cda]), (cda, cn 0 100 (if us2_8 < 100 then aup cd2_9 us2_8 (-1) else cd2_9))]) (by rw [hfc]) ?_
    refine v_goto (pc := 29) 89 dX6_factor_29 (by decide) ?_
    exact hret ((if us2_8 < 100 then us2_8 + 1 else us2_8), (if us2_8 < 100 then aup cd2_9 us2_8 (-1) else cd2_9)) _ _ _ _ _ (by rw [hfc]; exact IE_code g_10 (by decide) (sl_of (fac_k (t := t) 0 (adv s) hBa) (fun z => by show ((s.2.2.length : Nat) : Int) + 1 ≤ s.1 + 1; have := (hIE.2 z).2; omega) fac_mono he.2)) rfl rfl (Nat.le_of_ble_eq_true rfl) (Nat.le_of_ble_eq_true rfl) dX6_factor_89
set_option maxHeartbeats 4000000 in
set_option maxRecDepth 100000 in
theorem c_rbth_1 {gS : sG} (h : Nat) (tap : Nat) (e : Int) (hq : Nat) (t : Int → Int) (s : PS) (wi : Int) (pa : Int) (ns : Int) (us : Int) (sla : Nat) (ena : Nat) (cda : Nat) (sl : Int → Int) (en : Int → Int) (cd : Int → Int) (hB : PB e s) (he : 0 ≤ e ∧ e ≤ 100) (htb : ∀ j : Int, 0 ≤ j → j < e → 0 ≤ t j ∧ t j ≤ 127) (hIE : IE s ns us sl en cd) : Ct gS (S := Int × (Int → Int)) yX6_both cX6_both 3 none 9 197 0 0 [ar h, ai 4] [(h, co 6 (rdL tap e hq s)), (hq, co 3 [ai wi, ai pa, ai ns, ai us, ar sla, ar ena, ar cda]), (cda, cn 0 100 cd)] (fun q => q ∈ ([(tap, cn 0 100 t)] : aW)) (fun u => IE (evP t e (fac t e 1) s) ns u.1 sl en u.2) (fun u => none) (fun u => [(h, co 6 (rdL tap e hq (evP t e (fac t e 1) s))), (hq, co 3 [ai wi, ai pa, ai ns, ai u.1, ar sla, ar ena, ar cda]), (cda, cn 0 100 u.2)]) := by
  refine ct_V RX6 [(0, ar h), (1, ai 4)] (by decide) rfl (Nat.le_of_ble_eq_true rfl) rfl (fun x hgS hnm hro hret => ?_)
  subst hgS
  have r0 := hro _ (mem_at 0 rfl)
  obtain ⟨hB1, hB2, hB3⟩ := id hB
  have hfl := flt_c hB
  have hhr := hr_v (t := t) (e := e) (s := s)
  have hub := hIE.1
  show V x cX6_both RX6 3 (rmU 9 197 0 0) [(h, co 6 (rdL tap e hq s)), (hq, co 3 [ai wi, ai pa, ai ns, ai us, ar sla, ar ena, ar cda]), (cda, cn 0 100 cd)] 0 [(0, ar h), (1, ai 4)] [] 0 0
  refine v_aload_n (pc := 0) 0 rfl dX6_both_0 ?_
  refine v_iload_n (pc := 1) 1 rfl dX6_both_1 ?_
  refine v_callV (pc := 2) [0, 1, 2] [] [] (As := [ai 4]) (rest := []) (c_rfac_1 h tap e hq t s wi pa ns us sla ena cda sl en cd (by assumption) (by first | omega | assumption) (by assumption) (by assumption)) (c := 6) rfl (Or.inr ⟨0, rfl⟩) wl_X6_91 wi_X6_factor wv_X6_X6_factor_X6_factor wk_X6_factor wz_X6 md_X6_factor rfl (Nat.le_of_ble_eq_true rfl) ⟨Nat.le_of_ble_eq_true rfl, Nat.le_of_ble_eq_true rfl, Nat.le_of_ble_eq_true rfl, Nat.le_of_ble_eq_true rfl⟩ rfl rfl rfl rfl (by decide) (ro_cons (Or.inl r0) ro_nil) dX6_both_2 (fun u hu => ?_)
  obtain ⟨us2_1, cd2_2⟩ := u
  have g_3 : IE (fac t e 1 s) ns us2_1 sl en cd2_2 := hu
  show V x cX6_both RX6 3 (rmU 9 197 0 0) [(h, co 6 (rdL tap e hq (fac t e 1 s))), (hq, co 3 [ai wi, ai pa, ai ns, ai us2_1, ar sla, ar ena, ar cda]), (cda, cn 0 100 cd2_2)] 5 [(0, ar h), (1, ai 4)] [] 0 0
  have hp1 := fac_k (t := t) 1 s hB
  refine v_iconst (pc := 5) dX6_both_5 ?_
  refine v_istore_n (pc := 6) (L2 := [(2, ai 0), (0, ar h), (1, ai 4)]) rfl (by decide) dX6_both_6 ?_
  have lp7 : ∀ (mm : Nat) (k : Int) (s1 : PS) (us1 : Int) (cd1 : Int → Int), (100 - k).toNat = mm → (0 ≤ k ∧ k ≤ 100) → (lpP t e 38 (-2) (fac t e 1) 101 s1 = evP t e (fac t e 1) s) → (PB e s1) → (IE s1 ns us1 sl en cd1) → (k ≤ s1.1) → V x cX6_both RX6 3 (rmU 9 197 0 0) [(h, co 6 (rdL tap e hq s1)), (hq, co 3 [ai wi, ai pa, ai ns, ai us1, ar sla, ar ena, ar cda]), (cda, cn 0 100 cd1)] 7 [(0, ar h), (1, ai 4), (2, ai k)] [] 0 0 := by
    intro mm
    induction mm using Nat.strongRecOn with
    | _ mm ih =>
      intro k s1 us1 cd1 hmm hk hlp hBq hI1 hks
      obtain ⟨hQ1, hQ2, hQ3⟩ := id hBq
      have hfl1 := flt_c hBq
      have hhr1 := hr_v (t := t) (e := e) (s := s1)
      have hub1 := hI1.1
      refine v_iload_n (pc := 7) 2 rfl dX6_both_7 ?_
      refine v_bipush (pc := 8) dX6_both_8 (by decide) ?_
      refine v_icmp_ge (pc := 10) 42 dX6_both_10 (by decide) (by unfold iB; omega) (by unfold iB; omega) (fun c_4 => ?_) (fun c_4 => ?_)
      · skip
        have he1 : evP t e (fac t e 1) s = s1 := hlp.symm.trans (lpP_st (by omega))
        refine v_ws (ws2 := [(h, co 6 (rdL tap e hq (evP t e (fac t e 1) s))), (hq, co 3 [ai wi, ai pa, ai ns, ai us1, ar sla, ar ena, ar cda]), (cda, cn 0 100 cd1)]) (by rw [he1]) ?_
        exact hret (us1, cd1) _ _ _ _ _ (by rw [he1]; exact hI1) rfl rfl (Nat.le_of_ble_eq_true rfl) (Nat.le_of_ble_eq_true rfl) dX6_both_42
      · skip
        refine v_aload_n (pc := 13) 0 rfl dX6_both_13 ?_
        refine v_bipush (pc := 14) dX6_both_14 (by decide) ?_
        refine v_callV (pc := 16) [0] [1, 2] [(hq, co 3 [ai wi, ai pa, ai ns, ai us1, ar sla, ar ena, ar cda]), (cda, cn 0 100 cd1)] (As := [ai 38]) (rest := []) (c_X6_takes h tap e hq t s1 38 (by exact hBq) (by first | omega | assumption) (by assumption) (by first | omega | assumption)) (c := 6) rfl (Or.inr ⟨0, rfl⟩) wl_X6_38 wi_X6_takes wv_X6_X6_takes_X6_takes wk_X6_takes wz_X6 md_X6_takes rfl (Nat.le_of_ble_eq_true rfl) ⟨Nat.le_of_ble_eq_true rfl, Nat.le_of_ble_eq_true rfl, Nat.le_of_ble_eq_true rfl, Nat.le_of_ble_eq_true rfl⟩ rfl rfl rfl rfl (by decide) (ro_cons (Or.inl r0) ro_nil) dX6_both_16 (fun u hu => ?_)
        show V x cX6_both RX6 3 (rmU 9 197 0 0) [(hq, co 3 [ai wi, ai pa, ai ns, ai us1, ar sla, ar ena, ar cda]), (cda, cn 0 100 cd1), (h, co 6 (rdL tap e hq (tkS t e 38 s1)))] 19 [(0, ar h), (1, ai 4), (2, ai k)] [ai (if s1.2.1 = 0 ∧ hr t e s1 = 38 then 1 else 0)] 0 0
        refine v_ifb_eq (pc := 19) 42 dX6_both_19 (by decide) (fun c_5 => ?_) (fun c_5 => ?_)
        · skip
          have hk : tkS t e 38 s1 = s1 := if_neg (by omega)
          refine v_ws (ws2 := [(hq, co 3 [ai wi, ai pa, ai ns, ai us1, ar sla, ar ena, ar cda]), (cda, cn 0 100 cd1), (h, co 6 (rdL tap e hq s1))]) (by rw [hk]) ?_
          have he1 : evP t e (fac t e 1) s = s1 := hlp.symm.trans (lpP_st (by omega))
          refine v_ws (ws2 := [(hq, co 3 [ai wi, ai pa, ai ns, ai us1, ar sla, ar ena, ar cda]), (cda, cn 0 100 cd1), (h, co 6 (rdL tap e hq (evP t e (fac t e 1) s)))]) (by rw [he1]) ?_
          refine v_wsub (ws2 := [(h, co 6 (rdL tap e hq (evP t e (fac t e 1) s))), (hq, co 3 [ai wi, ai pa, ai ns, ai us1, ar sla, ar ena, ar cda]), (cda, cn 0 100 cd1)]) [2, 0, 1] rfl rfl ?_
          exact hret (us1, cd1) _ _ _ _ _ (by rw [he1]; exact hI1) rfl rfl (Nat.le_of_ble_eq_true rfl) (Nat.le_of_ble_eq_true rfl) dX6_both_42
        · skip
          have hk : tkS t e 38 s1 = adv s1 := if_pos (by omega)
          refine v_ws (ws2 := [(hq, co 3 [ai wi, ai pa, ai ns, ai us1, ar sla, ar ena, ar cda]), (cda, cn 0 100 cd1), (h, co 6 (rdL tap e hq (adv s1)))]) (by rw [hk]) ?_
          have hBa := (adv_k hBq (by omega)).1
          have hma := Mv_adv hBq (show s1.1 < e by omega)
          refine v_aload_n (pc := 22) 0 rfl dX6_both_22 ?_
          refine v_iload_n (pc := 23) 1 rfl dX6_both_23 ?_
          refine v_callV (pc := 24) [2, 0, 1] [] [] (As := [ai 4]) (rest := []) (c_rfac_1 h tap e hq t (adv s1) wi pa ns us1 sla ena cda sl en cd1 (by exact hBa) (by first | omega | assumption) (by assumption) (by exact IE_mv hI1 hma)) (c := 6) rfl (Or.inr ⟨2, rfl⟩) wl_X6_91 wi_X6_factor wv_X6_X6_factor_X6_factor wk_X6_factor wz_X6 md_X6_factor rfl (Nat.le_of_ble_eq_true rfl) ⟨Nat.le_of_ble_eq_true rfl, Nat.le_of_ble_eq_true rfl, Nat.le_of_ble_eq_true rfl, Nat.le_of_ble_eq_true rfl⟩ rfl rfl rfl rfl (by decide) (ro_cons (Or.inl r0) ro_nil) dX6_both_24 (fun u hu => ?_)
          obtain ⟨us2_6, cd2_7⟩ := u
          have g_8 : IE (fac t e 1 (adv s1)) ns us2_6 sl en cd2_7 := hu
          show V x cX6_both RX6 3 (rmU 9 197 0 0) [(h, co 6 (rdL tap e hq (fac t e 1 (adv s1)))), (hq, co 3 [ai wi, ai pa, ai ns, ai us2_6, ar sla, ar ena, ar cda]), (cda, cn 0 100 cd2_7)] 27 [(0, ar h), (1, ai 4), (2, ai k)] [] 0 0
          have hpx := fac_k (t := t) 1 (adv s1) hBa
          have hp2 := hpx.2.1
          have had : (adv s1).1 = s1.1 + 1 := rfl
          have hub3 := g_8.1
          refine v_aload_n (pc := 27) 0 rfl dX6_both_27 ?_
          refine v_get (pc := 28) (v := ar hq) 2 (Or.inr ⟨0, rfl⟩) fl_6_12_6 rfl dX6_both_28 ?_
          refine v_bipush (pc := 31) dX6_both_31 (by decide) ?_
          refine v_callV (pc := 33) [1, 2] [0] [(h, co 6 (rdL tap e hq (fac t e 1 (adv s1))))] (As := [ai (-2)]) (rest := []) (c_X3_addCode hq wi pa ns us2_6 sla ena cda (-2) cd2_7 (by first | omega | assumption)) (c := 3) rfl (Or.inr ⟨1, rfl⟩) wl_X6_88 wi_X3_addCode wv_X3_X3_addCode_X3_addCode wk_X3_addCode wz_X3 md_X3_addCode rfl (Nat.le_of_ble_eq_true rfl) ⟨Nat.le_of_ble_eq_true rfl, Nat.le_of_ble_eq_true rfl, Nat.le_of_ble_eq_true rfl, Nat.le_of_ble_eq_true rfl⟩ rfl rfl rfl rfl (by decide) ro_nil dX6_both_33 (fun u hu => ?_)
          show V x cX6_both RX6 3 (rmU 9 197 0 0) [(h, co 6 (rdL tap e hq (fac t e 1 (adv s1)))), (hq, co 3 [ai wi, ai pa, ai ns, ai (if us2_6 < 100 then us2_6 + 1 else us2_6), ar sla, ar ena, ar cda]), (cda, cn 0 100 (if us2_6 < 100 then aup cd2_7 us2_6 (-2) else cd2_7))] 36 [(0, ar h), (1, ai 4), (2, ai k)] [] 0 0
          refine v_ws (ws2 := [(h, co 6 (rdL tap e hq (emi (-2) (fac t e 1 (adv s1))))), (hq, co 3 [ai wi, ai pa, ai ns, ai (if us2_6 < 100 then us2_6 + 1 else us2_6), ar sla, ar ena, ar cda]), (cda, cn 0 100 (if us2_6 < 100 then aup cd2_7 us2_6 (-2) else cd2_7))]) (by show [(h, co 6 [ar tap, ai e, ar hq, ai ((fac t e 1 (adv s1)).1), ai (flt (fac t e 1 (adv s1)))]), (hq, co 3 [ai wi, ai pa, ai ns, ai (if us2_6 < 100 then us2_6 + 1 else us2_6), ar sla, ar ena, ar cda]), (cda, cn 0 100 (if us2_6 < 100 then aup cd2_7 us2_6 (-2) else cd2_7))] = [(h, co 6 [ar tap, ai e, ar hq, ai ((emi (-2) (fac t e 1 (adv s1))).1), ai (flt (emi (-2) (fac t e 1 (adv s1))))]), (hq, co 3 [ai wi, ai pa, ai ns, ai (if us2_6 < 100 then us2_6 + 1 else us2_6), ar sla, ar ena, ar cda]), (cda, cn 0 100 (if us2_6 < 100 then aup cd2_7 us2_6 (-2) else cd2_7))]; rw [(emi_1 (z := -2) (s := (fac t e 1 (adv s1)))).1, (emi_1 (z := -2) (s := (fac t e 1 (adv s1)))).2.2]) ?_
          refine v_iinc (pc := 36) 2 (L2 := [(2, ai (k + 1)), (0, ar h), (1, ai 4)]) rfl rfl (by decide) dX6_both_36 ?_
          refine v_goto (pc := 39) 7 dX6_both_39 (by decide) ?_
          refine v_sub (L2 := [(0, ar h), (1, ai 4), (2, ai (k + 1))]) [1, 2, 0] rfl ?_
          exact ih _ (by omega) (k + 1) (emi (-2) (fac t e 1 (adv s1))) (if us2_6 < 100 then us2_6 + 1 else us2_6) (if us2_6 < 100 then aup cd2_7 us2_6 (-2) else cd2_7) rfl (by omega) (by rw [← hlp]; exact (lpP_go (by decide) (fac_k (t := t) 1) he.2 hBq (by omega) (by omega)).symm) (by exact PB_emi hpx.1) (by exact IE_code g_8 (by decide) (sl_of hpx (fun z => by show ((s1.2.2.length : Nat) : Int) + 1 ≤ s1.1 + 1; have := (hI1.2 z).2; omega) fac_mono he.2)) (by rw [emi_1.1]; omega)
  refine v_sub (L2 := [(0, ar h), (1, ai 4), (2, ai 0)]) [1, 2, 0] rfl ?_
  exact lp7 _ 0 (fac t e 1 s) us2_1 cd2_2 rfl (by omega) (by rfl) (by exact hp1.1) (by exact g_3) (by have := hp1.2.1; omega)
set_option maxHeartbeats 4000000 in
set_option maxRecDepth 100000 in
theorem c_reit_1 {gS : sG} (h : Nat) (tap : Nat) (e : Int) (hq : Nat) (t : Int → Int) (s : PS) (wi : Int) (pa : Int) (ns : Int) (us : Int) (sla : Nat) (ena : Nat) (cda : Nat) (sl : Int → Int) (en : Int → Int) (cd : Int → Int) (hB : PB e s) (he : 0 ≤ e ∧ e ≤ 100) (htb : ∀ j : Int, 0 ≤ j → j < e → 0 ≤ t j ∧ t j ≤ 127) (hIE : IE s ns us sl en cd) : Ct gS (S := Int × (Int → Int)) yX6_either cX6_either 3 none 10 219 0 0 [ar h, ai 4] [(h, co 6 (rdL tap e hq s)), (hq, co 3 [ai wi, ai pa, ai ns, ai us, ar sla, ar ena, ar cda]), (cda, cn 0 100 cd)] (fun q => q ∈ ([(tap, cn 0 100 t)] : aW)) (fun u => IE (soP t e (fac t e 1) s) ns u.1 sl en u.2) (fun u => none) (fun u => [(h, co 6 (rdL tap e hq (soP t e (fac t e 1) s))), (hq, co 3 [ai wi, ai pa, ai ns, ai u.1, ar sla, ar ena, ar cda]), (cda, cn 0 100 u.2)]) := by
  refine ct_V RX6 [(0, ar h), (1, ai 4)] (by decide) rfl (Nat.le_of_ble_eq_true rfl) rfl (fun x hgS hnm hro hret => ?_)
  subst hgS
  have r0 := hro _ (mem_at 0 rfl)
  obtain ⟨hB1, hB2, hB3⟩ := id hB
  have hfl := flt_c hB
  have hhr := hr_v (t := t) (e := e) (s := s)
  have hub := hIE.1
  show V x cX6_either RX6 3 (rmU 10 219 0 0) [(h, co 6 (rdL tap e hq s)), (hq, co 3 [ai wi, ai pa, ai ns, ai us, ar sla, ar ena, ar cda]), (cda, cn 0 100 cd)] 0 [(0, ar h), (1, ai 4)] [] 0 0
  refine v_aload_n (pc := 0) 0 rfl dX6_either_0 ?_
  refine v_iload_n (pc := 1) 1 rfl dX6_either_1 ?_
  refine v_callV (pc := 2) [0, 1, 2] [] [] (As := [ai 4]) (rest := []) (c_rbth_1 h tap e hq t s wi pa ns us sla ena cda sl en cd (by assumption) (by first | omega | assumption) (by assumption) (by assumption)) (c := 6) rfl (Or.inr ⟨0, rfl⟩) wl_X6_85 wi_X6_both wv_X6_X6_both_X6_both wk_X6_both wz_X6 md_X6_both rfl (Nat.le_of_ble_eq_true rfl) ⟨Nat.le_of_ble_eq_true rfl, Nat.le_of_ble_eq_true rfl, Nat.le_of_ble_eq_true rfl, Nat.le_of_ble_eq_true rfl⟩ rfl rfl rfl rfl (by decide) (ro_cons (Or.inl r0) ro_nil) dX6_either_2 (fun u hu => ?_)
  obtain ⟨us2_1, cd2_2⟩ := u
  have g_3 : IE (evP t e (fac t e 1) s) ns us2_1 sl en cd2_2 := hu
  show V x cX6_either RX6 3 (rmU 10 219 0 0) [(h, co 6 (rdL tap e hq (evP t e (fac t e 1) s))), (hq, co 3 [ai wi, ai pa, ai ns, ai us2_1, ar sla, ar ena, ar cda]), (cda, cn 0 100 cd2_2)] 5 [(0, ar h), (1, ai 4)] [] 0 0
  have hp1 := evP_k (t := t) (fac_k (t := t) 1) s hB
  refine v_iconst (pc := 5) dX6_either_5 ?_
  refine v_istore_n (pc := 6) (L2 := [(2, ai 0), (0, ar h), (1, ai 4)]) rfl (by decide) dX6_either_6 ?_
  have lp7 : ∀ (mm : Nat) (k : Int) (s1 : PS) (us1 : Int) (cd1 : Int → Int), (100 - k).toNat = mm → (0 ≤ k ∧ k ≤ 100) → (lpP t e 124 (-3) (evP t e (fac t e 1)) 101 s1 = soP t e (fac t e 1) s) → (PB e s1) → (IE s1 ns us1 sl en cd1) → (k ≤ s1.1) → V x cX6_either RX6 3 (rmU 10 219 0 0) [(h, co 6 (rdL tap e hq s1)), (hq, co 3 [ai wi, ai pa, ai ns, ai us1, ar sla, ar ena, ar cda]), (cda, cn 0 100 cd1)] 7 [(0, ar h), (1, ai 4), (2, ai k)] [] 0 0 := by
    intro mm
    induction mm using Nat.strongRecOn with
    | _ mm ih =>
      intro k s1 us1 cd1 hmm hk hlp hBq hI1 hks
      obtain ⟨hQ1, hQ2, hQ3⟩ := id hBq
      have hfl1 := flt_c hBq
      have hhr1 := hr_v (t := t) (e := e) (s := s1)
      have hub1 := hI1.1
      refine v_iload_n (pc := 7) 2 rfl dX6_either_7 ?_
      refine v_bipush (pc := 8) dX6_either_8 (by decide) ?_
      refine v_icmp_ge (pc := 10) 42 dX6_either_10 (by decide) (by unfold iB; omega) (by unfold iB; omega) (fun c_4 => ?_) (fun c_4 => ?_)
      · skip
        have he1 : soP t e (fac t e 1) s = s1 := hlp.symm.trans (lpP_st (by omega))
        refine v_ws (ws2 := [(h, co 6 (rdL tap e hq (soP t e (fac t e 1) s))), (hq, co 3 [ai wi, ai pa, ai ns, ai us1, ar sla, ar ena, ar cda]), (cda, cn 0 100 cd1)]) (by rw [he1]) ?_
        exact hret (us1, cd1) _ _ _ _ _ (by rw [he1]; exact hI1) rfl rfl (Nat.le_of_ble_eq_true rfl) (Nat.le_of_ble_eq_true rfl) dX6_either_42
      · skip
        refine v_aload_n (pc := 13) 0 rfl dX6_either_13 ?_
        refine v_bipush (pc := 14) dX6_either_14 (by decide) ?_
        refine v_callV (pc := 16) [0] [1, 2] [(hq, co 3 [ai wi, ai pa, ai ns, ai us1, ar sla, ar ena, ar cda]), (cda, cn 0 100 cd1)] (As := [ai 124]) (rest := []) (c_X6_takes h tap e hq t s1 124 (by exact hBq) (by first | omega | assumption) (by assumption) (by first | omega | assumption)) (c := 6) rfl (Or.inr ⟨0, rfl⟩) wl_X6_38 wi_X6_takes wv_X6_X6_takes_X6_takes wk_X6_takes wz_X6 md_X6_takes rfl (Nat.le_of_ble_eq_true rfl) ⟨Nat.le_of_ble_eq_true rfl, Nat.le_of_ble_eq_true rfl, Nat.le_of_ble_eq_true rfl, Nat.le_of_ble_eq_true rfl⟩ rfl rfl rfl rfl (by decide) (ro_cons (Or.inl r0) ro_nil) dX6_either_16 (fun u hu => ?_)
        show V x cX6_either RX6 3 (rmU 10 219 0 0) [(hq, co 3 [ai wi, ai pa, ai ns, ai us1, ar sla, ar ena, ar cda]), (cda, cn 0 100 cd1), (h, co 6 (rdL tap e hq (tkS t e 124 s1)))] 19 [(0, ar h), (1, ai 4), (2, ai k)] [ai (if s1.2.1 = 0 ∧ hr t e s1 = 124 then 1 else 0)] 0 0
        refine v_ifb_eq (pc := 19) 42 dX6_either_19 (by decide) (fun c_5 => ?_) (fun c_5 => ?_)
        · skip
          have hk : tkS t e 124 s1 = s1 := if_neg (by omega)
          refine v_ws (ws2 := [(hq, co 3 [ai wi, ai pa, ai ns, ai us1, ar sla, ar ena, ar cda]), (cda, cn 0 100 cd1), (h, co 6 (rdL tap e hq s1))]) (by rw [hk]) ?_
          have he1 : soP t e (fac t e 1) s = s1 := hlp.symm.trans (lpP_st (by omega))
          refine v_ws (ws2 := [(hq, co 3 [ai wi, ai pa, ai ns, ai us1, ar sla, ar ena, ar cda]), (cda, cn 0 100 cd1), (h, co 6 (rdL tap e hq (soP t e (fac t e 1) s)))]) (by rw [he1]) ?_
          refine v_wsub (ws2 := [(h, co 6 (rdL tap e hq (soP t e (fac t e 1) s))), (hq, co 3 [ai wi, ai pa, ai ns, ai us1, ar sla, ar ena, ar cda]), (cda, cn 0 100 cd1)]) [2, 0, 1] rfl rfl ?_
          exact hret (us1, cd1) _ _ _ _ _ (by rw [he1]; exact hI1) rfl rfl (Nat.le_of_ble_eq_true rfl) (Nat.le_of_ble_eq_true rfl) dX6_either_42
        · skip
          have hk : tkS t e 124 s1 = adv s1 := if_pos (by omega)
          refine v_ws (ws2 := [(hq, co 3 [ai wi, ai pa, ai ns, ai us1, ar sla, ar ena, ar cda]), (cda, cn 0 100 cd1), (h, co 6 (rdL tap e hq (adv s1)))]) (by rw [hk]) ?_
          have hBa := (adv_k hBq (by omega)).1
          have hma := Mv_adv hBq (show s1.1 < e by omega)
          refine v_aload_n (pc := 22) 0 rfl dX6_either_22 ?_
          refine v_iload_n (pc := 23) 1 rfl dX6_either_23 ?_
          refine v_callV (pc := 24) [2, 0, 1] [] [] (As := [ai 4]) (rest := []) (c_rbth_1 h tap e hq t (adv s1) wi pa ns us1 sla ena cda sl en cd1 (by exact hBa) (by first | omega | assumption) (by assumption) (by exact IE_mv hI1 hma)) (c := 6) rfl (Or.inr ⟨2, rfl⟩) wl_X6_85 wi_X6_both wv_X6_X6_both_X6_both wk_X6_both wz_X6 md_X6_both rfl (Nat.le_of_ble_eq_true rfl) ⟨Nat.le_of_ble_eq_true rfl, Nat.le_of_ble_eq_true rfl, Nat.le_of_ble_eq_true rfl, Nat.le_of_ble_eq_true rfl⟩ rfl rfl rfl rfl (by decide) (ro_cons (Or.inl r0) ro_nil) dX6_either_24 (fun u hu => ?_)
          obtain ⟨us2_6, cd2_7⟩ := u
          have g_8 : IE (evP t e (fac t e 1) (adv s1)) ns us2_6 sl en cd2_7 := hu
          show V x cX6_either RX6 3 (rmU 10 219 0 0) [(h, co 6 (rdL tap e hq (evP t e (fac t e 1) (adv s1)))), (hq, co 3 [ai wi, ai pa, ai ns, ai us2_6, ar sla, ar ena, ar cda]), (cda, cn 0 100 cd2_7)] 27 [(0, ar h), (1, ai 4), (2, ai k)] [] 0 0
          have hpx := evP_k (t := t) (fac_k (t := t) 1) (adv s1) hBa
          have hp2 := hpx.2.1
          have had : (adv s1).1 = s1.1 + 1 := rfl
          have hub3 := g_8.1
          refine v_aload_n (pc := 27) 0 rfl dX6_either_27 ?_
          refine v_get (pc := 28) (v := ar hq) 2 (Or.inr ⟨0, rfl⟩) fl_6_12_6 rfl dX6_either_28 ?_
          refine v_bipush (pc := 31) dX6_either_31 (by decide) ?_
          refine v_callV (pc := 33) [1, 2] [0] [(h, co 6 (rdL tap e hq (evP t e (fac t e 1) (adv s1))))] (As := [ai (-3)]) (rest := []) (c_X3_addCode hq wi pa ns us2_6 sla ena cda (-3) cd2_7 (by first | omega | assumption)) (c := 3) rfl (Or.inr ⟨1, rfl⟩) wl_X6_88 wi_X3_addCode wv_X3_X3_addCode_X3_addCode wk_X3_addCode wz_X3 md_X3_addCode rfl (Nat.le_of_ble_eq_true rfl) ⟨Nat.le_of_ble_eq_true rfl, Nat.le_of_ble_eq_true rfl, Nat.le_of_ble_eq_true rfl, Nat.le_of_ble_eq_true rfl⟩ rfl rfl rfl rfl (by decide) ro_nil dX6_either_33 (fun u hu => ?_)
          show V x cX6_either RX6 3 (rmU 10 219 0 0) [(h, co 6 (rdL tap e hq (evP t e (fac t e 1) (adv s1)))), (hq, co 3 [ai wi, ai pa, ai ns, ai (if us2_6 < 100 then us2_6 + 1 else us2_6), ar sla, ar ena, ar cda]), (cda, cn 0 100 (if us2_6 < 100 then aup cd2_7 us2_6 (-3) else cd2_7))] 36 [(0, ar h), (1, ai 4), (2, ai k)] [] 0 0
          refine v_ws (ws2 := [(h, co 6 (rdL tap e hq (emi (-3) (evP t e (fac t e 1) (adv s1))))), (hq, co 3 [ai wi, ai pa, ai ns, ai (if us2_6 < 100 then us2_6 + 1 else us2_6), ar sla, ar ena, ar cda]), (cda, cn 0 100 (if us2_6 < 100 then aup cd2_7 us2_6 (-3) else cd2_7))]) (by show [(h, co 6 [ar tap, ai e, ar hq, ai ((evP t e (fac t e 1) (adv s1)).1), ai (flt (evP t e (fac t e 1) (adv s1)))]), (hq, co 3 [ai wi, ai pa, ai ns, ai (if us2_6 < 100 then us2_6 + 1 else us2_6), ar sla, ar ena, ar cda]), (cda, cn 0 100 (if us2_6 < 100 then aup cd2_7 us2_6 (-3) else cd2_7))] = [(h, co 6 [ar tap, ai e, ar hq, ai ((emi (-3) (evP t e (fac t e 1) (adv s1))).1), ai (flt (emi (-3) (evP t e (fac t e 1) (adv s1))))]), (hq, co 3 [ai wi, ai pa, ai ns, ai (if us2_6 < 100 then us2_6 + 1 else us2_6), ar sla, ar ena, ar cda]), (cda, cn 0 100 (if us2_6 < 100 then aup cd2_7 us2_6 (-3) else cd2_7))]; rw [(emi_1 (z := -3) (s := (evP t e (fac t e 1) (adv s1)))).1, (emi_1 (z := -3) (s := (evP t e (fac t e 1) (adv s1)))).2.2]) ?_
          refine v_iinc (pc := 36) 2 (L2 := [(2, ai (k + 1)), (0, ar h), (1, ai 4)]) rfl rfl (by decide) dX6_either_36 ?_
          refine v_goto (pc := 39) 7 dX6_either_39 (by decide) ?_
          refine v_sub (L2 := [(0, ar h), (1, ai 4), (2, ai (k + 1))]) [1, 2, 0] rfl ?_
          exact ih _ (by omega) (k + 1) (emi (-3) (evP t e (fac t e 1) (adv s1))) (if us2_6 < 100 then us2_6 + 1 else us2_6) (if us2_6 < 100 then aup cd2_7 us2_6 (-3) else cd2_7) rfl (by omega) (by rw [← hlp]; exact (lpP_go (by decide) (evP_k (t := t) (fac_k (t := t) 1)) he.2 hBq (by omega) (by omega)).symm) (by exact PB_emi hpx.1) (by exact IE_code g_8 (by decide) (sl_of hpx (fun z => by show ((s1.2.2.length : Nat) : Int) + 1 ≤ s1.1 + 1; have := (hI1.2 z).2; omega) evP_mono he.2)) (by rw [emi_1.1]; omega)
  refine v_sub (L2 := [(0, ar h), (1, ai 4), (2, ai 0)]) [1, 2, 0] rfl ?_
  exact lp7 _ 0 (evP t e (fac t e 1) s) us2_1 cd2_2 rfl (by omega) (by rfl) (by exact hp1.1) (by exact g_3) (by have := hp1.2.1; omega)
set_option maxHeartbeats 4000000 in
set_option maxRecDepth 100000 in
theorem c_rfac_2 {gS : sG} (h : Nat) (tap : Nat) (e : Int) (hq : Nat) (t : Int → Int) (s : PS) (wi : Int) (pa : Int) (ns : Int) (us : Int) (sla : Nat) (ena : Nat) (cda : Nat) (sl : Int → Int) (en : Int → Int) (cd : Int → Int) (hB : PB e s) (he : 0 ≤ e ∧ e ≤ 100) (htb : ∀ j : Int, 0 ≤ j → j < e → 0 ≤ t j ∧ t j ≤ 127) (hIE : IE s ns us sl en cd) : Ct gS (S := Int × (Int → Int)) yX6_factor cX6_factor 4 none 11 241 0 0 [ar h, ai 3] [(h, co 6 (rdL tap e hq s)), (hq, co 3 [ai wi, ai pa, ai ns, ai us, ar sla, ar ena, ar cda]), (cda, cn 0 100 cd)] (fun q => q ∈ ([(tap, cn 0 100 t)] : aW)) (fun u => IE (fac t e 2 s) ns u.1 sl en u.2) (fun u => none) (fun u => [(h, co 6 (rdL tap e hq (fac t e 2 s))), (hq, co 3 [ai wi, ai pa, ai ns, ai u.1, ar sla, ar ena, ar cda]), (cda, cn 0 100 u.2)]) := by
  refine ct_V RX6 [(0, ar h), (1, ai 3)] (by decide) rfl (Nat.le_of_ble_eq_true rfl) rfl (fun x hgS hnm hro hret => ?_)
  subst hgS
  have r0 := hro _ (mem_at 0 rfl)
  obtain ⟨hB1, hB2, hB3⟩ := id hB
  have hfl := flt_c hB
  have hhr := hr_v (t := t) (e := e) (s := s)
  have hub := hIE.1
  show V x cX6_factor RX6 4 (rmU 11 241 0 0) [(h, co 6 (rdL tap e hq s)), (hq, co 3 [ai wi, ai pa, ai ns, ai us, ar sla, ar ena, ar cda]), (cda, cn 0 100 cd)] 0 [(0, ar h), (1, ai 3)] [] 0 0
  refine v_iload_n (pc := 0) 1 rfl dX6_factor_0 ?_
  refine v_iconst (pc := 1) dX6_factor_1 ?_
  refine v_icmp_ge (pc := 2) 32 dX6_factor_2 (by decide) (by unfold iB; omega) (by unfold iB; omega) (fun c_1 => by exfalso; omega) (fun c_1 => ?_)
  refine v_aload_n (pc := 5) 0 rfl dX6_factor_5 ?_
  refine v_bipush (pc := 6) dX6_factor_6 (by decide) ?_
  refine v_callV (pc := 8) [0] [1, 2] [(hq, co 3 [ai wi, ai pa, ai ns, ai us, ar sla, ar ena, ar cda]), (cda, cn 0 100 cd)] (As := [ai 33]) (rest := []) (c_X6_takes h tap e hq t s 33 (by assumption) (by first | omega | assumption) (by assumption) (by first | omega | assumption)) (c := 6) rfl (Or.inr ⟨0, rfl⟩) wl_X6_38 wi_X6_takes wv_X6_X6_takes_X6_takes wk_X6_takes wz_X6 md_X6_takes rfl (Nat.le_of_ble_eq_true rfl) ⟨Nat.le_of_ble_eq_true rfl, Nat.le_of_ble_eq_true rfl, Nat.le_of_ble_eq_true rfl, Nat.le_of_ble_eq_true rfl⟩ rfl rfl rfl rfl (by decide) (ro_cons (Or.inl r0) ro_nil) dX6_factor_8 (fun u hu => ?_)
  show V x cX6_factor RX6 4 (rmU 11 241 0 0) [(hq, co 3 [ai wi, ai pa, ai ns, ai us, ar sla, ar ena, ar cda]), (cda, cn 0 100 cd), (h, co 6 (rdL tap e hq (tkS t e 33 s)))] 11 [(0, ar h), (1, ai 3)] [ai (if s.2.1 = 0 ∧ hr t e s = 33 then 1 else 0)] 0 0
  refine v_ifb_eq (pc := 11) 32 dX6_factor_11 (by decide) (fun c_2 => ?_) (fun c_2 => ?_)
  · skip
    have hk : tkS t e 33 s = s := if_neg (by omega)
    refine v_ws (ws2 := [(hq, co 3 [ai wi, ai pa, ai ns, ai us, ar sla, ar ena, ar cda]), (cda, cn 0 100 cd), (h, co 6 (rdL tap e hq s))]) (by rw [hk]) ?_
    refine v_iload_n (pc := 32) 1 rfl dX6_factor_32 ?_
    refine v_iconst (pc := 33) dX6_factor_33 ?_
    refine v_icmp_ge (pc := 34) 62 dX6_factor_34 (by decide) (by unfold iB; omega) (by unfold iB; omega) (fun c_3 => by exfalso; omega) (fun c_3 => ?_)
    refine v_aload_n (pc := 37) 0 rfl dX6_factor_37 ?_
    refine v_bipush (pc := 38) dX6_factor_38 (by decide) ?_
    refine v_callV (pc := 40) [2] [0, 1] [(hq, co 3 [ai wi, ai pa, ai ns, ai us, ar sla, ar ena, ar cda]), (cda, cn 0 100 cd)] (As := [ai 40]) (rest := []) (c_X6_takes h tap e hq t s 40 (by assumption) (by first | omega | assumption) (by assumption) (by first | omega | assumption)) (c := 6) rfl (Or.inr ⟨2, rfl⟩) wl_X6_38 wi_X6_takes wv_X6_X6_takes_X6_takes wk_X6_takes wz_X6 md_X6_takes rfl (Nat.le_of_ble_eq_true rfl) ⟨Nat.le_of_ble_eq_true rfl, Nat.le_of_ble_eq_true rfl, Nat.le_of_ble_eq_true rfl, Nat.le_of_ble_eq_true rfl⟩ rfl rfl rfl rfl (by decide) (ro_cons (Or.inl r0) ro_nil) dX6_factor_40 (fun u hu => ?_)
    show V x cX6_factor RX6 4 (rmU 11 241 0 0) [(hq, co 3 [ai wi, ai pa, ai ns, ai us, ar sla, ar ena, ar cda]), (cda, cn 0 100 cd), (h, co 6 (rdL tap e hq (tkS t e 40 s)))] 43 [(0, ar h), (1, ai 3)] [ai (if s.2.1 = 0 ∧ hr t e s = 40 then 1 else 0)] 0 0
    refine v_ifb_eq (pc := 43) 62 dX6_factor_43 (by decide) (fun c_4 => ?_) (fun c_4 => ?_)
    · skip
      have hk : tkS t e 40 s = s := if_neg (by omega)
      refine v_ws (ws2 := [(hq, co 3 [ai wi, ai pa, ai ns, ai us, ar sla, ar ena, ar cda]), (cda, cn 0 100 cd), (h, co 6 (rdL tap e hq s))]) (by rw [hk]) ?_
      refine v_aload_n (pc := 62) 0 rfl dX6_factor_62 ?_
      refine v_ldcS (pc := 63) (q := ("MatFlip$Reader", 96, "pkngsy", 7)) (List.mem_of_getElem? (i := 7) rfl) rfl dX6_factor_63 ?_
      refine v_callV (pc := 65) [2] [0, 1] [(hq, co 3 [ai wi, ai pa, ai ns, ai us, ar sla, ar ena, ar cda]), (cda, cn 0 100 cd)] (As := [ar (lK (xg x) 7)]) (rest := []) (c_X6_takesOneOf h tap e hq t s 7 (by assumption) (by first | omega | assumption) (by assumption) (by decide)) (c := 6) rfl (Or.inr ⟨2, rfl⟩) wl_X6_50 wi_X6_takesOneOf wv_X6_X6_takesOneOf_X6_takesOneOf wk_X6_takesOneOf wz_X6 md_X6_takesOneOf rfl (Nat.le_of_ble_eq_true rfl) ⟨Nat.le_of_ble_eq_true rfl, Nat.le_of_ble_eq_true rfl, Nat.le_of_ble_eq_true rfl, Nat.le_of_ble_eq_true rfl⟩ rfl rfl rfl rfl (by decide) (ro_cons (Or.inl r0) ro_nil) dX6_factor_65 (fun u hu => ?_)
      show V x cX6_factor RX6 4 (rmU 11 241 0 0) [(hq, co 3 [ai wi, ai pa, ai ns, ai us, ar sla, ar ena, ar cda]), (cda, cn 0 100 cd), (h, co 6 (rdL tap e hq ((to1 t e 7 s).2)))] 68 [(0, ar h), (1, ai 3)] [ai ((to1 t e 7 s).1)] 0 0
      have hm7 := Mv_to1 (t := t) (e := e) (i := 7) (by decide) hB
      refine v_istore_n (pc := 68) (L2 := [(2, ai ((to1 t e 7 s).1)), (0, ar h), (1, ai 3)]) rfl (by decide) dX6_factor_68 ?_
      refine v_aload_n (pc := 69) 1 rfl dX6_factor_69 ?_
      refine v_ldcS (pc := 70) (q := ("MatFlip$Reader", 98, "<=>", 8)) (List.mem_of_getElem? (i := 8) rfl) rfl dX6_factor_70 ?_
      refine v_callV (pc := 72) [2] [0, 1] [(hq, co 3 [ai wi, ai pa, ai ns, ai us, ar sla, ar ena, ar cda]), (cda, cn 0 100 cd)] (As := [ar (lK (xg x) 8)]) (rest := []) (c_X6_takesOneOf h tap e hq t ((to1 t e 7 s).2) 8 (by exact hm7.1) (by first | omega | assumption) (by assumption) (by decide)) (c := 6) rfl (Or.inr ⟨2, rfl⟩) wl_X6_50 wi_X6_takesOneOf wv_X6_X6_takesOneOf_X6_takesOneOf wk_X6_takesOneOf wz_X6 md_X6_takesOneOf rfl (Nat.le_of_ble_eq_true rfl) ⟨Nat.le_of_ble_eq_true rfl, Nat.le_of_ble_eq_true rfl, Nat.le_of_ble_eq_true rfl, Nat.le_of_ble_eq_true rfl⟩ rfl rfl rfl rfl (by decide) (ro_cons (Or.inl r0) ro_nil) dX6_factor_72 (fun u hu => ?_)
      show V x cX6_factor RX6 4 (rmU 11 241 0 0) [(hq, co 3 [ai wi, ai pa, ai ns, ai us, ar sla, ar ena, ar cda]), (cda, cn 0 100 cd), (h, co 6 (rdL tap e hq ((to1 t e 8 ((to1 t e 7 s).2)).2)))] 75 [(2, ai ((to1 t e 7 s).1)), (0, ar h), (1, ai 3)] [ai ((to1 t e 8 ((to1 t e 7 s).2)).1)] 0 0
      have hm8 := Mv_to1 (t := t) (e := e) (i := 8) (by decide) hm7.1
      refine v_istore_n (pc := 75) (L2 := [(3, ai ((to1 t e 8 ((to1 t e 7 s).2)).1)), (2, ai ((to1 t e 7 s).1)), (0, ar h), (1, ai 3)]) rfl (by decide) dX6_factor_75 ?_
      refine v_aload_n (pc := 76) 2 rfl dX6_factor_76 ?_
      refine v_get (pc := 77) (v := ar hq) 2 (Or.inr ⟨2, rfl⟩) fl_6_12_6 rfl dX6_factor_77 ?_
      refine v_iload_n (pc := 80) 1 rfl dX6_factor_80 ?_
      refine v_iload_n (pc := 81) 0 rfl dX6_factor_81 ?_
      refine v_aload_n (pc := 82) 2 rfl dX6_factor_82 ?_
      refine v_callV (pc := 83) [2] [0, 1] [(hq, co 3 [ai wi, ai pa, ai ns, ai us, ar sla, ar ena, ar cda]), (cda, cn 0 100 cd)] (As := []) (rest := [ai ((to1 t e 8 ((to1 t e 7 s).2)).1), ai ((to1 t e 7 s).1), ar hq]) (c_X6_number h tap e hq t ((to1 t e 8 ((to1 t e 7 s).2)).2) (by exact hm8.1) (by first | omega | assumption) (by assumption)) (c := 6) rfl (Or.inr ⟨2, rfl⟩) wl_X6_66 wi_X6_number wv_X6_X6_number_X6_number wk_X6_number wz_X6 md_X6_number rfl (Nat.le_of_ble_eq_true rfl) ⟨Nat.le_of_ble_eq_true rfl, Nat.le_of_ble_eq_true rfl, Nat.le_of_ble_eq_true rfl, Nat.le_of_ble_eq_true rfl⟩ rfl rfl rfl rfl (by decide) (ro_cons (Or.inl r0) ro_nil) dX6_factor_83 (fun u hu => ?_)
      show V x cX6_factor RX6 4 (rmU 11 241 0 0) [(hq, co 3 [ai wi, ai pa, ai ns, ai us, ar sla, ar ena, ar cda]), (cda, cn 0 100 cd), (h, co 6 (rdL tap e hq ((fig t e ((to1 t e 8 ((to1 t e 7 s).2)).2)).2)))] 86 [(3, ai ((to1 t e 8 ((to1 t e 7 s).2)).1)), (2, ai ((to1 t e 7 s).1)), (0, ar h), (1, ai 3)] [ai ((fig t e ((to1 t e 8 ((to1 t e 7 s).2)).2)).1), ai ((to1 t e 8 ((to1 t e 7 s).2)).1), ai ((to1 t e 7 s).1), ar hq] 0 0
      refine v_callV (pc := 86) [0, 1] [2] [(h, co 6 (rdL tap e hq ((fig t e ((to1 t e 8 ((to1 t e 7 s).2)).2)).2)))] (As := [ai ((to1 t e 7 s).1), ai ((to1 t e 8 ((to1 t e 7 s).2)).1), ai ((fig t e ((to1 t e 8 ((to1 t e 7 s).2)).2)).1)]) (rest := []) (c_X3_addTest hq wi pa ns us sla ena cda ((to1 t e 7 s).1) ((to1 t e 8 ((to1 t e 7 s).2)).1) ((fig t e ((to1 t e 8 ((to1 t e 7 s).2)).2)).1) cd (by first | omega | assumption)) (c := 3) rfl (Or.inr ⟨0, rfl⟩) wl_X6_100 wi_X3_addTest wv_X3_X3_addTest_X3_addTest wk_X3_addTest wz_X3 md_X3_addTest rfl (Nat.le_of_ble_eq_true rfl) ⟨Nat.le_of_ble_eq_true rfl, Nat.le_of_ble_eq_true rfl, Nat.le_of_ble_eq_true rfl, Nat.le_of_ble_eq_true rfl⟩ rfl rfl rfl rfl (by decide) ro_nil dX6_factor_86 (fun u hu => ?_)
      show V x cX6_factor RX6 4 (rmU 11 241 0 0) [(h, co 6 (rdL tap e hq ((fig t e ((to1 t e 8 ((to1 t e 7 s).2)).2)).2))), (hq, co 3 [ai wi, ai pa, ai ns, ai (if us < 100 then us + 1 else us), ar sla, ar ena, ar cda]), (cda, cn 0 100 (if us < 100 then aup cd us ((((to1 t e 7 s).1) * 3 + ((to1 t e 8 ((to1 t e 7 s).2)).1)) * 100 + ((fig t e ((to1 t e 8 ((to1 t e 7 s).2)).2)).1)) else cd))] 89 [(3, ai ((to1 t e 8 ((to1 t e 7 s).2)).1)), (2, ai ((to1 t e 7 s).1)), (0, ar h), (1, ai 3)] [] 0 0
      refine v_ws (ws2 := [(h, co 6 (rdL tap e hq (tsS t e s))), (hq, co 3 [ai wi, ai pa, ai ns, ai (if us < 100 then us + 1 else us), ar sla, ar ena, ar cda]), (cda, cn 0 100 (if us < 100 then aup cd us ((((to1 t e 7 s).1) * 3 + ((to1 t e 8 ((to1 t e 7 s).2)).1)) * 100 + ((fig t e ((to1 t e 8 ((to1 t e 7 s).2)).2)).1)) else cd))]) (by rfl) ?_
      refine v_ws (ws2 := [(h, co 6 (rdL tap e hq (emi (tsZ t e s) (tsS t e s)))), (hq, co 3 [ai wi, ai pa, ai ns, ai (if us < 100 then us + 1 else us), ar sla, ar ena, ar cda]), (cda, cn 0 100 (if us < 100 then aup cd us ((((to1 t e 7 s).1) * 3 + ((to1 t e 8 ((to1 t e 7 s).2)).1)) * 100 + ((fig t e ((to1 t e 8 ((to1 t e 7 s).2)).2)).1)) else cd))]) (by show [(h, co 6 [ar tap, ai e, ar hq, ai ((tsS t e s).1), ai (flt (tsS t e s))]), (hq, co 3 [ai wi, ai pa, ai ns, ai (if us < 100 then us + 1 else us), ar sla, ar ena, ar cda]), (cda, cn 0 100 (if us < 100 then aup cd us ((((to1 t e 7 s).1) * 3 + ((to1 t e 8 ((to1 t e 7 s).2)).1)) * 100 + ((fig t e ((to1 t e 8 ((to1 t e 7 s).2)).2)).1)) else cd))] = [(h, co 6 [ar tap, ai e, ar hq, ai ((emi (tsZ t e s) (tsS t e s)).1), ai (flt (emi (tsZ t e s) (tsS t e s)))]), (hq, co 3 [ai wi, ai pa, ai ns, ai (if us < 100 then us + 1 else us), ar sla, ar ena, ar cda]), (cda, cn 0 100 (if us < 100 then aup cd us ((((to1 t e 7 s).1) * 3 + ((to1 t e 8 ((to1 t e 7 s).2)).1)) * 100 + ((fig t e ((to1 t e 8 ((to1 t e 7 s).2)).2)).1)) else cd))]; rw [(emi_1 (z := (tsZ t e s)) (s := (tsS t e s))).1, (emi_1 (z := (tsZ t e s)) (s := (tsS t e s))).2.2]) ?_
      have hfc : fac t e 2 s = emi (tsZ t e s) (tsS t e s) := fac_cl hB (Or.inr (by omega))
      refine v_ws (ws2 := [(h, co 6 (rdL tap e hq (fac t e 2 s))), (hq, co 3 [ai wi, ai pa, ai ns, ai (if us < 100 then us + 1 else us), ar sla, ar ena, ar cda]), (cda, cn 0 100 (if us < 100 then aup cd us ((((to1 t e 7 s).1) * 3 + ((to1 t e 8 ((to1 t e 7 s).2)).1)) * 100 + ((fig t e ((to1 t e 8 ((to1 t e 7 s).2)).2)).1)) else cd))]) (by rw [hfc]) ?_
      have hen := enc_ts (t := t) (e := e) (s := s)
      have hie := IE_code (z := tsZ t e s) (IE_mv hIE (Mv_tsS (t := t) hB)) (by omega) (tsS_sl hB he.2 (fun z => (hIE.2 z).2))
      rw [hen.1] at hie
      exact hret ((if us < 100 then us + 1 else us), (if us < 100 then aup cd us ((((to1 t e 7 s).1) * 3 + ((to1 t e 8 ((to1 t e 7 s).2)).1)) * 100 + ((fig t e ((to1 t e 8 ((to1 t e 7 s).2)).2)).1)) else cd)) _ _ _ _ _ (by rw [hfc]; exact hie) rfl rfl (Nat.le_of_ble_eq_true rfl) (Nat.le_of_ble_eq_true rfl) dX6_factor_89
    · skip
      have hk : tkS t e 40 s = adv s := if_pos (by omega)
      refine v_ws (ws2 := [(hq, co 3 [ai wi, ai pa, ai ns, ai us, ar sla, ar ena, ar cda]), (cda, cn 0 100 cd), (h, co 6 (rdL tap e hq (adv s)))]) (by rw [hk]) ?_
      have hBa := (adv_k hB (by omega)).1
      have hma := Mv_adv hB (show s.1 < e by omega)
      refine v_aload_n (pc := 46) 0 rfl dX6_factor_46 ?_
      refine v_iload_n (pc := 47) 1 rfl dX6_factor_47 ?_
      refine v_iconst (pc := 48) dX6_factor_48 ?_
      refine v_iadd (pc := 49) dX6_factor_49 ?_
      refine v_callV (pc := 50) [2, 0, 1] [] [] (As := [ai 4]) (rest := []) (c_reit_1 h tap e hq t (adv s) wi pa ns us sla ena cda sl en cd (by exact hBa) (by first | omega | assumption) (by assumption) (by exact IE_mv hIE hma)) (c := 6) rfl (Or.inr ⟨2, rfl⟩) wl_X6_78 wi_X6_either wv_X6_X6_either_X6_either wk_X6_either wz_X6 md_X6_either rfl (Nat.le_of_ble_eq_true rfl) ⟨Nat.le_of_ble_eq_true rfl, Nat.le_of_ble_eq_true rfl, Nat.le_of_ble_eq_true rfl, Nat.le_of_ble_eq_true rfl⟩ rfl rfl rfl rfl (by decide) (ro_cons (Or.inl r0) ro_nil) dX6_factor_50 (fun u hu => ?_)
      obtain ⟨us2_5, cd2_6⟩ := u
      have g_7 : IE (soP t e (fac t e 1) (adv s)) ns us2_5 sl en cd2_6 := hu
      show V x cX6_factor RX6 4 (rmU 11 241 0 0) [(h, co 6 (rdL tap e hq (soP t e (fac t e 1) (adv s)))), (hq, co 3 [ai wi, ai pa, ai ns, ai us2_5, ar sla, ar ena, ar cda]), (cda, cn 0 100 cd2_6)] 53 [(0, ar h), (1, ai 3)] [] 0 0
      have hBx := (soP_k (t := t) (fac_k (t := t) 1) (adv s) hBa).1
      refine v_aload_n (pc := 53) 0 rfl dX6_factor_53 ?_
      refine v_ldcS (pc := 54) (q := ("MatFlip$Reader", 94, ")", 6)) (List.mem_of_getElem? (i := 6) rfl) rfl dX6_factor_54 ?_
      refine v_callV (pc := 56) [0] [1, 2] [(hq, co 3 [ai wi, ai pa, ai ns, ai us2_5, ar sla, ar ena, ar cda]), (cda, cn 0 100 cd2_6)] (As := [ar (lK (xg x) 6)]) (rest := []) (c_X6_needs h tap e hq t (soP t e (fac t e 1) (adv s)) 6 (by exact hBx) (by first | omega | assumption) (by assumption) (by decide)) (c := 6) rfl (Or.inr ⟨0, rfl⟩) wl_X6_62 wi_X6_needs wv_X6_X6_needs_X6_needs wk_X6_needs wz_X6 md_X6_needs rfl (Nat.le_of_ble_eq_true rfl) ⟨Nat.le_of_ble_eq_true rfl, Nat.le_of_ble_eq_true rfl, Nat.le_of_ble_eq_true rfl, Nat.le_of_ble_eq_true rfl⟩ rfl rfl rfl rfl (by decide) (ro_cons (Or.inl r0) ro_nil) dX6_factor_56 (fun u hu => ?_)
      show V x cX6_factor RX6 4 (rmU 11 241 0 0) [(hq, co 3 [ai wi, ai pa, ai ns, ai us2_5, ar sla, ar ena, ar cda]), (cda, cn 0 100 cd2_6), (h, co 6 (rdL tap e hq (spl t e 6 (lenS 6).toNat (soP t e (fac t e 1) (adv s)))))] 59 [(0, ar h), (1, ai 3)] [] 0 0
      have hfc : fac t e 2 s = mstP t e 41 (soP t e (fac t e 1) (adv s)) := fac_br (by omega) (by omega)
      have hs1 : spl t e 6 (lenS 6).toNat (soP t e (fac t e 1) (adv s)) = mstP t e 41 (soP t e (fac t e 1) (adv s)) := spl_l1 (by decide) (by decide)
      refine v_ws (ws2 := [(hq, co 3 [ai wi, ai pa, ai ns, ai us2_5, ar sla, ar ena, ar cda]), (cda, cn 0 100 cd2_6), (h, co 6 (rdL tap e hq (fac t e 2 s)))]) (by rw [hfc, hs1]) ?_
      refine v_goto (pc := 59) 89 dX6_factor_59 (by decide) ?_
      refine v_wsub (ws2 := [(h, co 6 (rdL tap e hq (fac t e 2 s))), (hq, co 3 [ai wi, ai pa, ai ns, ai us2_5, ar sla, ar ena, ar cda]), (cda, cn 0 100 cd2_6)]) [2, 0, 1] rfl rfl ?_
      exact hret (us2_5, cd2_6) _ _ _ _ _ (by rw [hfc]; exact IE_mv g_7 (Mv_mst (by decide) hBx)) rfl rfl (Nat.le_of_ble_eq_true rfl) (Nat.le_of_ble_eq_true rfl) dX6_factor_89
  · skip
    have hk : tkS t e 33 s = adv s := if_pos (by omega)
    refine v_ws (ws2 := [(hq, co 3 [ai wi, ai pa, ai ns, ai us, ar sla, ar ena, ar cda]), (cda, cn 0 100 cd), (h, co 6 (rdL tap e hq (adv s)))]) (by rw [hk]) ?_
    have hBa := (adv_k hB (by omega)).1
    have hma := Mv_adv hB (show s.1 < e by omega)
    refine v_aload_n (pc := 14) 0 rfl dX6_factor_14 ?_
    refine v_iload_n (pc := 15) 1 rfl dX6_factor_15 ?_
    refine v_iconst (pc := 16) dX6_factor_16 ?_
    refine v_iadd (pc := 17) dX6_factor_17 ?_
    refine v_callV (pc := 18) [2, 0, 1] [] [] (As := [ai 4]) (rest := []) (c_rfac_1 h tap e hq t (adv s) wi pa ns us sla ena cda sl en cd (by exact hBa) (by first | omega | assumption) (by assumption) (by exact IE_mv hIE hma)) (c := 6) rfl (Or.inr ⟨2, rfl⟩) wl_X6_91 wi_X6_factor wv_X6_X6_factor_X6_factor wk_X6_factor wz_X6 md_X6_factor rfl (Nat.le_of_ble_eq_true rfl) ⟨Nat.le_of_ble_eq_true rfl, Nat.le_of_ble_eq_true rfl, Nat.le_of_ble_eq_true rfl, Nat.le_of_ble_eq_true rfl⟩ rfl rfl rfl rfl (by decide) (ro_cons (Or.inl r0) ro_nil) dX6_factor_18 (fun u hu => ?_)
    obtain ⟨us2_8, cd2_9⟩ := u
    have g_10 : IE (fac t e 1 (adv s)) ns us2_8 sl en cd2_9 := hu
    show V x cX6_factor RX6 4 (rmU 11 241 0 0) [(h, co 6 (rdL tap e hq (fac t e 1 (adv s)))), (hq, co 3 [ai wi, ai pa, ai ns, ai us2_8, ar sla, ar ena, ar cda]), (cda, cn 0 100 cd2_9)] 21 [(0, ar h), (1, ai 3)] [] 0 0
    have hub2 := g_10.1
    refine v_aload_n (pc := 21) 0 rfl dX6_factor_21 ?_
    refine v_get (pc := 22) (v := ar hq) 2 (Or.inr ⟨0, rfl⟩) fl_6_12_6 rfl dX6_factor_22 ?_
    refine v_iconst (pc := 25) dX6_factor_25 ?_
    refine v_callV (pc := 26) [1, 2] [0] [(h, co 6 (rdL tap e hq (fac t e 1 (adv s))))] (As := [ai (-1)]) (rest := []) (c_X3_addCode hq wi pa ns us2_8 sla ena cda (-1) cd2_9 (by first | omega | assumption)) (c := 3) rfl (Or.inr ⟨1, rfl⟩) wl_X6_88 wi_X3_addCode wv_X3_X3_addCode_X3_addCode wk_X3_addCode wz_X3 md_X3_addCode rfl (Nat.le_of_ble_eq_true rfl) ⟨Nat.le_of_ble_eq_true rfl, Nat.le_of_ble_eq_true rfl, Nat.le_of_ble_eq_true rfl, Nat.le_of_ble_eq_true rfl⟩ rfl rfl rfl rfl (by decide) ro_nil dX6_factor_26 (fun u hu => ?_)
    show V x cX6_factor RX6 4 (rmU 11 241 0 0) [(h, co 6 (rdL tap e hq (fac t e 1 (adv s)))), (hq, co 3 [ai wi, ai pa, ai ns, ai (if us2_8 < 100 then us2_8 + 1 else us2_8), ar sla, ar ena, ar cda]), (cda, cn 0 100 (if us2_8 < 100 then aup cd2_9 us2_8 (-1) else cd2_9))] 29 [(0, ar h), (1, ai 3)] [] 0 0
    refine v_ws (ws2 := [(h, co 6 (rdL tap e hq (emi (-1) (fac t e 1 (adv s))))), (hq, co 3 [ai wi, ai pa, ai ns, ai (if us2_8 < 100 then us2_8 + 1 else us2_8), ar sla, ar ena, ar cda]), (cda, cn 0 100 (if us2_8 < 100 then aup cd2_9 us2_8 (-1) else cd2_9))]) (by show [(h, co 6 [ar tap, ai e, ar hq, ai ((fac t e 1 (adv s)).1), ai (flt (fac t e 1 (adv s)))]), (hq, co 3 [ai wi, ai pa, ai ns, ai (if us2_8 < 100 then us2_8 + 1 else us2_8), ar sla, ar ena, ar cda]), (cda, cn 0 100 (if us2_8 < 100 then aup cd2_9 us2_8 (-1) else cd2_9))] = [(h, co 6 [ar tap, ai e, ar hq, ai ((emi (-1) (fac t e 1 (adv s))).1), ai (flt (emi (-1) (fac t e 1 (adv s))))]), (hq, co 3 [ai wi, ai pa, ai ns, ai (if us2_8 < 100 then us2_8 + 1 else us2_8), ar sla, ar ena, ar cda]), (cda, cn 0 100 (if us2_8 < 100 then aup cd2_9 us2_8 (-1) else cd2_9))]; rw [(emi_1 (z := -1) (s := (fac t e 1 (adv s)))).1, (emi_1 (z := -1) (s := (fac t e 1 (adv s)))).2.2]) ?_
    have hfc : fac t e 2 s = emi (-1) (fac t e 1 (adv s)) := fac_ex (by omega) (by omega)
    refine v_ws (ws2 := [(h, co 6 (rdL tap e hq (fac t e 2 s))), (hq, co 3 [ai wi, ai pa, ai ns, ai (if us2_8 < 100 then us2_8 + 1 else us2_8), ar sla, ar ena, ar cda]), (cda, cn 0 100 (if us2_8 < 100 then aup cd2_9 us2_8 (-1) else cd2_9))]) (by rw [hfc]) ?_
    refine v_goto (pc := 29) 89 dX6_factor_29 (by decide) ?_
    exact hret ((if us2_8 < 100 then us2_8 + 1 else us2_8), (if us2_8 < 100 then aup cd2_9 us2_8 (-1) else cd2_9)) _ _ _ _ _ (by rw [hfc]; exact IE_code g_10 (by decide) (sl_of (fac_k (t := t) 1 (adv s) hBa) (fun z => by show ((s.2.2.length : Nat) : Int) + 1 ≤ s.1 + 1; have := (hIE.2 z).2; omega) fac_mono he.2)) rfl rfl (Nat.le_of_ble_eq_true rfl) (Nat.le_of_ble_eq_true rfl) dX6_factor_89
set_option maxHeartbeats 4000000 in
set_option maxRecDepth 100000 in
theorem c_rbth_2 {gS : sG} (h : Nat) (tap : Nat) (e : Int) (hq : Nat) (t : Int → Int) (s : PS) (wi : Int) (pa : Int) (ns : Int) (us : Int) (sla : Nat) (ena : Nat) (cda : Nat) (sl : Int → Int) (en : Int → Int) (cd : Int → Int) (hB : PB e s) (he : 0 ≤ e ∧ e ≤ 100) (htb : ∀ j : Int, 0 ≤ j → j < e → 0 ≤ t j ∧ t j ≤ 127) (hIE : IE s ns us sl en cd) : Ct gS (S := Int × (Int → Int)) yX6_both cX6_both 3 none 12 264 0 0 [ar h, ai 3] [(h, co 6 (rdL tap e hq s)), (hq, co 3 [ai wi, ai pa, ai ns, ai us, ar sla, ar ena, ar cda]), (cda, cn 0 100 cd)] (fun q => q ∈ ([(tap, cn 0 100 t)] : aW)) (fun u => IE (evP t e (fac t e 2) s) ns u.1 sl en u.2) (fun u => none) (fun u => [(h, co 6 (rdL tap e hq (evP t e (fac t e 2) s))), (hq, co 3 [ai wi, ai pa, ai ns, ai u.1, ar sla, ar ena, ar cda]), (cda, cn 0 100 u.2)]) := by
  refine ct_V RX6 [(0, ar h), (1, ai 3)] (by decide) rfl (Nat.le_of_ble_eq_true rfl) rfl (fun x hgS hnm hro hret => ?_)
  subst hgS
  have r0 := hro _ (mem_at 0 rfl)
  obtain ⟨hB1, hB2, hB3⟩ := id hB
  have hfl := flt_c hB
  have hhr := hr_v (t := t) (e := e) (s := s)
  have hub := hIE.1
  show V x cX6_both RX6 3 (rmU 12 264 0 0) [(h, co 6 (rdL tap e hq s)), (hq, co 3 [ai wi, ai pa, ai ns, ai us, ar sla, ar ena, ar cda]), (cda, cn 0 100 cd)] 0 [(0, ar h), (1, ai 3)] [] 0 0
  refine v_aload_n (pc := 0) 0 rfl dX6_both_0 ?_
  refine v_iload_n (pc := 1) 1 rfl dX6_both_1 ?_
  refine v_callV (pc := 2) [0, 1, 2] [] [] (As := [ai 3]) (rest := []) (c_rfac_2 h tap e hq t s wi pa ns us sla ena cda sl en cd (by assumption) (by first | omega | assumption) (by assumption) (by assumption)) (c := 6) rfl (Or.inr ⟨0, rfl⟩) wl_X6_91 wi_X6_factor wv_X6_X6_factor_X6_factor wk_X6_factor wz_X6 md_X6_factor rfl (Nat.le_of_ble_eq_true rfl) ⟨Nat.le_of_ble_eq_true rfl, Nat.le_of_ble_eq_true rfl, Nat.le_of_ble_eq_true rfl, Nat.le_of_ble_eq_true rfl⟩ rfl rfl rfl rfl (by decide) (ro_cons (Or.inl r0) ro_nil) dX6_both_2 (fun u hu => ?_)
  obtain ⟨us2_1, cd2_2⟩ := u
  have g_3 : IE (fac t e 2 s) ns us2_1 sl en cd2_2 := hu
  show V x cX6_both RX6 3 (rmU 12 264 0 0) [(h, co 6 (rdL tap e hq (fac t e 2 s))), (hq, co 3 [ai wi, ai pa, ai ns, ai us2_1, ar sla, ar ena, ar cda]), (cda, cn 0 100 cd2_2)] 5 [(0, ar h), (1, ai 3)] [] 0 0
  have hp1 := fac_k (t := t) 2 s hB
  refine v_iconst (pc := 5) dX6_both_5 ?_
  refine v_istore_n (pc := 6) (L2 := [(2, ai 0), (0, ar h), (1, ai 3)]) rfl (by decide) dX6_both_6 ?_
  have lp7 : ∀ (mm : Nat) (k : Int) (s1 : PS) (us1 : Int) (cd1 : Int → Int), (100 - k).toNat = mm → (0 ≤ k ∧ k ≤ 100) → (lpP t e 38 (-2) (fac t e 2) 101 s1 = evP t e (fac t e 2) s) → (PB e s1) → (IE s1 ns us1 sl en cd1) → (k ≤ s1.1) → V x cX6_both RX6 3 (rmU 12 264 0 0) [(h, co 6 (rdL tap e hq s1)), (hq, co 3 [ai wi, ai pa, ai ns, ai us1, ar sla, ar ena, ar cda]), (cda, cn 0 100 cd1)] 7 [(0, ar h), (1, ai 3), (2, ai k)] [] 0 0 := by
    intro mm
    induction mm using Nat.strongRecOn with
    | _ mm ih =>
      intro k s1 us1 cd1 hmm hk hlp hBq hI1 hks
      obtain ⟨hQ1, hQ2, hQ3⟩ := id hBq
      have hfl1 := flt_c hBq
      have hhr1 := hr_v (t := t) (e := e) (s := s1)
      have hub1 := hI1.1
      refine v_iload_n (pc := 7) 2 rfl dX6_both_7 ?_
      refine v_bipush (pc := 8) dX6_both_8 (by decide) ?_
      refine v_icmp_ge (pc := 10) 42 dX6_both_10 (by decide) (by unfold iB; omega) (by unfold iB; omega) (fun c_4 => ?_) (fun c_4 => ?_)
      · skip
        have he1 : evP t e (fac t e 2) s = s1 := hlp.symm.trans (lpP_st (by omega))
        refine v_ws (ws2 := [(h, co 6 (rdL tap e hq (evP t e (fac t e 2) s))), (hq, co 3 [ai wi, ai pa, ai ns, ai us1, ar sla, ar ena, ar cda]), (cda, cn 0 100 cd1)]) (by rw [he1]) ?_
        exact hret (us1, cd1) _ _ _ _ _ (by rw [he1]; exact hI1) rfl rfl (Nat.le_of_ble_eq_true rfl) (Nat.le_of_ble_eq_true rfl) dX6_both_42
      · skip
        refine v_aload_n (pc := 13) 0 rfl dX6_both_13 ?_
        refine v_bipush (pc := 14) dX6_both_14 (by decide) ?_
        refine v_callV (pc := 16) [0] [1, 2] [(hq, co 3 [ai wi, ai pa, ai ns, ai us1, ar sla, ar ena, ar cda]), (cda, cn 0 100 cd1)] (As := [ai 38]) (rest := []) (c_X6_takes h tap e hq t s1 38 (by exact hBq) (by first | omega | assumption) (by assumption) (by first | omega | assumption)) (c := 6) rfl (Or.inr ⟨0, rfl⟩) wl_X6_38 wi_X6_takes wv_X6_X6_takes_X6_takes wk_X6_takes wz_X6 md_X6_takes rfl (Nat.le_of_ble_eq_true rfl) ⟨Nat.le_of_ble_eq_true rfl, Nat.le_of_ble_eq_true rfl, Nat.le_of_ble_eq_true rfl, Nat.le_of_ble_eq_true rfl⟩ rfl rfl rfl rfl (by decide) (ro_cons (Or.inl r0) ro_nil) dX6_both_16 (fun u hu => ?_)
        show V x cX6_both RX6 3 (rmU 12 264 0 0) [(hq, co 3 [ai wi, ai pa, ai ns, ai us1, ar sla, ar ena, ar cda]), (cda, cn 0 100 cd1), (h, co 6 (rdL tap e hq (tkS t e 38 s1)))] 19 [(0, ar h), (1, ai 3), (2, ai k)] [ai (if s1.2.1 = 0 ∧ hr t e s1 = 38 then 1 else 0)] 0 0
        refine v_ifb_eq (pc := 19) 42 dX6_both_19 (by decide) (fun c_5 => ?_) (fun c_5 => ?_)
        · skip
          have hk : tkS t e 38 s1 = s1 := if_neg (by omega)
          refine v_ws (ws2 := [(hq, co 3 [ai wi, ai pa, ai ns, ai us1, ar sla, ar ena, ar cda]), (cda, cn 0 100 cd1), (h, co 6 (rdL tap e hq s1))]) (by rw [hk]) ?_
          have he1 : evP t e (fac t e 2) s = s1 := hlp.symm.trans (lpP_st (by omega))
          refine v_ws (ws2 := [(hq, co 3 [ai wi, ai pa, ai ns, ai us1, ar sla, ar ena, ar cda]), (cda, cn 0 100 cd1), (h, co 6 (rdL tap e hq (evP t e (fac t e 2) s)))]) (by rw [he1]) ?_
          refine v_wsub (ws2 := [(h, co 6 (rdL tap e hq (evP t e (fac t e 2) s))), (hq, co 3 [ai wi, ai pa, ai ns, ai us1, ar sla, ar ena, ar cda]), (cda, cn 0 100 cd1)]) [2, 0, 1] rfl rfl ?_
          exact hret (us1, cd1) _ _ _ _ _ (by rw [he1]; exact hI1) rfl rfl (Nat.le_of_ble_eq_true rfl) (Nat.le_of_ble_eq_true rfl) dX6_both_42
        · skip
          have hk : tkS t e 38 s1 = adv s1 := if_pos (by omega)
          refine v_ws (ws2 := [(hq, co 3 [ai wi, ai pa, ai ns, ai us1, ar sla, ar ena, ar cda]), (cda, cn 0 100 cd1), (h, co 6 (rdL tap e hq (adv s1)))]) (by rw [hk]) ?_
          have hBa := (adv_k hBq (by omega)).1
          have hma := Mv_adv hBq (show s1.1 < e by omega)
          refine v_aload_n (pc := 22) 0 rfl dX6_both_22 ?_
          refine v_iload_n (pc := 23) 1 rfl dX6_both_23 ?_
          refine v_callV (pc := 24) [2, 0, 1] [] [] (As := [ai 3]) (rest := []) (c_rfac_2 h tap e hq t (adv s1) wi pa ns us1 sla ena cda sl en cd1 (by exact hBa) (by first | omega | assumption) (by assumption) (by exact IE_mv hI1 hma)) (c := 6) rfl (Or.inr ⟨2, rfl⟩) wl_X6_91 wi_X6_factor wv_X6_X6_factor_X6_factor wk_X6_factor wz_X6 md_X6_factor rfl (Nat.le_of_ble_eq_true rfl) ⟨Nat.le_of_ble_eq_true rfl, Nat.le_of_ble_eq_true rfl, Nat.le_of_ble_eq_true rfl, Nat.le_of_ble_eq_true rfl⟩ rfl rfl rfl rfl (by decide) (ro_cons (Or.inl r0) ro_nil) dX6_both_24 (fun u hu => ?_)
          obtain ⟨us2_6, cd2_7⟩ := u
          have g_8 : IE (fac t e 2 (adv s1)) ns us2_6 sl en cd2_7 := hu
          show V x cX6_both RX6 3 (rmU 12 264 0 0) [(h, co 6 (rdL tap e hq (fac t e 2 (adv s1)))), (hq, co 3 [ai wi, ai pa, ai ns, ai us2_6, ar sla, ar ena, ar cda]), (cda, cn 0 100 cd2_7)] 27 [(0, ar h), (1, ai 3), (2, ai k)] [] 0 0
          have hpx := fac_k (t := t) 2 (adv s1) hBa
          have hp2 := hpx.2.1
          have had : (adv s1).1 = s1.1 + 1 := rfl
          have hub3 := g_8.1
          refine v_aload_n (pc := 27) 0 rfl dX6_both_27 ?_
          refine v_get (pc := 28) (v := ar hq) 2 (Or.inr ⟨0, rfl⟩) fl_6_12_6 rfl dX6_both_28 ?_
          refine v_bipush (pc := 31) dX6_both_31 (by decide) ?_
          refine v_callV (pc := 33) [1, 2] [0] [(h, co 6 (rdL tap e hq (fac t e 2 (adv s1))))] (As := [ai (-2)]) (rest := []) (c_X3_addCode hq wi pa ns us2_6 sla ena cda (-2) cd2_7 (by first | omega | assumption)) (c := 3) rfl (Or.inr ⟨1, rfl⟩) wl_X6_88 wi_X3_addCode wv_X3_X3_addCode_X3_addCode wk_X3_addCode wz_X3 md_X3_addCode rfl (Nat.le_of_ble_eq_true rfl) ⟨Nat.le_of_ble_eq_true rfl, Nat.le_of_ble_eq_true rfl, Nat.le_of_ble_eq_true rfl, Nat.le_of_ble_eq_true rfl⟩ rfl rfl rfl rfl (by decide) ro_nil dX6_both_33 (fun u hu => ?_)
          show V x cX6_both RX6 3 (rmU 12 264 0 0) [(h, co 6 (rdL tap e hq (fac t e 2 (adv s1)))), (hq, co 3 [ai wi, ai pa, ai ns, ai (if us2_6 < 100 then us2_6 + 1 else us2_6), ar sla, ar ena, ar cda]), (cda, cn 0 100 (if us2_6 < 100 then aup cd2_7 us2_6 (-2) else cd2_7))] 36 [(0, ar h), (1, ai 3), (2, ai k)] [] 0 0
          refine v_ws (ws2 := [(h, co 6 (rdL tap e hq (emi (-2) (fac t e 2 (adv s1))))), (hq, co 3 [ai wi, ai pa, ai ns, ai (if us2_6 < 100 then us2_6 + 1 else us2_6), ar sla, ar ena, ar cda]), (cda, cn 0 100 (if us2_6 < 100 then aup cd2_7 us2_6 (-2) else cd2_7))]) (by show [(h, co 6 [ar tap, ai e, ar hq, ai ((fac t e 2 (adv s1)).1), ai (flt (fac t e 2 (adv s1)))]), (hq, co 3 [ai wi, ai pa, ai ns, ai (if us2_6 < 100 then us2_6 + 1 else us2_6), ar sla, ar ena, ar cda]), (cda, cn 0 100 (if us2_6 < 100 then aup cd2_7 us2_6 (-2) else cd2_7))] = [(h, co 6 [ar tap, ai e, ar hq, ai ((emi (-2) (fac t e 2 (adv s1))).1), ai (flt (emi (-2) (fac t e 2 (adv s1))))]), (hq, co 3 [ai wi, ai pa, ai ns, ai (if us2_6 < 100 then us2_6 + 1 else us2_6), ar sla, ar ena, ar cda]), (cda, cn 0 100 (if us2_6 < 100 then aup cd2_7 us2_6 (-2) else cd2_7))]; rw [(emi_1 (z := -2) (s := (fac t e 2 (adv s1)))).1, (emi_1 (z := -2) (s := (fac t e 2 (adv s1)))).2.2]) ?_
          refine v_iinc (pc := 36) 2 (L2 := [(2, ai (k + 1)), (0, ar h), (1, ai 3)]) rfl rfl (by decide) dX6_both_36 ?_
          refine v_goto (pc := 39) 7 dX6_both_39 (by decide) ?_
          refine v_sub (L2 := [(0, ar h), (1, ai 3), (2, ai (k + 1))]) [1, 2, 0] rfl ?_
          exact ih _ (by omega) (k + 1) (emi (-2) (fac t e 2 (adv s1))) (if us2_6 < 100 then us2_6 + 1 else us2_6) (if us2_6 < 100 then aup cd2_7 us2_6 (-2) else cd2_7) rfl (by omega) (by rw [← hlp]; exact (lpP_go (by decide) (fac_k (t := t) 2) he.2 hBq (by omega) (by omega)).symm) (by exact PB_emi hpx.1) (by exact IE_code g_8 (by decide) (sl_of hpx (fun z => by show ((s1.2.2.length : Nat) : Int) + 1 ≤ s1.1 + 1; have := (hI1.2 z).2; omega) fac_mono he.2)) (by rw [emi_1.1]; omega)
  refine v_sub (L2 := [(0, ar h), (1, ai 3), (2, ai 0)]) [1, 2, 0] rfl ?_
  exact lp7 _ 0 (fac t e 2 s) us2_1 cd2_2 rfl (by omega) (by rfl) (by exact hp1.1) (by exact g_3) (by have := hp1.2.1; omega)
set_option maxHeartbeats 4000000 in
set_option maxRecDepth 100000 in
theorem c_reit_2 {gS : sG} (h : Nat) (tap : Nat) (e : Int) (hq : Nat) (t : Int → Int) (s : PS) (wi : Int) (pa : Int) (ns : Int) (us : Int) (sla : Nat) (ena : Nat) (cda : Nat) (sl : Int → Int) (en : Int → Int) (cd : Int → Int) (hB : PB e s) (he : 0 ≤ e ∧ e ≤ 100) (htb : ∀ j : Int, 0 ≤ j → j < e → 0 ≤ t j ∧ t j ≤ 127) (hIE : IE s ns us sl en cd) : Ct gS (S := Int × (Int → Int)) yX6_either cX6_either 3 none 13 286 0 0 [ar h, ai 3] [(h, co 6 (rdL tap e hq s)), (hq, co 3 [ai wi, ai pa, ai ns, ai us, ar sla, ar ena, ar cda]), (cda, cn 0 100 cd)] (fun q => q ∈ ([(tap, cn 0 100 t)] : aW)) (fun u => IE (soP t e (fac t e 2) s) ns u.1 sl en u.2) (fun u => none) (fun u => [(h, co 6 (rdL tap e hq (soP t e (fac t e 2) s))), (hq, co 3 [ai wi, ai pa, ai ns, ai u.1, ar sla, ar ena, ar cda]), (cda, cn 0 100 u.2)]) := by
  refine ct_V RX6 [(0, ar h), (1, ai 3)] (by decide) rfl (Nat.le_of_ble_eq_true rfl) rfl (fun x hgS hnm hro hret => ?_)
  subst hgS
  have r0 := hro _ (mem_at 0 rfl)
  obtain ⟨hB1, hB2, hB3⟩ := id hB
  have hfl := flt_c hB
  have hhr := hr_v (t := t) (e := e) (s := s)
  have hub := hIE.1
  show V x cX6_either RX6 3 (rmU 13 286 0 0) [(h, co 6 (rdL tap e hq s)), (hq, co 3 [ai wi, ai pa, ai ns, ai us, ar sla, ar ena, ar cda]), (cda, cn 0 100 cd)] 0 [(0, ar h), (1, ai 3)] [] 0 0
  refine v_aload_n (pc := 0) 0 rfl dX6_either_0 ?_
  refine v_iload_n (pc := 1) 1 rfl dX6_either_1 ?_
  refine v_callV (pc := 2) [0, 1, 2] [] [] (As := [ai 3]) (rest := []) (c_rbth_2 h tap e hq t s wi pa ns us sla ena cda sl en cd (by assumption) (by first | omega | assumption) (by assumption) (by assumption)) (c := 6) rfl (Or.inr ⟨0, rfl⟩) wl_X6_85 wi_X6_both wv_X6_X6_both_X6_both wk_X6_both wz_X6 md_X6_both rfl (Nat.le_of_ble_eq_true rfl) ⟨Nat.le_of_ble_eq_true rfl, Nat.le_of_ble_eq_true rfl, Nat.le_of_ble_eq_true rfl, Nat.le_of_ble_eq_true rfl⟩ rfl rfl rfl rfl (by decide) (ro_cons (Or.inl r0) ro_nil) dX6_either_2 (fun u hu => ?_)
  obtain ⟨us2_1, cd2_2⟩ := u
  have g_3 : IE (evP t e (fac t e 2) s) ns us2_1 sl en cd2_2 := hu
  show V x cX6_either RX6 3 (rmU 13 286 0 0) [(h, co 6 (rdL tap e hq (evP t e (fac t e 2) s))), (hq, co 3 [ai wi, ai pa, ai ns, ai us2_1, ar sla, ar ena, ar cda]), (cda, cn 0 100 cd2_2)] 5 [(0, ar h), (1, ai 3)] [] 0 0
  have hp1 := evP_k (t := t) (fac_k (t := t) 2) s hB
  refine v_iconst (pc := 5) dX6_either_5 ?_
  refine v_istore_n (pc := 6) (L2 := [(2, ai 0), (0, ar h), (1, ai 3)]) rfl (by decide) dX6_either_6 ?_
  have lp7 : ∀ (mm : Nat) (k : Int) (s1 : PS) (us1 : Int) (cd1 : Int → Int), (100 - k).toNat = mm → (0 ≤ k ∧ k ≤ 100) → (lpP t e 124 (-3) (evP t e (fac t e 2)) 101 s1 = soP t e (fac t e 2) s) → (PB e s1) → (IE s1 ns us1 sl en cd1) → (k ≤ s1.1) → V x cX6_either RX6 3 (rmU 13 286 0 0) [(h, co 6 (rdL tap e hq s1)), (hq, co 3 [ai wi, ai pa, ai ns, ai us1, ar sla, ar ena, ar cda]), (cda, cn 0 100 cd1)] 7 [(0, ar h), (1, ai 3), (2, ai k)] [] 0 0 := by
    intro mm
    induction mm using Nat.strongRecOn with
    | _ mm ih =>
      intro k s1 us1 cd1 hmm hk hlp hBq hI1 hks
      obtain ⟨hQ1, hQ2, hQ3⟩ := id hBq
      have hfl1 := flt_c hBq
      have hhr1 := hr_v (t := t) (e := e) (s := s1)
      have hub1 := hI1.1
      refine v_iload_n (pc := 7) 2 rfl dX6_either_7 ?_
      refine v_bipush (pc := 8) dX6_either_8 (by decide) ?_
      refine v_icmp_ge (pc := 10) 42 dX6_either_10 (by decide) (by unfold iB; omega) (by unfold iB; omega) (fun c_4 => ?_) (fun c_4 => ?_)
      · skip
        have he1 : soP t e (fac t e 2) s = s1 := hlp.symm.trans (lpP_st (by omega))
        refine v_ws (ws2 := [(h, co 6 (rdL tap e hq (soP t e (fac t e 2) s))), (hq, co 3 [ai wi, ai pa, ai ns, ai us1, ar sla, ar ena, ar cda]), (cda, cn 0 100 cd1)]) (by rw [he1]) ?_
        exact hret (us1, cd1) _ _ _ _ _ (by rw [he1]; exact hI1) rfl rfl (Nat.le_of_ble_eq_true rfl) (Nat.le_of_ble_eq_true rfl) dX6_either_42
      · skip
        refine v_aload_n (pc := 13) 0 rfl dX6_either_13 ?_
        refine v_bipush (pc := 14) dX6_either_14 (by decide) ?_
        refine v_callV (pc := 16) [0] [1, 2] [(hq, co 3 [ai wi, ai pa, ai ns, ai us1, ar sla, ar ena, ar cda]), (cda, cn 0 100 cd1)] (As := [ai 124]) (rest := []) (c_X6_takes h tap e hq t s1 124 (by exact hBq) (by first | omega | assumption) (by assumption) (by first | omega | assumption)) (c := 6) rfl (Or.inr ⟨0, rfl⟩) wl_X6_38 wi_X6_takes wv_X6_X6_takes_X6_takes wk_X6_takes wz_X6 md_X6_takes rfl (Nat.le_of_ble_eq_true rfl) ⟨Nat.le_of_ble_eq_true rfl, Nat.le_of_ble_eq_true rfl, Nat.le_of_ble_eq_true rfl, Nat.le_of_ble_eq_true rfl⟩ rfl rfl rfl rfl (by decide) (ro_cons (Or.inl r0) ro_nil) dX6_either_16 (fun u hu => ?_)
        show V x cX6_either RX6 3 (rmU 13 286 0 0) [(hq, co 3 [ai wi, ai pa, ai ns, ai us1, ar sla, ar ena, ar cda]), (cda, cn 0 100 cd1), (h, co 6 (rdL tap e hq (tkS t e 124 s1)))] 19 [(0, ar h), (1, ai 3), (2, ai k)] [ai (if s1.2.1 = 0 ∧ hr t e s1 = 124 then 1 else 0)] 0 0
        refine v_ifb_eq (pc := 19) 42 dX6_either_19 (by decide) (fun c_5 => ?_) (fun c_5 => ?_)
        · skip
          have hk : tkS t e 124 s1 = s1 := if_neg (by omega)
          refine v_ws (ws2 := [(hq, co 3 [ai wi, ai pa, ai ns, ai us1, ar sla, ar ena, ar cda]), (cda, cn 0 100 cd1), (h, co 6 (rdL tap e hq s1))]) (by rw [hk]) ?_
          have he1 : soP t e (fac t e 2) s = s1 := hlp.symm.trans (lpP_st (by omega))
          refine v_ws (ws2 := [(hq, co 3 [ai wi, ai pa, ai ns, ai us1, ar sla, ar ena, ar cda]), (cda, cn 0 100 cd1), (h, co 6 (rdL tap e hq (soP t e (fac t e 2) s)))]) (by rw [he1]) ?_
          refine v_wsub (ws2 := [(h, co 6 (rdL tap e hq (soP t e (fac t e 2) s))), (hq, co 3 [ai wi, ai pa, ai ns, ai us1, ar sla, ar ena, ar cda]), (cda, cn 0 100 cd1)]) [2, 0, 1] rfl rfl ?_
          exact hret (us1, cd1) _ _ _ _ _ (by rw [he1]; exact hI1) rfl rfl (Nat.le_of_ble_eq_true rfl) (Nat.le_of_ble_eq_true rfl) dX6_either_42
        · skip
          have hk : tkS t e 124 s1 = adv s1 := if_pos (by omega)
          refine v_ws (ws2 := [(hq, co 3 [ai wi, ai pa, ai ns, ai us1, ar sla, ar ena, ar cda]), (cda, cn 0 100 cd1), (h, co 6 (rdL tap e hq (adv s1)))]) (by rw [hk]) ?_
          have hBa := (adv_k hBq (by omega)).1
          have hma := Mv_adv hBq (show s1.1 < e by omega)
          refine v_aload_n (pc := 22) 0 rfl dX6_either_22 ?_
          refine v_iload_n (pc := 23) 1 rfl dX6_either_23 ?_
          refine v_callV (pc := 24) [2, 0, 1] [] [] (As := [ai 3]) (rest := []) (c_rbth_2 h tap e hq t (adv s1) wi pa ns us1 sla ena cda sl en cd1 (by exact hBa) (by first | omega | assumption) (by assumption) (by exact IE_mv hI1 hma)) (c := 6) rfl (Or.inr ⟨2, rfl⟩) wl_X6_85 wi_X6_both wv_X6_X6_both_X6_both wk_X6_both wz_X6 md_X6_both rfl (Nat.le_of_ble_eq_true rfl) ⟨Nat.le_of_ble_eq_true rfl, Nat.le_of_ble_eq_true rfl, Nat.le_of_ble_eq_true rfl, Nat.le_of_ble_eq_true rfl⟩ rfl rfl rfl rfl (by decide) (ro_cons (Or.inl r0) ro_nil) dX6_either_24 (fun u hu => ?_)
          obtain ⟨us2_6, cd2_7⟩ := u
          have g_8 : IE (evP t e (fac t e 2) (adv s1)) ns us2_6 sl en cd2_7 := hu
          show V x cX6_either RX6 3 (rmU 13 286 0 0) [(h, co 6 (rdL tap e hq (evP t e (fac t e 2) (adv s1)))), (hq, co 3 [ai wi, ai pa, ai ns, ai us2_6, ar sla, ar ena, ar cda]), (cda, cn 0 100 cd2_7)] 27 [(0, ar h), (1, ai 3), (2, ai k)] [] 0 0
          have hpx := evP_k (t := t) (fac_k (t := t) 2) (adv s1) hBa
          have hp2 := hpx.2.1
          have had : (adv s1).1 = s1.1 + 1 := rfl
          have hub3 := g_8.1
          refine v_aload_n (pc := 27) 0 rfl dX6_either_27 ?_
          refine v_get (pc := 28) (v := ar hq) 2 (Or.inr ⟨0, rfl⟩) fl_6_12_6 rfl dX6_either_28 ?_
          refine v_bipush (pc := 31) dX6_either_31 (by decide) ?_
          refine v_callV (pc := 33) [1, 2] [0] [(h, co 6 (rdL tap e hq (evP t e (fac t e 2) (adv s1))))] (As := [ai (-3)]) (rest := []) (c_X3_addCode hq wi pa ns us2_6 sla ena cda (-3) cd2_7 (by first | omega | assumption)) (c := 3) rfl (Or.inr ⟨1, rfl⟩) wl_X6_88 wi_X3_addCode wv_X3_X3_addCode_X3_addCode wk_X3_addCode wz_X3 md_X3_addCode rfl (Nat.le_of_ble_eq_true rfl) ⟨Nat.le_of_ble_eq_true rfl, Nat.le_of_ble_eq_true rfl, Nat.le_of_ble_eq_true rfl, Nat.le_of_ble_eq_true rfl⟩ rfl rfl rfl rfl (by decide) ro_nil dX6_either_33 (fun u hu => ?_)
          show V x cX6_either RX6 3 (rmU 13 286 0 0) [(h, co 6 (rdL tap e hq (evP t e (fac t e 2) (adv s1)))), (hq, co 3 [ai wi, ai pa, ai ns, ai (if us2_6 < 100 then us2_6 + 1 else us2_6), ar sla, ar ena, ar cda]), (cda, cn 0 100 (if us2_6 < 100 then aup cd2_7 us2_6 (-3) else cd2_7))] 36 [(0, ar h), (1, ai 3), (2, ai k)] [] 0 0
          refine v_ws (ws2 := [(h, co 6 (rdL tap e hq (emi (-3) (evP t e (fac t e 2) (adv s1))))), (hq, co 3 [ai wi, ai pa, ai ns, ai (if us2_6 < 100 then us2_6 + 1 else us2_6), ar sla, ar ena, ar cda]), (cda, cn 0 100 (if us2_6 < 100 then aup cd2_7 us2_6 (-3) else cd2_7))]) (by show [(h, co 6 [ar tap, ai e, ar hq, ai ((evP t e (fac t e 2) (adv s1)).1), ai (flt (evP t e (fac t e 2) (adv s1)))]), (hq, co 3 [ai wi, ai pa, ai ns, ai (if us2_6 < 100 then us2_6 + 1 else us2_6), ar sla, ar ena, ar cda]), (cda, cn 0 100 (if us2_6 < 100 then aup cd2_7 us2_6 (-3) else cd2_7))] = [(h, co 6 [ar tap, ai e, ar hq, ai ((emi (-3) (evP t e (fac t e 2) (adv s1))).1), ai (flt (emi (-3) (evP t e (fac t e 2) (adv s1))))]), (hq, co 3 [ai wi, ai pa, ai ns, ai (if us2_6 < 100 then us2_6 + 1 else us2_6), ar sla, ar ena, ar cda]), (cda, cn 0 100 (if us2_6 < 100 then aup cd2_7 us2_6 (-3) else cd2_7))]; rw [(emi_1 (z := -3) (s := (evP t e (fac t e 2) (adv s1)))).1, (emi_1 (z := -3) (s := (evP t e (fac t e 2) (adv s1)))).2.2]) ?_
          refine v_iinc (pc := 36) 2 (L2 := [(2, ai (k + 1)), (0, ar h), (1, ai 3)]) rfl rfl (by decide) dX6_either_36 ?_
          refine v_goto (pc := 39) 7 dX6_either_39 (by decide) ?_
          refine v_sub (L2 := [(0, ar h), (1, ai 3), (2, ai (k + 1))]) [1, 2, 0] rfl ?_
          exact ih _ (by omega) (k + 1) (emi (-3) (evP t e (fac t e 2) (adv s1))) (if us2_6 < 100 then us2_6 + 1 else us2_6) (if us2_6 < 100 then aup cd2_7 us2_6 (-3) else cd2_7) rfl (by omega) (by rw [← hlp]; exact (lpP_go (by decide) (evP_k (t := t) (fac_k (t := t) 2)) he.2 hBq (by omega) (by omega)).symm) (by exact PB_emi hpx.1) (by exact IE_code g_8 (by decide) (sl_of hpx (fun z => by show ((s1.2.2.length : Nat) : Int) + 1 ≤ s1.1 + 1; have := (hI1.2 z).2; omega) evP_mono he.2)) (by rw [emi_1.1]; omega)
  refine v_sub (L2 := [(0, ar h), (1, ai 3), (2, ai 0)]) [1, 2, 0] rfl ?_
  exact lp7 _ 0 (evP t e (fac t e 2) s) us2_1 cd2_2 rfl (by omega) (by rfl) (by exact hp1.1) (by exact g_3) (by have := hp1.2.1; omega)
set_option maxHeartbeats 4000000 in
set_option maxRecDepth 100000 in
theorem c_rfac_3 {gS : sG} (h : Nat) (tap : Nat) (e : Int) (hq : Nat) (t : Int → Int) (s : PS) (wi : Int) (pa : Int) (ns : Int) (us : Int) (sla : Nat) (ena : Nat) (cda : Nat) (sl : Int → Int) (en : Int → Int) (cd : Int → Int) (hB : PB e s) (he : 0 ≤ e ∧ e ≤ 100) (htb : ∀ j : Int, 0 ≤ j → j < e → 0 ≤ t j ∧ t j ≤ 127) (hIE : IE s ns us sl en cd) : Ct gS (S := Int × (Int → Int)) yX6_factor cX6_factor 4 none 14 308 0 0 [ar h, ai 2] [(h, co 6 (rdL tap e hq s)), (hq, co 3 [ai wi, ai pa, ai ns, ai us, ar sla, ar ena, ar cda]), (cda, cn 0 100 cd)] (fun q => q ∈ ([(tap, cn 0 100 t)] : aW)) (fun u => IE (fac t e 3 s) ns u.1 sl en u.2) (fun u => none) (fun u => [(h, co 6 (rdL tap e hq (fac t e 3 s))), (hq, co 3 [ai wi, ai pa, ai ns, ai u.1, ar sla, ar ena, ar cda]), (cda, cn 0 100 u.2)]) := by
  refine ct_V RX6 [(0, ar h), (1, ai 2)] (by decide) rfl (Nat.le_of_ble_eq_true rfl) rfl (fun x hgS hnm hro hret => ?_)
  subst hgS
  have r0 := hro _ (mem_at 0 rfl)
  obtain ⟨hB1, hB2, hB3⟩ := id hB
  have hfl := flt_c hB
  have hhr := hr_v (t := t) (e := e) (s := s)
  have hub := hIE.1
  show V x cX6_factor RX6 4 (rmU 14 308 0 0) [(h, co 6 (rdL tap e hq s)), (hq, co 3 [ai wi, ai pa, ai ns, ai us, ar sla, ar ena, ar cda]), (cda, cn 0 100 cd)] 0 [(0, ar h), (1, ai 2)] [] 0 0
  refine v_iload_n (pc := 0) 1 rfl dX6_factor_0 ?_
  refine v_iconst (pc := 1) dX6_factor_1 ?_
  refine v_icmp_ge (pc := 2) 32 dX6_factor_2 (by decide) (by unfold iB; omega) (by unfold iB; omega) (fun c_1 => by exfalso; omega) (fun c_1 => ?_)
  refine v_aload_n (pc := 5) 0 rfl dX6_factor_5 ?_
  refine v_bipush (pc := 6) dX6_factor_6 (by decide) ?_
  refine v_callV (pc := 8) [0] [1, 2] [(hq, co 3 [ai wi, ai pa, ai ns, ai us, ar sla, ar ena, ar cda]), (cda, cn 0 100 cd)] (As := [ai 33]) (rest := []) (c_X6_takes h tap e hq t s 33 (by assumption) (by first | omega | assumption) (by assumption) (by first | omega | assumption)) (c := 6) rfl (Or.inr ⟨0, rfl⟩) wl_X6_38 wi_X6_takes wv_X6_X6_takes_X6_takes wk_X6_takes wz_X6 md_X6_takes rfl (Nat.le_of_ble_eq_true rfl) ⟨Nat.le_of_ble_eq_true rfl, Nat.le_of_ble_eq_true rfl, Nat.le_of_ble_eq_true rfl, Nat.le_of_ble_eq_true rfl⟩ rfl rfl rfl rfl (by decide) (ro_cons (Or.inl r0) ro_nil) dX6_factor_8 (fun u hu => ?_)
  show V x cX6_factor RX6 4 (rmU 14 308 0 0) [(hq, co 3 [ai wi, ai pa, ai ns, ai us, ar sla, ar ena, ar cda]), (cda, cn 0 100 cd), (h, co 6 (rdL tap e hq (tkS t e 33 s)))] 11 [(0, ar h), (1, ai 2)] [ai (if s.2.1 = 0 ∧ hr t e s = 33 then 1 else 0)] 0 0
  refine v_ifb_eq (pc := 11) 32 dX6_factor_11 (by decide) (fun c_2 => ?_) (fun c_2 => ?_)
  · skip
    have hk : tkS t e 33 s = s := if_neg (by omega)
    refine v_ws (ws2 := [(hq, co 3 [ai wi, ai pa, ai ns, ai us, ar sla, ar ena, ar cda]), (cda, cn 0 100 cd), (h, co 6 (rdL tap e hq s))]) (by rw [hk]) ?_
    refine v_iload_n (pc := 32) 1 rfl dX6_factor_32 ?_
    refine v_iconst (pc := 33) dX6_factor_33 ?_
    refine v_icmp_ge (pc := 34) 62 dX6_factor_34 (by decide) (by unfold iB; omega) (by unfold iB; omega) (fun c_3 => by exfalso; omega) (fun c_3 => ?_)
    refine v_aload_n (pc := 37) 0 rfl dX6_factor_37 ?_
    refine v_bipush (pc := 38) dX6_factor_38 (by decide) ?_
    refine v_callV (pc := 40) [2] [0, 1] [(hq, co 3 [ai wi, ai pa, ai ns, ai us, ar sla, ar ena, ar cda]), (cda, cn 0 100 cd)] (As := [ai 40]) (rest := []) (c_X6_takes h tap e hq t s 40 (by assumption) (by first | omega | assumption) (by assumption) (by first | omega | assumption)) (c := 6) rfl (Or.inr ⟨2, rfl⟩) wl_X6_38 wi_X6_takes wv_X6_X6_takes_X6_takes wk_X6_takes wz_X6 md_X6_takes rfl (Nat.le_of_ble_eq_true rfl) ⟨Nat.le_of_ble_eq_true rfl, Nat.le_of_ble_eq_true rfl, Nat.le_of_ble_eq_true rfl, Nat.le_of_ble_eq_true rfl⟩ rfl rfl rfl rfl (by decide) (ro_cons (Or.inl r0) ro_nil) dX6_factor_40 (fun u hu => ?_)
    show V x cX6_factor RX6 4 (rmU 14 308 0 0) [(hq, co 3 [ai wi, ai pa, ai ns, ai us, ar sla, ar ena, ar cda]), (cda, cn 0 100 cd), (h, co 6 (rdL tap e hq (tkS t e 40 s)))] 43 [(0, ar h), (1, ai 2)] [ai (if s.2.1 = 0 ∧ hr t e s = 40 then 1 else 0)] 0 0
    refine v_ifb_eq (pc := 43) 62 dX6_factor_43 (by decide) (fun c_4 => ?_) (fun c_4 => ?_)
    · skip
      have hk : tkS t e 40 s = s := if_neg (by omega)
      refine v_ws (ws2 := [(hq, co 3 [ai wi, ai pa, ai ns, ai us, ar sla, ar ena, ar cda]), (cda, cn 0 100 cd), (h, co 6 (rdL tap e hq s))]) (by rw [hk]) ?_
      refine v_aload_n (pc := 62) 0 rfl dX6_factor_62 ?_
      refine v_ldcS (pc := 63) (q := ("MatFlip$Reader", 96, "pkngsy", 7)) (List.mem_of_getElem? (i := 7) rfl) rfl dX6_factor_63 ?_
      refine v_callV (pc := 65) [2] [0, 1] [(hq, co 3 [ai wi, ai pa, ai ns, ai us, ar sla, ar ena, ar cda]), (cda, cn 0 100 cd)] (As := [ar (lK (xg x) 7)]) (rest := []) (c_X6_takesOneOf h tap e hq t s 7 (by assumption) (by first | omega | assumption) (by assumption) (by decide)) (c := 6) rfl (Or.inr ⟨2, rfl⟩) wl_X6_50 wi_X6_takesOneOf wv_X6_X6_takesOneOf_X6_takesOneOf wk_X6_takesOneOf wz_X6 md_X6_takesOneOf rfl (Nat.le_of_ble_eq_true rfl) ⟨Nat.le_of_ble_eq_true rfl, Nat.le_of_ble_eq_true rfl, Nat.le_of_ble_eq_true rfl, Nat.le_of_ble_eq_true rfl⟩ rfl rfl rfl rfl (by decide) (ro_cons (Or.inl r0) ro_nil) dX6_factor_65 (fun u hu => ?_)
      show V x cX6_factor RX6 4 (rmU 14 308 0 0) [(hq, co 3 [ai wi, ai pa, ai ns, ai us, ar sla, ar ena, ar cda]), (cda, cn 0 100 cd), (h, co 6 (rdL tap e hq ((to1 t e 7 s).2)))] 68 [(0, ar h), (1, ai 2)] [ai ((to1 t e 7 s).1)] 0 0
      have hm7 := Mv_to1 (t := t) (e := e) (i := 7) (by decide) hB
      refine v_istore_n (pc := 68) (L2 := [(2, ai ((to1 t e 7 s).1)), (0, ar h), (1, ai 2)]) rfl (by decide) dX6_factor_68 ?_
      refine v_aload_n (pc := 69) 1 rfl dX6_factor_69 ?_
      refine v_ldcS (pc := 70) (q := ("MatFlip$Reader", 98, "<=>", 8)) (List.mem_of_getElem? (i := 8) rfl) rfl dX6_factor_70 ?_
      refine v_callV (pc := 72) [2] [0, 1] [(hq, co 3 [ai wi, ai pa, ai ns, ai us, ar sla, ar ena, ar cda]), (cda, cn 0 100 cd)] (As := [ar (lK (xg x) 8)]) (rest := []) (c_X6_takesOneOf h tap e hq t ((to1 t e 7 s).2) 8 (by exact hm7.1) (by first | omega | assumption) (by assumption) (by decide)) (c := 6) rfl (Or.inr ⟨2, rfl⟩) wl_X6_50 wi_X6_takesOneOf wv_X6_X6_takesOneOf_X6_takesOneOf wk_X6_takesOneOf wz_X6 md_X6_takesOneOf rfl (Nat.le_of_ble_eq_true rfl) ⟨Nat.le_of_ble_eq_true rfl, Nat.le_of_ble_eq_true rfl, Nat.le_of_ble_eq_true rfl, Nat.le_of_ble_eq_true rfl⟩ rfl rfl rfl rfl (by decide) (ro_cons (Or.inl r0) ro_nil) dX6_factor_72 (fun u hu => ?_)
      show V x cX6_factor RX6 4 (rmU 14 308 0 0) [(hq, co 3 [ai wi, ai pa, ai ns, ai us, ar sla, ar ena, ar cda]), (cda, cn 0 100 cd), (h, co 6 (rdL tap e hq ((to1 t e 8 ((to1 t e 7 s).2)).2)))] 75 [(2, ai ((to1 t e 7 s).1)), (0, ar h), (1, ai 2)] [ai ((to1 t e 8 ((to1 t e 7 s).2)).1)] 0 0
      have hm8 := Mv_to1 (t := t) (e := e) (i := 8) (by decide) hm7.1
      refine v_istore_n (pc := 75) (L2 := [(3, ai ((to1 t e 8 ((to1 t e 7 s).2)).1)), (2, ai ((to1 t e 7 s).1)), (0, ar h), (1, ai 2)]) rfl (by decide) dX6_factor_75 ?_
      refine v_aload_n (pc := 76) 2 rfl dX6_factor_76 ?_
      refine v_get (pc := 77) (v := ar hq) 2 (Or.inr ⟨2, rfl⟩) fl_6_12_6 rfl dX6_factor_77 ?_
      refine v_iload_n (pc := 80) 1 rfl dX6_factor_80 ?_
      refine v_iload_n (pc := 81) 0 rfl dX6_factor_81 ?_
      refine v_aload_n (pc := 82) 2 rfl dX6_factor_82 ?_
      refine v_callV (pc := 83) [2] [0, 1] [(hq, co 3 [ai wi, ai pa, ai ns, ai us, ar sla, ar ena, ar cda]), (cda, cn 0 100 cd)] (As := []) (rest := [ai ((to1 t e 8 ((to1 t e 7 s).2)).1), ai ((to1 t e 7 s).1), ar hq]) (c_X6_number h tap e hq t ((to1 t e 8 ((to1 t e 7 s).2)).2) (by exact hm8.1) (by first | omega | assumption) (by assumption)) (c := 6) rfl (Or.inr ⟨2, rfl⟩) wl_X6_66 wi_X6_number wv_X6_X6_number_X6_number wk_X6_number wz_X6 md_X6_number rfl (Nat.le_of_ble_eq_true rfl) ⟨Nat.le_of_ble_eq_true rfl, Nat.le_of_ble_eq_true rfl, Nat.le_of_ble_eq_true rfl, Nat.le_of_ble_eq_true rfl⟩ rfl rfl rfl rfl (by decide) (ro_cons (Or.inl r0) ro_nil) dX6_factor_83 (fun u hu => ?_)
      show V x cX6_factor RX6 4 (rmU 14 308 0 0) [(hq, co 3 [ai wi, ai pa, ai ns, ai us, ar sla, ar ena, ar cda]), (cda, cn 0 100 cd), (h, co 6 (rdL tap e hq ((fig t e ((to1 t e 8 ((to1 t e 7 s).2)).2)).2)))] 86 [(3, ai ((to1 t e 8 ((to1 t e 7 s).2)).1)), (2, ai ((to1 t e 7 s).1)), (0, ar h), (1, ai 2)] [ai ((fig t e ((to1 t e 8 ((to1 t e 7 s).2)).2)).1), ai ((to1 t e 8 ((to1 t e 7 s).2)).1), ai ((to1 t e 7 s).1), ar hq] 0 0
      refine v_callV (pc := 86) [0, 1] [2] [(h, co 6 (rdL tap e hq ((fig t e ((to1 t e 8 ((to1 t e 7 s).2)).2)).2)))] (As := [ai ((to1 t e 7 s).1), ai ((to1 t e 8 ((to1 t e 7 s).2)).1), ai ((fig t e ((to1 t e 8 ((to1 t e 7 s).2)).2)).1)]) (rest := []) (c_X3_addTest hq wi pa ns us sla ena cda ((to1 t e 7 s).1) ((to1 t e 8 ((to1 t e 7 s).2)).1) ((fig t e ((to1 t e 8 ((to1 t e 7 s).2)).2)).1) cd (by first | omega | assumption)) (c := 3) rfl (Or.inr ⟨0, rfl⟩) wl_X6_100 wi_X3_addTest wv_X3_X3_addTest_X3_addTest wk_X3_addTest wz_X3 md_X3_addTest rfl (Nat.le_of_ble_eq_true rfl) ⟨Nat.le_of_ble_eq_true rfl, Nat.le_of_ble_eq_true rfl, Nat.le_of_ble_eq_true rfl, Nat.le_of_ble_eq_true rfl⟩ rfl rfl rfl rfl (by decide) ro_nil dX6_factor_86 (fun u hu => ?_)
      show V x cX6_factor RX6 4 (rmU 14 308 0 0) [(h, co 6 (rdL tap e hq ((fig t e ((to1 t e 8 ((to1 t e 7 s).2)).2)).2))), (hq, co 3 [ai wi, ai pa, ai ns, ai (if us < 100 then us + 1 else us), ar sla, ar ena, ar cda]), (cda, cn 0 100 (if us < 100 then aup cd us ((((to1 t e 7 s).1) * 3 + ((to1 t e 8 ((to1 t e 7 s).2)).1)) * 100 + ((fig t e ((to1 t e 8 ((to1 t e 7 s).2)).2)).1)) else cd))] 89 [(3, ai ((to1 t e 8 ((to1 t e 7 s).2)).1)), (2, ai ((to1 t e 7 s).1)), (0, ar h), (1, ai 2)] [] 0 0
      refine v_ws (ws2 := [(h, co 6 (rdL tap e hq (tsS t e s))), (hq, co 3 [ai wi, ai pa, ai ns, ai (if us < 100 then us + 1 else us), ar sla, ar ena, ar cda]), (cda, cn 0 100 (if us < 100 then aup cd us ((((to1 t e 7 s).1) * 3 + ((to1 t e 8 ((to1 t e 7 s).2)).1)) * 100 + ((fig t e ((to1 t e 8 ((to1 t e 7 s).2)).2)).1)) else cd))]) (by rfl) ?_
      refine v_ws (ws2 := [(h, co 6 (rdL tap e hq (emi (tsZ t e s) (tsS t e s)))), (hq, co 3 [ai wi, ai pa, ai ns, ai (if us < 100 then us + 1 else us), ar sla, ar ena, ar cda]), (cda, cn 0 100 (if us < 100 then aup cd us ((((to1 t e 7 s).1) * 3 + ((to1 t e 8 ((to1 t e 7 s).2)).1)) * 100 + ((fig t e ((to1 t e 8 ((to1 t e 7 s).2)).2)).1)) else cd))]) (by show [(h, co 6 [ar tap, ai e, ar hq, ai ((tsS t e s).1), ai (flt (tsS t e s))]), (hq, co 3 [ai wi, ai pa, ai ns, ai (if us < 100 then us + 1 else us), ar sla, ar ena, ar cda]), (cda, cn 0 100 (if us < 100 then aup cd us ((((to1 t e 7 s).1) * 3 + ((to1 t e 8 ((to1 t e 7 s).2)).1)) * 100 + ((fig t e ((to1 t e 8 ((to1 t e 7 s).2)).2)).1)) else cd))] = [(h, co 6 [ar tap, ai e, ar hq, ai ((emi (tsZ t e s) (tsS t e s)).1), ai (flt (emi (tsZ t e s) (tsS t e s)))]), (hq, co 3 [ai wi, ai pa, ai ns, ai (if us < 100 then us + 1 else us), ar sla, ar ena, ar cda]), (cda, cn 0 100 (if us < 100 then aup cd us ((((to1 t e 7 s).1) * 3 + ((to1 t e 8 ((to1 t e 7 s).2)).1)) * 100 + ((fig t e ((to1 t e 8 ((to1 t e 7 s).2)).2)).1)) else cd))]; rw [(emi_1 (z := (tsZ t e s)) (s := (tsS t e s))).1, (emi_1 (z := (tsZ t e s)) (s := (tsS t e s))).2.2]) ?_
      have hfc : fac t e 3 s = emi (tsZ t e s) (tsS t e s) := fac_cl hB (Or.inr (by omega))
      refine v_ws (ws2 := [(h, co 6 (rdL tap e hq (fac t e 3 s))), (hq, co 3 [ai wi, ai pa, ai ns, ai (if us < 100 then us + 1 else us), ar sla, ar ena, ar cda]), (cda, cn 0 100 (if us < 100 then aup cd us ((((to1 t e 7 s).1) * 3 + ((to1 t e 8 ((to1 t e 7 s).2)).1)) * 100 + ((fig t e ((to1 t e 8 ((to1 t e 7 s).2)).2)).1)) else cd))]) (by rw [hfc]) ?_
      have hen := enc_ts (t := t) (e := e) (s := s)
      have hie := IE_code (z := tsZ t e s) (IE_mv hIE (Mv_tsS (t := t) hB)) (by omega) (tsS_sl hB he.2 (fun z => (hIE.2 z).2))
      rw [hen.1] at hie
      exact hret ((if us < 100 then us + 1 else us), (if us < 100 then aup cd us ((((to1 t e 7 s).1) * 3 + ((to1 t e 8 ((to1 t e 7 s).2)).1)) * 100 + ((fig t e ((to1 t e 8 ((to1 t e 7 s).2)).2)).1)) else cd)) _ _ _ _ _ (by rw [hfc]; exact hie) rfl rfl (Nat.le_of_ble_eq_true rfl) (Nat.le_of_ble_eq_true rfl) dX6_factor_89
    · skip
      have hk : tkS t e 40 s = adv s := if_pos (by omega)
      refine v_ws (ws2 := [(hq, co 3 [ai wi, ai pa, ai ns, ai us, ar sla, ar ena, ar cda]), (cda, cn 0 100 cd), (h, co 6 (rdL tap e hq (adv s)))]) (by rw [hk]) ?_
      have hBa := (adv_k hB (by omega)).1
      have hma := Mv_adv hB (show s.1 < e by omega)
      refine v_aload_n (pc := 46) 0 rfl dX6_factor_46 ?_
      refine v_iload_n (pc := 47) 1 rfl dX6_factor_47 ?_
      refine v_iconst (pc := 48) dX6_factor_48 ?_
      refine v_iadd (pc := 49) dX6_factor_49 ?_
      refine v_callV (pc := 50) [2, 0, 1] [] [] (As := [ai 3]) (rest := []) (c_reit_2 h tap e hq t (adv s) wi pa ns us sla ena cda sl en cd (by exact hBa) (by first | omega | assumption) (by assumption) (by exact IE_mv hIE hma)) (c := 6) rfl (Or.inr ⟨2, rfl⟩) wl_X6_78 wi_X6_either wv_X6_X6_either_X6_either wk_X6_either wz_X6 md_X6_either rfl (Nat.le_of_ble_eq_true rfl) ⟨Nat.le_of_ble_eq_true rfl, Nat.le_of_ble_eq_true rfl, Nat.le_of_ble_eq_true rfl, Nat.le_of_ble_eq_true rfl⟩ rfl rfl rfl rfl (by decide) (ro_cons (Or.inl r0) ro_nil) dX6_factor_50 (fun u hu => ?_)
      obtain ⟨us2_5, cd2_6⟩ := u
      have g_7 : IE (soP t e (fac t e 2) (adv s)) ns us2_5 sl en cd2_6 := hu
      show V x cX6_factor RX6 4 (rmU 14 308 0 0) [(h, co 6 (rdL tap e hq (soP t e (fac t e 2) (adv s)))), (hq, co 3 [ai wi, ai pa, ai ns, ai us2_5, ar sla, ar ena, ar cda]), (cda, cn 0 100 cd2_6)] 53 [(0, ar h), (1, ai 2)] [] 0 0
      have hBx := (soP_k (t := t) (fac_k (t := t) 2) (adv s) hBa).1
      refine v_aload_n (pc := 53) 0 rfl dX6_factor_53 ?_
      refine v_ldcS (pc := 54) (q := ("MatFlip$Reader", 94, ")", 6)) (List.mem_of_getElem? (i := 6) rfl) rfl dX6_factor_54 ?_
      refine v_callV (pc := 56) [0] [1, 2] [(hq, co 3 [ai wi, ai pa, ai ns, ai us2_5, ar sla, ar ena, ar cda]), (cda, cn 0 100 cd2_6)] (As := [ar (lK (xg x) 6)]) (rest := []) (c_X6_needs h tap e hq t (soP t e (fac t e 2) (adv s)) 6 (by exact hBx) (by first | omega | assumption) (by assumption) (by decide)) (c := 6) rfl (Or.inr ⟨0, rfl⟩) wl_X6_62 wi_X6_needs wv_X6_X6_needs_X6_needs wk_X6_needs wz_X6 md_X6_needs rfl (Nat.le_of_ble_eq_true rfl) ⟨Nat.le_of_ble_eq_true rfl, Nat.le_of_ble_eq_true rfl, Nat.le_of_ble_eq_true rfl, Nat.le_of_ble_eq_true rfl⟩ rfl rfl rfl rfl (by decide) (ro_cons (Or.inl r0) ro_nil) dX6_factor_56 (fun u hu => ?_)
      show V x cX6_factor RX6 4 (rmU 14 308 0 0) [(hq, co 3 [ai wi, ai pa, ai ns, ai us2_5, ar sla, ar ena, ar cda]), (cda, cn 0 100 cd2_6), (h, co 6 (rdL tap e hq (spl t e 6 (lenS 6).toNat (soP t e (fac t e 2) (adv s)))))] 59 [(0, ar h), (1, ai 2)] [] 0 0
      have hfc : fac t e 3 s = mstP t e 41 (soP t e (fac t e 2) (adv s)) := fac_br (by omega) (by omega)
      have hs1 : spl t e 6 (lenS 6).toNat (soP t e (fac t e 2) (adv s)) = mstP t e 41 (soP t e (fac t e 2) (adv s)) := spl_l1 (by decide) (by decide)
      refine v_ws (ws2 := [(hq, co 3 [ai wi, ai pa, ai ns, ai us2_5, ar sla, ar ena, ar cda]), (cda, cn 0 100 cd2_6), (h, co 6 (rdL tap e hq (fac t e 3 s)))]) (by rw [hfc, hs1]) ?_
      refine v_goto (pc := 59) 89 dX6_factor_59 (by decide) ?_
      refine v_wsub (ws2 := [(h, co 6 (rdL tap e hq (fac t e 3 s))), (hq, co 3 [ai wi, ai pa, ai ns, ai us2_5, ar sla, ar ena, ar cda]), (cda, cn 0 100 cd2_6)]) [2, 0, 1] rfl rfl ?_
      exact hret (us2_5, cd2_6) _ _ _ _ _ (by rw [hfc]; exact IE_mv g_7 (Mv_mst (by decide) hBx)) rfl rfl (Nat.le_of_ble_eq_true rfl) (Nat.le_of_ble_eq_true rfl) dX6_factor_89
  · skip
    have hk : tkS t e 33 s = adv s := if_pos (by omega)
    refine v_ws (ws2 := [(hq, co 3 [ai wi, ai pa, ai ns, ai us, ar sla, ar ena, ar cda]), (cda, cn 0 100 cd), (h, co 6 (rdL tap e hq (adv s)))]) (by rw [hk]) ?_
    have hBa := (adv_k hB (by omega)).1
    have hma := Mv_adv hB (show s.1 < e by omega)
    refine v_aload_n (pc := 14) 0 rfl dX6_factor_14 ?_
    refine v_iload_n (pc := 15) 1 rfl dX6_factor_15 ?_
    refine v_iconst (pc := 16) dX6_factor_16 ?_
    refine v_iadd (pc := 17) dX6_factor_17 ?_
    refine v_callV (pc := 18) [2, 0, 1] [] [] (As := [ai 3]) (rest := []) (c_rfac_2 h tap e hq t (adv s) wi pa ns us sla ena cda sl en cd (by exact hBa) (by first | omega | assumption) (by assumption) (by exact IE_mv hIE hma)) (c := 6) rfl (Or.inr ⟨2, rfl⟩) wl_X6_91 wi_X6_factor wv_X6_X6_factor_X6_factor wk_X6_factor wz_X6 md_X6_factor rfl (Nat.le_of_ble_eq_true rfl) ⟨Nat.le_of_ble_eq_true rfl, Nat.le_of_ble_eq_true rfl, Nat.le_of_ble_eq_true rfl, Nat.le_of_ble_eq_true rfl⟩ rfl rfl rfl rfl (by decide) (ro_cons (Or.inl r0) ro_nil) dX6_factor_18 (fun u hu => ?_)
    obtain ⟨us2_8, cd2_9⟩ := u
    have g_10 : IE (fac t e 2 (adv s)) ns us2_8 sl en cd2_9 := hu
    show V x cX6_factor RX6 4 (rmU 14 308 0 0) [(h, co 6 (rdL tap e hq (fac t e 2 (adv s)))), (hq, co 3 [ai wi, ai pa, ai ns, ai us2_8, ar sla, ar ena, ar cda]), (cda, cn 0 100 cd2_9)] 21 [(0, ar h), (1, ai 2)] [] 0 0
    have hub2 := g_10.1
    refine v_aload_n (pc := 21) 0 rfl dX6_factor_21 ?_
    refine v_get (pc := 22) (v := ar hq) 2 (Or.inr ⟨0, rfl⟩) fl_6_12_6 rfl dX6_factor_22 ?_
    refine v_iconst (pc := 25) dX6_factor_25 ?_
    refine v_callV (pc := 26) [1, 2] [0] [(h, co 6 (rdL tap e hq (fac t e 2 (adv s))))] (As := [ai (-1)]) (rest := []) (c_X3_addCode hq wi pa ns us2_8 sla ena cda (-1) cd2_9 (by first | omega | assumption)) (c := 3) rfl (Or.inr ⟨1, rfl⟩) wl_X6_88 wi_X3_addCode wv_X3_X3_addCode_X3_addCode wk_X3_addCode wz_X3 md_X3_addCode rfl (Nat.le_of_ble_eq_true rfl) ⟨Nat.le_of_ble_eq_true rfl, Nat.le_of_ble_eq_true rfl, Nat.le_of_ble_eq_true rfl, Nat.le_of_ble_eq_true rfl⟩ rfl rfl rfl rfl (by decide) ro_nil dX6_factor_26 (fun u hu => ?_)
    show V x cX6_factor RX6 4 (rmU 14 308 0 0) [(h, co 6 (rdL tap e hq (fac t e 2 (adv s)))), (hq, co 3 [ai wi, ai pa, ai ns, ai (if us2_8 < 100 then us2_8 + 1 else us2_8), ar sla, ar ena, ar cda]), (cda, cn 0 100 (if us2_8 < 100 then aup cd2_9 us2_8 (-1) else cd2_9))] 29 [(0, ar h), (1, ai 2)] [] 0 0
    refine v_ws (ws2 := [(h, co 6 (rdL tap e hq (emi (-1) (fac t e 2 (adv s))))), (hq, co 3 [ai wi, ai pa, ai ns, ai (if us2_8 < 100 then us2_8 + 1 else us2_8), ar sla, ar ena, ar cda]), (cda, cn 0 100 (if us2_8 < 100 then aup cd2_9 us2_8 (-1) else cd2_9))]) (by show [(h, co 6 [ar tap, ai e, ar hq, ai ((fac t e 2 (adv s)).1), ai (flt (fac t e 2 (adv s)))]), (hq, co 3 [ai wi, ai pa, ai ns, ai (if us2_8 < 100 then us2_8 + 1 else us2_8), ar sla, ar ena, ar cda]), (cda, cn 0 100 (if us2_8 < 100 then aup cd2_9 us2_8 (-1) else cd2_9))] = [(h, co 6 [ar tap, ai e, ar hq, ai ((emi (-1) (fac t e 2 (adv s))).1), ai (flt (emi (-1) (fac t e 2 (adv s))))]), (hq, co 3 [ai wi, ai pa, ai ns, ai (if us2_8 < 100 then us2_8 + 1 else us2_8), ar sla, ar ena, ar cda]), (cda, cn 0 100 (if us2_8 < 100 then aup cd2_9 us2_8 (-1) else cd2_9))]; rw [(emi_1 (z := -1) (s := (fac t e 2 (adv s)))).1, (emi_1 (z := -1) (s := (fac t e 2 (adv s)))).2.2]) ?_
    have hfc : fac t e 3 s = emi (-1) (fac t e 2 (adv s)) := fac_ex (by omega) (by omega)
    refine v_ws (ws2 := [(h, co 6 (rdL tap e hq (fac t e 3 s))), (hq, co 3 [ai wi, ai pa, ai ns, ai (if us2_8 < 100 then us2_8 + 1 else us2_8), ar sla, ar ena, ar cda]), (cda, cn 0 100 (if us2_8 < 100 then aup cd2_9 us2_8 (-1) else cd2_9))]) (by rw [hfc]) ?_
    refine v_goto (pc := 29) 89 dX6_factor_29 (by decide) ?_
    exact hret ((if us2_8 < 100 then us2_8 + 1 else us2_8), (if us2_8 < 100 then aup cd2_9 us2_8 (-1) else cd2_9)) _ _ _ _ _ (by rw [hfc]; exact IE_code g_10 (by decide) (sl_of (fac_k (t := t) 2 (adv s) hBa) (fun z => by show ((s.2.2.length : Nat) : Int) + 1 ≤ s.1 + 1; have := (hIE.2 z).2; omega) fac_mono he.2)) rfl rfl (Nat.le_of_ble_eq_true rfl) (Nat.le_of_ble_eq_true rfl) dX6_factor_89
set_option maxHeartbeats 4000000 in
set_option maxRecDepth 100000 in
theorem c_rbth_3 {gS : sG} (h : Nat) (tap : Nat) (e : Int) (hq : Nat) (t : Int → Int) (s : PS) (wi : Int) (pa : Int) (ns : Int) (us : Int) (sla : Nat) (ena : Nat) (cda : Nat) (sl : Int → Int) (en : Int → Int) (cd : Int → Int) (hB : PB e s) (he : 0 ≤ e ∧ e ≤ 100) (htb : ∀ j : Int, 0 ≤ j → j < e → 0 ≤ t j ∧ t j ≤ 127) (hIE : IE s ns us sl en cd) : Ct gS (S := Int × (Int → Int)) yX6_both cX6_both 3 none 15 331 0 0 [ar h, ai 2] [(h, co 6 (rdL tap e hq s)), (hq, co 3 [ai wi, ai pa, ai ns, ai us, ar sla, ar ena, ar cda]), (cda, cn 0 100 cd)] (fun q => q ∈ ([(tap, cn 0 100 t)] : aW)) (fun u => IE (evP t e (fac t e 3) s) ns u.1 sl en u.2) (fun u => none) (fun u => [(h, co 6 (rdL tap e hq (evP t e (fac t e 3) s))), (hq, co 3 [ai wi, ai pa, ai ns, ai u.1, ar sla, ar ena, ar cda]), (cda, cn 0 100 u.2)]) := by
  refine ct_V RX6 [(0, ar h), (1, ai 2)] (by decide) rfl (Nat.le_of_ble_eq_true rfl) rfl (fun x hgS hnm hro hret => ?_)
  subst hgS
  have r0 := hro _ (mem_at 0 rfl)
  obtain ⟨hB1, hB2, hB3⟩ := id hB
  have hfl := flt_c hB
  have hhr := hr_v (t := t) (e := e) (s := s)
  have hub := hIE.1
  show V x cX6_both RX6 3 (rmU 15 331 0 0) [(h, co 6 (rdL tap e hq s)), (hq, co 3 [ai wi, ai pa, ai ns, ai us, ar sla, ar ena, ar cda]), (cda, cn 0 100 cd)] 0 [(0, ar h), (1, ai 2)] [] 0 0
  refine v_aload_n (pc := 0) 0 rfl dX6_both_0 ?_
  refine v_iload_n (pc := 1) 1 rfl dX6_both_1 ?_
  refine v_callV (pc := 2) [0, 1, 2] [] [] (As := [ai 2]) (rest := []) (c_rfac_3 h tap e hq t s wi pa ns us sla ena cda sl en cd (by assumption) (by first | omega | assumption) (by assumption) (by assumption)) (c := 6) rfl (Or.inr ⟨0, rfl⟩) wl_X6_91 wi_X6_factor wv_X6_X6_factor_X6_factor wk_X6_factor wz_X6 md_X6_factor rfl (Nat.le_of_ble_eq_true rfl) ⟨Nat.le_of_ble_eq_true rfl, Nat.le_of_ble_eq_true rfl, Nat.le_of_ble_eq_true rfl, Nat.le_of_ble_eq_true rfl⟩ rfl rfl rfl rfl (by decide) (ro_cons (Or.inl r0) ro_nil) dX6_both_2 (fun u hu => ?_)
  obtain ⟨us2_1, cd2_2⟩ := u
  have g_3 : IE (fac t e 3 s) ns us2_1 sl en cd2_2 := hu
  show V x cX6_both RX6 3 (rmU 15 331 0 0) [(h, co 6 (rdL tap e hq (fac t e 3 s))), (hq, co 3 [ai wi, ai pa, ai ns, ai us2_1, ar sla, ar ena, ar cda]), (cda, cn 0 100 cd2_2)] 5 [(0, ar h), (1, ai 2)] [] 0 0
  have hp1 := fac_k (t := t) 3 s hB
  refine v_iconst (pc := 5) dX6_both_5 ?_
  refine v_istore_n (pc := 6) (L2 := [(2, ai 0), (0, ar h), (1, ai 2)]) rfl (by decide) dX6_both_6 ?_
  have lp7 : ∀ (mm : Nat) (k : Int) (s1 : PS) (us1 : Int) (cd1 : Int → Int), (100 - k).toNat = mm → (0 ≤ k ∧ k ≤ 100) → (lpP t e 38 (-2) (fac t e 3) 101 s1 = evP t e (fac t e 3) s) → (PB e s1) → (IE s1 ns us1 sl en cd1) → (k ≤ s1.1) → V x cX6_both RX6 3 (rmU 15 331 0 0) [(h, co 6 (rdL tap e hq s1)), (hq, co 3 [ai wi, ai pa, ai ns, ai us1, ar sla, ar ena, ar cda]), (cda, cn 0 100 cd1)] 7 [(0, ar h), (1, ai 2), (2, ai k)] [] 0 0 := by
    intro mm
    induction mm using Nat.strongRecOn with
    | _ mm ih =>
      intro k s1 us1 cd1 hmm hk hlp hBq hI1 hks
      obtain ⟨hQ1, hQ2, hQ3⟩ := id hBq
      have hfl1 := flt_c hBq
      have hhr1 := hr_v (t := t) (e := e) (s := s1)
      have hub1 := hI1.1
      refine v_iload_n (pc := 7) 2 rfl dX6_both_7 ?_
      refine v_bipush (pc := 8) dX6_both_8 (by decide) ?_
      refine v_icmp_ge (pc := 10) 42 dX6_both_10 (by decide) (by unfold iB; omega) (by unfold iB; omega) (fun c_4 => ?_) (fun c_4 => ?_)
      · skip
        have he1 : evP t e (fac t e 3) s = s1 := hlp.symm.trans (lpP_st (by omega))
        refine v_ws (ws2 := [(h, co 6 (rdL tap e hq (evP t e (fac t e 3) s))), (hq, co 3 [ai wi, ai pa, ai ns, ai us1, ar sla, ar ena, ar cda]), (cda, cn 0 100 cd1)]) (by rw [he1]) ?_
        exact hret (us1, cd1) _ _ _ _ _ (by rw [he1]; exact hI1) rfl rfl (Nat.le_of_ble_eq_true rfl) (Nat.le_of_ble_eq_true rfl) dX6_both_42
      · skip
        refine v_aload_n (pc := 13) 0 rfl dX6_both_13 ?_
        refine v_bipush (pc := 14) dX6_both_14 (by decide) ?_
        refine v_callV (pc := 16) [0] [1, 2] [(hq, co 3 [ai wi, ai pa, ai ns, ai us1, ar sla, ar ena, ar cda]), (cda, cn 0 100 cd1)] (As := [ai 38]) (rest := []) (c_X6_takes h tap e hq t s1 38 (by exact hBq) (by first | omega | assumption) (by assumption) (by first | omega | assumption)) (c := 6) rfl (Or.inr ⟨0, rfl⟩) wl_X6_38 wi_X6_takes wv_X6_X6_takes_X6_takes wk_X6_takes wz_X6 md_X6_takes rfl (Nat.le_of_ble_eq_true rfl) ⟨Nat.le_of_ble_eq_true rfl, Nat.le_of_ble_eq_true rfl, Nat.le_of_ble_eq_true rfl, Nat.le_of_ble_eq_true rfl⟩ rfl rfl rfl rfl (by decide) (ro_cons (Or.inl r0) ro_nil) dX6_both_16 (fun u hu => ?_)
        show V x cX6_both RX6 3 (rmU 15 331 0 0) [(hq, co 3 [ai wi, ai pa, ai ns, ai us1, ar sla, ar ena, ar cda]), (cda, cn 0 100 cd1), (h, co 6 (rdL tap e hq (tkS t e 38 s1)))] 19 [(0, ar h), (1, ai 2), (2, ai k)] [ai (if s1.2.1 = 0 ∧ hr t e s1 = 38 then 1 else 0)] 0 0
        refine v_ifb_eq (pc := 19) 42 dX6_both_19 (by decide) (fun c_5 => ?_) (fun c_5 => ?_)
        · skip
          have hk : tkS t e 38 s1 = s1 := if_neg (by omega)
          refine v_ws (ws2 := [(hq, co 3 [ai wi, ai pa, ai ns, ai us1, ar sla, ar ena, ar cda]), (cda, cn 0 100 cd1), (h, co 6 (rdL tap e hq s1))]) (by rw [hk]) ?_
          have he1 : evP t e (fac t e 3) s = s1 := hlp.symm.trans (lpP_st (by omega))
          refine v_ws (ws2 := [(hq, co 3 [ai wi, ai pa, ai ns, ai us1, ar sla, ar ena, ar cda]), (cda, cn 0 100 cd1), (h, co 6 (rdL tap e hq (evP t e (fac t e 3) s)))]) (by rw [he1]) ?_
          refine v_wsub (ws2 := [(h, co 6 (rdL tap e hq (evP t e (fac t e 3) s))), (hq, co 3 [ai wi, ai pa, ai ns, ai us1, ar sla, ar ena, ar cda]), (cda, cn 0 100 cd1)]) [2, 0, 1] rfl rfl ?_
          exact hret (us1, cd1) _ _ _ _ _ (by rw [he1]; exact hI1) rfl rfl (Nat.le_of_ble_eq_true rfl) (Nat.le_of_ble_eq_true rfl) dX6_both_42
        · skip
          have hk : tkS t e 38 s1 = adv s1 := if_pos (by omega)
          refine v_ws (ws2 := [(hq, co 3 [ai wi, ai pa, ai ns, ai us1, ar sla, ar ena, ar cda]), (cda, cn 0 100 cd1), (h, co 6 (rdL tap e hq (adv s1)))]) (by rw [hk]) ?_
          have hBa := (adv_k hBq (by omega)).1
          have hma := Mv_adv hBq (show s1.1 < e by omega)
          refine v_aload_n (pc := 22) 0 rfl dX6_both_22 ?_
          refine v_iload_n (pc := 23) 1 rfl dX6_both_23 ?_
          refine v_callV (pc := 24) [2, 0, 1] [] [] (As := [ai 2]) (rest := []) (c_rfac_3 h tap e hq t (adv s1) wi pa ns us1 sla ena cda sl en cd1 (by exact hBa) (by first | omega | assumption) (by assumption) (by exact IE_mv hI1 hma)) (c := 6) rfl (Or.inr ⟨2, rfl⟩) wl_X6_91 wi_X6_factor wv_X6_X6_factor_X6_factor wk_X6_factor wz_X6 md_X6_factor rfl (Nat.le_of_ble_eq_true rfl) ⟨Nat.le_of_ble_eq_true rfl, Nat.le_of_ble_eq_true rfl, Nat.le_of_ble_eq_true rfl, Nat.le_of_ble_eq_true rfl⟩ rfl rfl rfl rfl (by decide) (ro_cons (Or.inl r0) ro_nil) dX6_both_24 (fun u hu => ?_)
          obtain ⟨us2_6, cd2_7⟩ := u
          have g_8 : IE (fac t e 3 (adv s1)) ns us2_6 sl en cd2_7 := hu
          show V x cX6_both RX6 3 (rmU 15 331 0 0) [(h, co 6 (rdL tap e hq (fac t e 3 (adv s1)))), (hq, co 3 [ai wi, ai pa, ai ns, ai us2_6, ar sla, ar ena, ar cda]), (cda, cn 0 100 cd2_7)] 27 [(0, ar h), (1, ai 2), (2, ai k)] [] 0 0
          have hpx := fac_k (t := t) 3 (adv s1) hBa
          have hp2 := hpx.2.1
          have had : (adv s1).1 = s1.1 + 1 := rfl
          have hub3 := g_8.1
          refine v_aload_n (pc := 27) 0 rfl dX6_both_27 ?_
          refine v_get (pc := 28) (v := ar hq) 2 (Or.inr ⟨0, rfl⟩) fl_6_12_6 rfl dX6_both_28 ?_
          refine v_bipush (pc := 31) dX6_both_31 (by decide) ?_
          refine v_callV (pc := 33) [1, 2] [0] [(h, co 6 (rdL tap e hq (fac t e 3 (adv s1))))] (As := [ai (-2)]) (rest := []) (c_X3_addCode hq wi pa ns us2_6 sla ena cda (-2) cd2_7 (by first | omega | assumption)) (c := 3) rfl (Or.inr ⟨1, rfl⟩) wl_X6_88 wi_X3_addCode wv_X3_X3_addCode_X3_addCode wk_X3_addCode wz_X3 md_X3_addCode rfl (Nat.le_of_ble_eq_true rfl) ⟨Nat.le_of_ble_eq_true rfl, Nat.le_of_ble_eq_true rfl, Nat.le_of_ble_eq_true rfl, Nat.le_of_ble_eq_true rfl⟩ rfl rfl rfl rfl (by decide) ro_nil dX6_both_33 (fun u hu => ?_)
          show V x cX6_both RX6 3 (rmU 15 331 0 0) [(h, co 6 (rdL tap e hq (fac t e 3 (adv s1)))), (hq, co 3 [ai wi, ai pa, ai ns, ai (if us2_6 < 100 then us2_6 + 1 else us2_6), ar sla, ar ena, ar cda]), (cda, cn 0 100 (if us2_6 < 100 then aup cd2_7 us2_6 (-2) else cd2_7))] 36 [(0, ar h), (1, ai 2), (2, ai k)] [] 0 0
          refine v_ws (ws2 := [(h, co 6 (rdL tap e hq (emi (-2) (fac t e 3 (adv s1))))), (hq, co 3 [ai wi, ai pa, ai ns, ai (if us2_6 < 100 then us2_6 + 1 else us2_6), ar sla, ar ena, ar cda]), (cda, cn 0 100 (if us2_6 < 100 then aup cd2_7 us2_6 (-2) else cd2_7))]) (by show [(h, co 6 [ar tap, ai e, ar hq, ai ((fac t e 3 (adv s1)).1), ai (flt (fac t e 3 (adv s1)))]), (hq, co 3 [ai wi, ai pa, ai ns, ai (if us2_6 < 100 then us2_6 + 1 else us2_6), ar sla, ar ena, ar cda]), (cda, cn 0 100 (if us2_6 < 100 then aup cd2_7 us2_6 (-2) else cd2_7))] = [(h, co 6 [ar tap, ai e, ar hq, ai ((emi (-2) (fac t e 3 (adv s1))).1), ai (flt (emi (-2) (fac t e 3 (adv s1))))]), (hq, co 3 [ai wi, ai pa, ai ns, ai (if us2_6 < 100 then us2_6 + 1 else us2_6), ar sla, ar ena, ar cda]), (cda, cn 0 100 (if us2_6 < 100 then aup cd2_7 us2_6 (-2) else cd2_7))]; rw [(emi_1 (z := -2) (s := (fac t e 3 (adv s1)))).1, (emi_1 (z := -2) (s := (fac t e 3 (adv s1)))).2.2]) ?_
          refine v_iinc (pc := 36) 2 (L2 := [(2, ai (k + 1)), (0, ar h), (1, ai 2)]) rfl rfl (by decide) dX6_both_36 ?_
          refine v_goto (pc := 39) 7 dX6_both_39 (by decide) ?_
          refine v_sub (L2 := [(0, ar h), (1, ai 2), (2, ai (k + 1))]) [1, 2, 0] rfl ?_
          exact ih _ (by omega) (k + 1) (emi (-2) (fac t e 3 (adv s1))) (if us2_6 < 100 then us2_6 + 1 else us2_6) (if us2_6 < 100 then aup cd2_7 us2_6 (-2) else cd2_7) rfl (by omega) (by rw [← hlp]; exact (lpP_go (by decide) (fac_k (t := t) 3) he.2 hBq (by omega) (by omega)).symm) (by exact PB_emi hpx.1) (by exact IE_code g_8 (by decide) (sl_of hpx (fun z => by show ((s1.2.2.length : Nat) : Int) + 1 ≤ s1.1 + 1; have := (hI1.2 z).2; omega) fac_mono he.2)) (by rw [emi_1.1]; omega)
  refine v_sub (L2 := [(0, ar h), (1, ai 2), (2, ai 0)]) [1, 2, 0] rfl ?_
  exact lp7 _ 0 (fac t e 3 s) us2_1 cd2_2 rfl (by omega) (by rfl) (by exact hp1.1) (by exact g_3) (by have := hp1.2.1; omega)
set_option maxHeartbeats 4000000 in
set_option maxRecDepth 100000 in
theorem c_reit_3 {gS : sG} (h : Nat) (tap : Nat) (e : Int) (hq : Nat) (t : Int → Int) (s : PS) (wi : Int) (pa : Int) (ns : Int) (us : Int) (sla : Nat) (ena : Nat) (cda : Nat) (sl : Int → Int) (en : Int → Int) (cd : Int → Int) (hB : PB e s) (he : 0 ≤ e ∧ e ≤ 100) (htb : ∀ j : Int, 0 ≤ j → j < e → 0 ≤ t j ∧ t j ≤ 127) (hIE : IE s ns us sl en cd) : Ct gS (S := Int × (Int → Int)) yX6_either cX6_either 3 none 16 353 0 0 [ar h, ai 2] [(h, co 6 (rdL tap e hq s)), (hq, co 3 [ai wi, ai pa, ai ns, ai us, ar sla, ar ena, ar cda]), (cda, cn 0 100 cd)] (fun q => q ∈ ([(tap, cn 0 100 t)] : aW)) (fun u => IE (soP t e (fac t e 3) s) ns u.1 sl en u.2) (fun u => none) (fun u => [(h, co 6 (rdL tap e hq (soP t e (fac t e 3) s))), (hq, co 3 [ai wi, ai pa, ai ns, ai u.1, ar sla, ar ena, ar cda]), (cda, cn 0 100 u.2)]) := by
  refine ct_V RX6 [(0, ar h), (1, ai 2)] (by decide) rfl (Nat.le_of_ble_eq_true rfl) rfl (fun x hgS hnm hro hret => ?_)
  subst hgS
  have r0 := hro _ (mem_at 0 rfl)
  obtain ⟨hB1, hB2, hB3⟩ := id hB
  have hfl := flt_c hB
  have hhr := hr_v (t := t) (e := e) (s := s)
  have hub := hIE.1
  show V x cX6_either RX6 3 (rmU 16 353 0 0) [(h, co 6 (rdL tap e hq s)), (hq, co 3 [ai wi, ai pa, ai ns, ai us, ar sla, ar ena, ar cda]), (cda, cn 0 100 cd)] 0 [(0, ar h), (1, ai 2)] [] 0 0
  refine v_aload_n (pc := 0) 0 rfl dX6_either_0 ?_
  refine v_iload_n (pc := 1) 1 rfl dX6_either_1 ?_
  refine v_callV (pc := 2) [0, 1, 2] [] [] (As := [ai 2]) (rest := []) (c_rbth_3 h tap e hq t s wi pa ns us sla ena cda sl en cd (by assumption) (by first | omega | assumption) (by assumption) (by assumption)) (c := 6) rfl (Or.inr ⟨0, rfl⟩) wl_X6_85 wi_X6_both wv_X6_X6_both_X6_both wk_X6_both wz_X6 md_X6_both rfl (Nat.le_of_ble_eq_true rfl) ⟨Nat.le_of_ble_eq_true rfl, Nat.le_of_ble_eq_true rfl, Nat.le_of_ble_eq_true rfl, Nat.le_of_ble_eq_true rfl⟩ rfl rfl rfl rfl (by decide) (ro_cons (Or.inl r0) ro_nil) dX6_either_2 (fun u hu => ?_)
  obtain ⟨us2_1, cd2_2⟩ := u
  have g_3 : IE (evP t e (fac t e 3) s) ns us2_1 sl en cd2_2 := hu
  show V x cX6_either RX6 3 (rmU 16 353 0 0) [(h, co 6 (rdL tap e hq (evP t e (fac t e 3) s))), (hq, co 3 [ai wi, ai pa, ai ns, ai us2_1, ar sla, ar ena, ar cda]), (cda, cn 0 100 cd2_2)] 5 [(0, ar h), (1, ai 2)] [] 0 0
  have hp1 := evP_k (t := t) (fac_k (t := t) 3) s hB
  refine v_iconst (pc := 5) dX6_either_5 ?_
  refine v_istore_n (pc := 6) (L2 := [(2, ai 0), (0, ar h), (1, ai 2)]) rfl (by decide) dX6_either_6 ?_
  have lp7 : ∀ (mm : Nat) (k : Int) (s1 : PS) (us1 : Int) (cd1 : Int → Int), (100 - k).toNat = mm → (0 ≤ k ∧ k ≤ 100) → (lpP t e 124 (-3) (evP t e (fac t e 3)) 101 s1 = soP t e (fac t e 3) s) → (PB e s1) → (IE s1 ns us1 sl en cd1) → (k ≤ s1.1) → V x cX6_either RX6 3 (rmU 16 353 0 0) [(h, co 6 (rdL tap e hq s1)), (hq, co 3 [ai wi, ai pa, ai ns, ai us1, ar sla, ar ena, ar cda]), (cda, cn 0 100 cd1)] 7 [(0, ar h), (1, ai 2), (2, ai k)] [] 0 0 := by
    intro mm
    induction mm using Nat.strongRecOn with
    | _ mm ih =>
      intro k s1 us1 cd1 hmm hk hlp hBq hI1 hks
      obtain ⟨hQ1, hQ2, hQ3⟩ := id hBq
      have hfl1 := flt_c hBq
      have hhr1 := hr_v (t := t) (e := e) (s := s1)
      have hub1 := hI1.1
      refine v_iload_n (pc := 7) 2 rfl dX6_either_7 ?_
      refine v_bipush (pc := 8) dX6_either_8 (by decide) ?_
      refine v_icmp_ge (pc := 10) 42 dX6_either_10 (by decide) (by unfold iB; omega) (by unfold iB; omega) (fun c_4 => ?_) (fun c_4 => ?_)
      · skip
        have he1 : soP t e (fac t e 3) s = s1 := hlp.symm.trans (lpP_st (by omega))
        refine v_ws (ws2 := [(h, co 6 (rdL tap e hq (soP t e (fac t e 3) s))), (hq, co 3 [ai wi, ai pa, ai ns, ai us1, ar sla, ar ena, ar cda]), (cda, cn 0 100 cd1)]) (by rw [he1]) ?_
        exact hret (us1, cd1) _ _ _ _ _ (by rw [he1]; exact hI1) rfl rfl (Nat.le_of_ble_eq_true rfl) (Nat.le_of_ble_eq_true rfl) dX6_either_42
      · skip
        refine v_aload_n (pc := 13) 0 rfl dX6_either_13 ?_
        refine v_bipush (pc := 14) dX6_either_14 (by decide) ?_
        refine v_callV (pc := 16) [0] [1, 2] [(hq, co 3 [ai wi, ai pa, ai ns, ai us1, ar sla, ar ena, ar cda]), (cda, cn 0 100 cd1)] (As := [ai 124]) (rest := []) (c_X6_takes h tap e hq t s1 124 (by exact hBq) (by first | omega | assumption) (by assumption) (by first | omega | assumption)) (c := 6) rfl (Or.inr ⟨0, rfl⟩) wl_X6_38 wi_X6_takes wv_X6_X6_takes_X6_takes wk_X6_takes wz_X6 md_X6_takes rfl (Nat.le_of_ble_eq_true rfl) ⟨Nat.le_of_ble_eq_true rfl, Nat.le_of_ble_eq_true rfl, Nat.le_of_ble_eq_true rfl, Nat.le_of_ble_eq_true rfl⟩ rfl rfl rfl rfl (by decide) (ro_cons (Or.inl r0) ro_nil) dX6_either_16 (fun u hu => ?_)
        show V x cX6_either RX6 3 (rmU 16 353 0 0) [(hq, co 3 [ai wi, ai pa, ai ns, ai us1, ar sla, ar ena, ar cda]), (cda, cn 0 100 cd1), (h, co 6 (rdL tap e hq (tkS t e 124 s1)))] 19 [(0, ar h), (1, ai 2), (2, ai k)] [ai (if s1.2.1 = 0 ∧ hr t e s1 = 124 then 1 else 0)] 0 0
        refine v_ifb_eq (pc := 19) 42 dX6_either_19 (by decide) (fun c_5 => ?_) (fun c_5 => ?_)
        · skip
          have hk : tkS t e 124 s1 = s1 := if_neg (by omega)
          refine v_ws (ws2 := [(hq, co 3 [ai wi, ai pa, ai ns, ai us1, ar sla, ar ena, ar cda]), (cda, cn 0 100 cd1), (h, co 6 (rdL tap e hq s1))]) (by rw [hk]) ?_
          have he1 : soP t e (fac t e 3) s = s1 := hlp.symm.trans (lpP_st (by omega))
          refine v_ws (ws2 := [(hq, co 3 [ai wi, ai pa, ai ns, ai us1, ar sla, ar ena, ar cda]), (cda, cn 0 100 cd1), (h, co 6 (rdL tap e hq (soP t e (fac t e 3) s)))]) (by rw [he1]) ?_
          refine v_wsub (ws2 := [(h, co 6 (rdL tap e hq (soP t e (fac t e 3) s))), (hq, co 3 [ai wi, ai pa, ai ns, ai us1, ar sla, ar ena, ar cda]), (cda, cn 0 100 cd1)]) [2, 0, 1] rfl rfl ?_
          exact hret (us1, cd1) _ _ _ _ _ (by rw [he1]; exact hI1) rfl rfl (Nat.le_of_ble_eq_true rfl) (Nat.le_of_ble_eq_true rfl) dX6_either_42
        · skip
          have hk : tkS t e 124 s1 = adv s1 := if_pos (by omega)
          refine v_ws (ws2 := [(hq, co 3 [ai wi, ai pa, ai ns, ai us1, ar sla, ar ena, ar cda]), (cda, cn 0 100 cd1), (h, co 6 (rdL tap e hq (adv s1)))]) (by rw [hk]) ?_
          have hBa := (adv_k hBq (by omega)).1
          have hma := Mv_adv hBq (show s1.1 < e by omega)
          refine v_aload_n (pc := 22) 0 rfl dX6_either_22 ?_
          refine v_iload_n (pc := 23) 1 rfl dX6_either_23 ?_
          refine v_callV (pc := 24) [2, 0, 1] [] [] (As := [ai 2]) (rest := []) (c_rbth_3 h tap e hq t (adv s1) wi pa ns us1 sla ena cda sl en cd1 (by exact hBa) (by first | omega | assumption) (by assumption) (by exact IE_mv hI1 hma)) (c := 6) rfl (Or.inr ⟨2, rfl⟩) wl_X6_85 wi_X6_both wv_X6_X6_both_X6_both wk_X6_both wz_X6 md_X6_both rfl (Nat.le_of_ble_eq_true rfl) ⟨Nat.le_of_ble_eq_true rfl, Nat.le_of_ble_eq_true rfl, Nat.le_of_ble_eq_true rfl, Nat.le_of_ble_eq_true rfl⟩ rfl rfl rfl rfl (by decide) (ro_cons (Or.inl r0) ro_nil) dX6_either_24 (fun u hu => ?_)
          obtain ⟨us2_6, cd2_7⟩ := u
          have g_8 : IE (evP t e (fac t e 3) (adv s1)) ns us2_6 sl en cd2_7 := hu
          show V x cX6_either RX6 3 (rmU 16 353 0 0) [(h, co 6 (rdL tap e hq (evP t e (fac t e 3) (adv s1)))), (hq, co 3 [ai wi, ai pa, ai ns, ai us2_6, ar sla, ar ena, ar cda]), (cda, cn 0 100 cd2_7)] 27 [(0, ar h), (1, ai 2), (2, ai k)] [] 0 0
          have hpx := evP_k (t := t) (fac_k (t := t) 3) (adv s1) hBa
          have hp2 := hpx.2.1
          have had : (adv s1).1 = s1.1 + 1 := rfl
          have hub3 := g_8.1
          refine v_aload_n (pc := 27) 0 rfl dX6_either_27 ?_
          refine v_get (pc := 28) (v := ar hq) 2 (Or.inr ⟨0, rfl⟩) fl_6_12_6 rfl dX6_either_28 ?_
          refine v_bipush (pc := 31) dX6_either_31 (by decide) ?_
          refine v_callV (pc := 33) [1, 2] [0] [(h, co 6 (rdL tap e hq (evP t e (fac t e 3) (adv s1))))] (As := [ai (-3)]) (rest := []) (c_X3_addCode hq wi pa ns us2_6 sla ena cda (-3) cd2_7 (by first | omega | assumption)) (c := 3) rfl (Or.inr ⟨1, rfl⟩) wl_X6_88 wi_X3_addCode wv_X3_X3_addCode_X3_addCode wk_X3_addCode wz_X3 md_X3_addCode rfl (Nat.le_of_ble_eq_true rfl) ⟨Nat.le_of_ble_eq_true rfl, Nat.le_of_ble_eq_true rfl, Nat.le_of_ble_eq_true rfl, Nat.le_of_ble_eq_true rfl⟩ rfl rfl rfl rfl (by decide) ro_nil dX6_either_33 (fun u hu => ?_)
          show V x cX6_either RX6 3 (rmU 16 353 0 0) [(h, co 6 (rdL tap e hq (evP t e (fac t e 3) (adv s1)))), (hq, co 3 [ai wi, ai pa, ai ns, ai (if us2_6 < 100 then us2_6 + 1 else us2_6), ar sla, ar ena, ar cda]), (cda, cn 0 100 (if us2_6 < 100 then aup cd2_7 us2_6 (-3) else cd2_7))] 36 [(0, ar h), (1, ai 2), (2, ai k)] [] 0 0
          refine v_ws (ws2 := [(h, co 6 (rdL tap e hq (emi (-3) (evP t e (fac t e 3) (adv s1))))), (hq, co 3 [ai wi, ai pa, ai ns, ai (if us2_6 < 100 then us2_6 + 1 else us2_6), ar sla, ar ena, ar cda]), (cda, cn 0 100 (if us2_6 < 100 then aup cd2_7 us2_6 (-3) else cd2_7))]) (by show [(h, co 6 [ar tap, ai e, ar hq, ai ((evP t e (fac t e 3) (adv s1)).1), ai (flt (evP t e (fac t e 3) (adv s1)))]), (hq, co 3 [ai wi, ai pa, ai ns, ai (if us2_6 < 100 then us2_6 + 1 else us2_6), ar sla, ar ena, ar cda]), (cda, cn 0 100 (if us2_6 < 100 then aup cd2_7 us2_6 (-3) else cd2_7))] = [(h, co 6 [ar tap, ai e, ar hq, ai ((emi (-3) (evP t e (fac t e 3) (adv s1))).1), ai (flt (emi (-3) (evP t e (fac t e 3) (adv s1))))]), (hq, co 3 [ai wi, ai pa, ai ns, ai (if us2_6 < 100 then us2_6 + 1 else us2_6), ar sla, ar ena, ar cda]), (cda, cn 0 100 (if us2_6 < 100 then aup cd2_7 us2_6 (-3) else cd2_7))]; rw [(emi_1 (z := -3) (s := (evP t e (fac t e 3) (adv s1)))).1, (emi_1 (z := -3) (s := (evP t e (fac t e 3) (adv s1)))).2.2]) ?_
          refine v_iinc (pc := 36) 2 (L2 := [(2, ai (k + 1)), (0, ar h), (1, ai 2)]) rfl rfl (by decide) dX6_either_36 ?_
          refine v_goto (pc := 39) 7 dX6_either_39 (by decide) ?_
          refine v_sub (L2 := [(0, ar h), (1, ai 2), (2, ai (k + 1))]) [1, 2, 0] rfl ?_
          exact ih _ (by omega) (k + 1) (emi (-3) (evP t e (fac t e 3) (adv s1))) (if us2_6 < 100 then us2_6 + 1 else us2_6) (if us2_6 < 100 then aup cd2_7 us2_6 (-3) else cd2_7) rfl (by omega) (by rw [← hlp]; exact (lpP_go (by decide) (evP_k (t := t) (fac_k (t := t) 3)) he.2 hBq (by omega) (by omega)).symm) (by exact PB_emi hpx.1) (by exact IE_code g_8 (by decide) (sl_of hpx (fun z => by show ((s1.2.2.length : Nat) : Int) + 1 ≤ s1.1 + 1; have := (hI1.2 z).2; omega) evP_mono he.2)) (by rw [emi_1.1]; omega)
  refine v_sub (L2 := [(0, ar h), (1, ai 2), (2, ai 0)]) [1, 2, 0] rfl ?_
  exact lp7 _ 0 (evP t e (fac t e 3) s) us2_1 cd2_2 rfl (by omega) (by rfl) (by exact hp1.1) (by exact g_3) (by have := hp1.2.1; omega)
set_option maxHeartbeats 4000000 in
set_option maxRecDepth 100000 in
theorem c_rfac_4 {gS : sG} (h : Nat) (tap : Nat) (e : Int) (hq : Nat) (t : Int → Int) (s : PS) (wi : Int) (pa : Int) (ns : Int) (us : Int) (sla : Nat) (ena : Nat) (cda : Nat) (sl : Int → Int) (en : Int → Int) (cd : Int → Int) (hB : PB e s) (he : 0 ≤ e ∧ e ≤ 100) (htb : ∀ j : Int, 0 ≤ j → j < e → 0 ≤ t j ∧ t j ≤ 127) (hIE : IE s ns us sl en cd) : Ct gS (S := Int × (Int → Int)) yX6_factor cX6_factor 4 none 17 375 0 0 [ar h, ai 1] [(h, co 6 (rdL tap e hq s)), (hq, co 3 [ai wi, ai pa, ai ns, ai us, ar sla, ar ena, ar cda]), (cda, cn 0 100 cd)] (fun q => q ∈ ([(tap, cn 0 100 t)] : aW)) (fun u => IE (fac t e 4 s) ns u.1 sl en u.2) (fun u => none) (fun u => [(h, co 6 (rdL tap e hq (fac t e 4 s))), (hq, co 3 [ai wi, ai pa, ai ns, ai u.1, ar sla, ar ena, ar cda]), (cda, cn 0 100 u.2)]) := by
  refine ct_V RX6 [(0, ar h), (1, ai 1)] (by decide) rfl (Nat.le_of_ble_eq_true rfl) rfl (fun x hgS hnm hro hret => ?_)
  subst hgS
  have r0 := hro _ (mem_at 0 rfl)
  obtain ⟨hB1, hB2, hB3⟩ := id hB
  have hfl := flt_c hB
  have hhr := hr_v (t := t) (e := e) (s := s)
  have hub := hIE.1
  show V x cX6_factor RX6 4 (rmU 17 375 0 0) [(h, co 6 (rdL tap e hq s)), (hq, co 3 [ai wi, ai pa, ai ns, ai us, ar sla, ar ena, ar cda]), (cda, cn 0 100 cd)] 0 [(0, ar h), (1, ai 1)] [] 0 0
  refine v_iload_n (pc := 0) 1 rfl dX6_factor_0 ?_
  refine v_iconst (pc := 1) dX6_factor_1 ?_
  refine v_icmp_ge (pc := 2) 32 dX6_factor_2 (by decide) (by unfold iB; omega) (by unfold iB; omega) (fun c_1 => by exfalso; omega) (fun c_1 => ?_)
  refine v_aload_n (pc := 5) 0 rfl dX6_factor_5 ?_
  refine v_bipush (pc := 6) dX6_factor_6 (by decide) ?_
  refine v_callV (pc := 8) [0] [1, 2] [(hq, co 3 [ai wi, ai pa, ai ns, ai us, ar sla, ar ena, ar cda]), (cda, cn 0 100 cd)] (As := [ai 33]) (rest := []) (c_X6_takes h tap e hq t s 33 (by assumption) (by first | omega | assumption) (by assumption) (by first | omega | assumption)) (c := 6) rfl (Or.inr ⟨0, rfl⟩) wl_X6_38 wi_X6_takes wv_X6_X6_takes_X6_takes wk_X6_takes wz_X6 md_X6_takes rfl (Nat.le_of_ble_eq_true rfl) ⟨Nat.le_of_ble_eq_true rfl, Nat.le_of_ble_eq_true rfl, Nat.le_of_ble_eq_true rfl, Nat.le_of_ble_eq_true rfl⟩ rfl rfl rfl rfl (by decide) (ro_cons (Or.inl r0) ro_nil) dX6_factor_8 (fun u hu => ?_)
  show V x cX6_factor RX6 4 (rmU 17 375 0 0) [(hq, co 3 [ai wi, ai pa, ai ns, ai us, ar sla, ar ena, ar cda]), (cda, cn 0 100 cd), (h, co 6 (rdL tap e hq (tkS t e 33 s)))] 11 [(0, ar h), (1, ai 1)] [ai (if s.2.1 = 0 ∧ hr t e s = 33 then 1 else 0)] 0 0
  refine v_ifb_eq (pc := 11) 32 dX6_factor_11 (by decide) (fun c_2 => ?_) (fun c_2 => ?_)
  · skip
    have hk : tkS t e 33 s = s := if_neg (by omega)
    refine v_ws (ws2 := [(hq, co 3 [ai wi, ai pa, ai ns, ai us, ar sla, ar ena, ar cda]), (cda, cn 0 100 cd), (h, co 6 (rdL tap e hq s))]) (by rw [hk]) ?_
    refine v_iload_n (pc := 32) 1 rfl dX6_factor_32 ?_
    refine v_iconst (pc := 33) dX6_factor_33 ?_
    refine v_icmp_ge (pc := 34) 62 dX6_factor_34 (by decide) (by unfold iB; omega) (by unfold iB; omega) (fun c_3 => by exfalso; omega) (fun c_3 => ?_)
    refine v_aload_n (pc := 37) 0 rfl dX6_factor_37 ?_
    refine v_bipush (pc := 38) dX6_factor_38 (by decide) ?_
    refine v_callV (pc := 40) [2] [0, 1] [(hq, co 3 [ai wi, ai pa, ai ns, ai us, ar sla, ar ena, ar cda]), (cda, cn 0 100 cd)] (As := [ai 40]) (rest := []) (c_X6_takes h tap e hq t s 40 (by assumption) (by first | omega | assumption) (by assumption) (by first | omega | assumption)) (c := 6) rfl (Or.inr ⟨2, rfl⟩) wl_X6_38 wi_X6_takes wv_X6_X6_takes_X6_takes wk_X6_takes wz_X6 md_X6_takes rfl (Nat.le_of_ble_eq_true rfl) ⟨Nat.le_of_ble_eq_true rfl, Nat.le_of_ble_eq_true rfl, Nat.le_of_ble_eq_true rfl, Nat.le_of_ble_eq_true rfl⟩ rfl rfl rfl rfl (by decide) (ro_cons (Or.inl r0) ro_nil) dX6_factor_40 (fun u hu => ?_)
    show V x cX6_factor RX6 4 (rmU 17 375 0 0) [(hq, co 3 [ai wi, ai pa, ai ns, ai us, ar sla, ar ena, ar cda]), (cda, cn 0 100 cd), (h, co 6 (rdL tap e hq (tkS t e 40 s)))] 43 [(0, ar h), (1, ai 1)] [ai (if s.2.1 = 0 ∧ hr t e s = 40 then 1 else 0)] 0 0
    refine v_ifb_eq (pc := 43) 62 dX6_factor_43 (by decide) (fun c_4 => ?_) (fun c_4 => ?_)
    · skip
      have hk : tkS t e 40 s = s := if_neg (by omega)
      refine v_ws (ws2 := [(hq, co 3 [ai wi, ai pa, ai ns, ai us, ar sla, ar ena, ar cda]), (cda, cn 0 100 cd), (h, co 6 (rdL tap e hq s))]) (by rw [hk]) ?_
      refine v_aload_n (pc := 62) 0 rfl dX6_factor_62 ?_
      refine v_ldcS (pc := 63) (q := ("MatFlip$Reader", 96, "pkngsy", 7)) (List.mem_of_getElem? (i := 7) rfl) rfl dX6_factor_63 ?_
      refine v_callV (pc := 65) [2] [0, 1] [(hq, co 3 [ai wi, ai pa, ai ns, ai us, ar sla, ar ena, ar cda]), (cda, cn 0 100 cd)] (As := [ar (lK (xg x) 7)]) (rest := []) (c_X6_takesOneOf h tap e hq t s 7 (by assumption) (by first | omega | assumption) (by assumption) (by decide)) (c := 6) rfl (Or.inr ⟨2, rfl⟩) wl_X6_50 wi_X6_takesOneOf wv_X6_X6_takesOneOf_X6_takesOneOf wk_X6_takesOneOf wz_X6 md_X6_takesOneOf rfl (Nat.le_of_ble_eq_true rfl) ⟨Nat.le_of_ble_eq_true rfl, Nat.le_of_ble_eq_true rfl, Nat.le_of_ble_eq_true rfl, Nat.le_of_ble_eq_true rfl⟩ rfl rfl rfl rfl (by decide) (ro_cons (Or.inl r0) ro_nil) dX6_factor_65 (fun u hu => ?_)
      show V x cX6_factor RX6 4 (rmU 17 375 0 0) [(hq, co 3 [ai wi, ai pa, ai ns, ai us, ar sla, ar ena, ar cda]), (cda, cn 0 100 cd), (h, co 6 (rdL tap e hq ((to1 t e 7 s).2)))] 68 [(0, ar h), (1, ai 1)] [ai ((to1 t e 7 s).1)] 0 0
      have hm7 := Mv_to1 (t := t) (e := e) (i := 7) (by decide) hB
      refine v_istore_n (pc := 68) (L2 := [(2, ai ((to1 t e 7 s).1)), (0, ar h), (1, ai 1)]) rfl (by decide) dX6_factor_68 ?_
      refine v_aload_n (pc := 69) 1 rfl dX6_factor_69 ?_
      refine v_ldcS (pc := 70) (q := ("MatFlip$Reader", 98, "<=>", 8)) (List.mem_of_getElem? (i := 8) rfl) rfl dX6_factor_70 ?_
      refine v_callV (pc := 72) [2] [0, 1] [(hq, co 3 [ai wi, ai pa, ai ns, ai us, ar sla, ar ena, ar cda]), (cda, cn 0 100 cd)] (As := [ar (lK (xg x) 8)]) (rest := []) (c_X6_takesOneOf h tap e hq t ((to1 t e 7 s).2) 8 (by exact hm7.1) (by first | omega | assumption) (by assumption) (by decide)) (c := 6) rfl (Or.inr ⟨2, rfl⟩) wl_X6_50 wi_X6_takesOneOf wv_X6_X6_takesOneOf_X6_takesOneOf wk_X6_takesOneOf wz_X6 md_X6_takesOneOf rfl (Nat.le_of_ble_eq_true rfl) ⟨Nat.le_of_ble_eq_true rfl, Nat.le_of_ble_eq_true rfl, Nat.le_of_ble_eq_true rfl, Nat.le_of_ble_eq_true rfl⟩ rfl rfl rfl rfl (by decide) (ro_cons (Or.inl r0) ro_nil) dX6_factor_72 (fun u hu => ?_)
      show V x cX6_factor RX6 4 (rmU 17 375 0 0) [(hq, co 3 [ai wi, ai pa, ai ns, ai us, ar sla, ar ena, ar cda]), (cda, cn 0 100 cd), (h, co 6 (rdL tap e hq ((to1 t e 8 ((to1 t e 7 s).2)).2)))] 75 [(2, ai ((to1 t e 7 s).1)), (0, ar h), (1, ai 1)] [ai ((to1 t e 8 ((to1 t e 7 s).2)).1)] 0 0
      have hm8 := Mv_to1 (t := t) (e := e) (i := 8) (by decide) hm7.1
      refine v_istore_n (pc := 75) (L2 := [(3, ai ((to1 t e 8 ((to1 t e 7 s).2)).1)), (2, ai ((to1 t e 7 s).1)), (0, ar h), (1, ai 1)]) rfl (by decide) dX6_factor_75 ?_
      refine v_aload_n (pc := 76) 2 rfl dX6_factor_76 ?_
      refine v_get (pc := 77) (v := ar hq) 2 (Or.inr ⟨2, rfl⟩) fl_6_12_6 rfl dX6_factor_77 ?_
      refine v_iload_n (pc := 80) 1 rfl dX6_factor_80 ?_
      refine v_iload_n (pc := 81) 0 rfl dX6_factor_81 ?_
      refine v_aload_n (pc := 82) 2 rfl dX6_factor_82 ?_
      refine v_callV (pc := 83) [2] [0, 1] [(hq, co 3 [ai wi, ai pa, ai ns, ai us, ar sla, ar ena, ar cda]), (cda, cn 0 100 cd)] (As := []) (rest := [ai ((to1 t e 8 ((to1 t e 7 s).2)).1), ai ((to1 t e 7 s).1), ar hq]) (c_X6_number h tap e hq t ((to1 t e 8 ((to1 t e 7 s).2)).2) (by exact hm8.1) (by first | omega | assumption) (by assumption)) (c := 6) rfl (Or.inr ⟨2, rfl⟩) wl_X6_66 wi_X6_number wv_X6_X6_number_X6_number wk_X6_number wz_X6 md_X6_number rfl (Nat.le_of_ble_eq_true rfl) ⟨Nat.le_of_ble_eq_true rfl, Nat.le_of_ble_eq_true rfl, Nat.le_of_ble_eq_true rfl, Nat.le_of_ble_eq_true rfl⟩ rfl rfl rfl rfl (by decide) (ro_cons (Or.inl r0) ro_nil) dX6_factor_83 (fun u hu => ?_)
      show V x cX6_factor RX6 4 (rmU 17 375 0 0) [(hq, co 3 [ai wi, ai pa, ai ns, ai us, ar sla, ar ena, ar cda]), (cda, cn 0 100 cd), (h, co 6 (rdL tap e hq ((fig t e ((to1 t e 8 ((to1 t e 7 s).2)).2)).2)))] 86 [(3, ai ((to1 t e 8 ((to1 t e 7 s).2)).1)), (2, ai ((to1 t e 7 s).1)), (0, ar h), (1, ai 1)] [ai ((fig t e ((to1 t e 8 ((to1 t e 7 s).2)).2)).1), ai ((to1 t e 8 ((to1 t e 7 s).2)).1), ai ((to1 t e 7 s).1), ar hq] 0 0
      refine v_callV (pc := 86) [0, 1] [2] [(h, co 6 (rdL tap e hq ((fig t e ((to1 t e 8 ((to1 t e 7 s).2)).2)).2)))] (As := [ai ((to1 t e 7 s).1), ai ((to1 t e 8 ((to1 t e 7 s).2)).1), ai ((fig t e ((to1 t e 8 ((to1 t e 7 s).2)).2)).1)]) (rest := []) (c_X3_addTest hq wi pa ns us sla ena cda ((to1 t e 7 s).1) ((to1 t e 8 ((to1 t e 7 s).2)).1) ((fig t e ((to1 t e 8 ((to1 t e 7 s).2)).2)).1) cd (by first | omega | assumption)) (c := 3) rfl (Or.inr ⟨0, rfl⟩) wl_X6_100 wi_X3_addTest wv_X3_X3_addTest_X3_addTest wk_X3_addTest wz_X3 md_X3_addTest rfl (Nat.le_of_ble_eq_true rfl) ⟨Nat.le_of_ble_eq_true rfl, Nat.le_of_ble_eq_true rfl, Nat.le_of_ble_eq_true rfl, Nat.le_of_ble_eq_true rfl⟩ rfl rfl rfl rfl (by decide) ro_nil dX6_factor_86 (fun u hu => ?_)
      show V x cX6_factor RX6 4 (rmU 17 375 0 0) [(h, co 6 (rdL tap e hq ((fig t e ((to1 t e 8 ((to1 t e 7 s).2)).2)).2))), (hq, co 3 [ai wi, ai pa, ai ns, ai (if us < 100 then us + 1 else us), ar sla, ar ena, ar cda]), (cda, cn 0 100 (if us < 100 then aup cd us ((((to1 t e 7 s).1) * 3 + ((to1 t e 8 ((to1 t e 7 s).2)).1)) * 100 + ((fig t e ((to1 t e 8 ((to1 t e 7 s).2)).2)).1)) else cd))] 89 [(3, ai ((to1 t e 8 ((to1 t e 7 s).2)).1)), (2, ai ((to1 t e 7 s).1)), (0, ar h), (1, ai 1)] [] 0 0
      refine v_ws (ws2 := [(h, co 6 (rdL tap e hq (tsS t e s))), (hq, co 3 [ai wi, ai pa, ai ns, ai (if us < 100 then us + 1 else us), ar sla, ar ena, ar cda]), (cda, cn 0 100 (if us < 100 then aup cd us ((((to1 t e 7 s).1) * 3 + ((to1 t e 8 ((to1 t e 7 s).2)).1)) * 100 + ((fig t e ((to1 t e 8 ((to1 t e 7 s).2)).2)).1)) else cd))]) (by rfl) ?_
      refine v_ws (ws2 := [(h, co 6 (rdL tap e hq (emi (tsZ t e s) (tsS t e s)))), (hq, co 3 [ai wi, ai pa, ai ns, ai (if us < 100 then us + 1 else us), ar sla, ar ena, ar cda]), (cda, cn 0 100 (if us < 100 then aup cd us ((((to1 t e 7 s).1) * 3 + ((to1 t e 8 ((to1 t e 7 s).2)).1)) * 100 + ((fig t e ((to1 t e 8 ((to1 t e 7 s).2)).2)).1)) else cd))]) (by show [(h, co 6 [ar tap, ai e, ar hq, ai ((tsS t e s).1), ai (flt (tsS t e s))]), (hq, co 3 [ai wi, ai pa, ai ns, ai (if us < 100 then us + 1 else us), ar sla, ar ena, ar cda]), (cda, cn 0 100 (if us < 100 then aup cd us ((((to1 t e 7 s).1) * 3 + ((to1 t e 8 ((to1 t e 7 s).2)).1)) * 100 + ((fig t e ((to1 t e 8 ((to1 t e 7 s).2)).2)).1)) else cd))] = [(h, co 6 [ar tap, ai e, ar hq, ai ((emi (tsZ t e s) (tsS t e s)).1), ai (flt (emi (tsZ t e s) (tsS t e s)))]), (hq, co 3 [ai wi, ai pa, ai ns, ai (if us < 100 then us + 1 else us), ar sla, ar ena, ar cda]), (cda, cn 0 100 (if us < 100 then aup cd us ((((to1 t e 7 s).1) * 3 + ((to1 t e 8 ((to1 t e 7 s).2)).1)) * 100 + ((fig t e ((to1 t e 8 ((to1 t e 7 s).2)).2)).1)) else cd))]; rw [(emi_1 (z := (tsZ t e s)) (s := (tsS t e s))).1, (emi_1 (z := (tsZ t e s)) (s := (tsS t e s))).2.2]) ?_
      have hfc : fac t e 4 s = emi (tsZ t e s) (tsS t e s) := fac_cl hB (Or.inr (by omega))
      refine v_ws (ws2 := [(h, co 6 (rdL tap e hq (fac t e 4 s))), (hq, co 3 [ai wi, ai pa, ai ns, ai (if us < 100 then us + 1 else us), ar sla, ar ena, ar cda]), (cda, cn 0 100 (if us < 100 then aup cd us ((((to1 t e 7 s).1) * 3 + ((to1 t e 8 ((to1 t e 7 s).2)).1)) * 100 + ((fig t e ((to1 t e 8 ((to1 t e 7 s).2)).2)).1)) else cd))]) (by rw [hfc]) ?_
      have hen := enc_ts (t := t) (e := e) (s := s)
      have hie := IE_code (z := tsZ t e s) (IE_mv hIE (Mv_tsS (t := t) hB)) (by omega) (tsS_sl hB he.2 (fun z => (hIE.2 z).2))
      rw [hen.1] at hie
      exact hret ((if us < 100 then us + 1 else us), (if us < 100 then aup cd us ((((to1 t e 7 s).1) * 3 + ((to1 t e 8 ((to1 t e 7 s).2)).1)) * 100 + ((fig t e ((to1 t e 8 ((to1 t e 7 s).2)).2)).1)) else cd)) _ _ _ _ _ (by rw [hfc]; exact hie) rfl rfl (Nat.le_of_ble_eq_true rfl) (Nat.le_of_ble_eq_true rfl) dX6_factor_89
    · skip
      have hk : tkS t e 40 s = adv s := if_pos (by omega)
      refine v_ws (ws2 := [(hq, co 3 [ai wi, ai pa, ai ns, ai us, ar sla, ar ena, ar cda]), (cda, cn 0 100 cd), (h, co 6 (rdL tap e hq (adv s)))]) (by rw [hk]) ?_
      have hBa := (adv_k hB (by omega)).1
      have hma := Mv_adv hB (show s.1 < e by omega)
      refine v_aload_n (pc := 46) 0 rfl dX6_factor_46 ?_
      refine v_iload_n (pc := 47) 1 rfl dX6_factor_47 ?_
      refine v_iconst (pc := 48) dX6_factor_48 ?_
      refine v_iadd (pc := 49) dX6_factor_49 ?_
      refine v_callV (pc := 50) [2, 0, 1] [] [] (As := [ai 2]) (rest := []) (c_reit_3 h tap e hq t (adv s) wi pa ns us sla ena cda sl en cd (by exact hBa) (by first | omega | assumption) (by assumption) (by exact IE_mv hIE hma)) (c := 6) rfl (Or.inr ⟨2, rfl⟩) wl_X6_78 wi_X6_either wv_X6_X6_either_X6_either wk_X6_either wz_X6 md_X6_either rfl (Nat.le_of_ble_eq_true rfl) ⟨Nat.le_of_ble_eq_true rfl, Nat.le_of_ble_eq_true rfl, Nat.le_of_ble_eq_true rfl, Nat.le_of_ble_eq_true rfl⟩ rfl rfl rfl rfl (by decide) (ro_cons (Or.inl r0) ro_nil) dX6_factor_50 (fun u hu => ?_)
      obtain ⟨us2_5, cd2_6⟩ := u
      have g_7 : IE (soP t e (fac t e 3) (adv s)) ns us2_5 sl en cd2_6 := hu
      show V x cX6_factor RX6 4 (rmU 17 375 0 0) [(h, co 6 (rdL tap e hq (soP t e (fac t e 3) (adv s)))), (hq, co 3 [ai wi, ai pa, ai ns, ai us2_5, ar sla, ar ena, ar cda]), (cda, cn 0 100 cd2_6)] 53 [(0, ar h), (1, ai 1)] [] 0 0
      have hBx := (soP_k (t := t) (fac_k (t := t) 3) (adv s) hBa).1
      refine v_aload_n (pc := 53) 0 rfl dX6_factor_53 ?_
      refine v_ldcS (pc := 54) (q := ("MatFlip$Reader", 94, ")", 6)) (List.mem_of_getElem? (i := 6) rfl) rfl dX6_factor_54 ?_
      refine v_callV (pc := 56) [0] [1, 2] [(hq, co 3 [ai wi, ai pa, ai ns, ai us2_5, ar sla, ar ena, ar cda]), (cda, cn 0 100 cd2_6)] (As := [ar (lK (xg x) 6)]) (rest := []) (c_X6_needs h tap e hq t (soP t e (fac t e 3) (adv s)) 6 (by exact hBx) (by first | omega | assumption) (by assumption) (by decide)) (c := 6) rfl (Or.inr ⟨0, rfl⟩) wl_X6_62 wi_X6_needs wv_X6_X6_needs_X6_needs wk_X6_needs wz_X6 md_X6_needs rfl (Nat.le_of_ble_eq_true rfl) ⟨Nat.le_of_ble_eq_true rfl, Nat.le_of_ble_eq_true rfl, Nat.le_of_ble_eq_true rfl, Nat.le_of_ble_eq_true rfl⟩ rfl rfl rfl rfl (by decide) (ro_cons (Or.inl r0) ro_nil) dX6_factor_56 (fun u hu => ?_)
      show V x cX6_factor RX6 4 (rmU 17 375 0 0) [(hq, co 3 [ai wi, ai pa, ai ns, ai us2_5, ar sla, ar ena, ar cda]), (cda, cn 0 100 cd2_6), (h, co 6 (rdL tap e hq (spl t e 6 (lenS 6).toNat (soP t e (fac t e 3) (adv s)))))] 59 [(0, ar h), (1, ai 1)] [] 0 0
      have hfc : fac t e 4 s = mstP t e 41 (soP t e (fac t e 3) (adv s)) := fac_br (by omega) (by omega)
      have hs1 : spl t e 6 (lenS 6).toNat (soP t e (fac t e 3) (adv s)) = mstP t e 41 (soP t e (fac t e 3) (adv s)) := spl_l1 (by decide) (by decide)
      refine v_ws (ws2 := [(hq, co 3 [ai wi, ai pa, ai ns, ai us2_5, ar sla, ar ena, ar cda]), (cda, cn 0 100 cd2_6), (h, co 6 (rdL tap e hq (fac t e 4 s)))]) (by rw [hfc, hs1]) ?_
      refine v_goto (pc := 59) 89 dX6_factor_59 (by decide) ?_
      refine v_wsub (ws2 := [(h, co 6 (rdL tap e hq (fac t e 4 s))), (hq, co 3 [ai wi, ai pa, ai ns, ai us2_5, ar sla, ar ena, ar cda]), (cda, cn 0 100 cd2_6)]) [2, 0, 1] rfl rfl ?_
      exact hret (us2_5, cd2_6) _ _ _ _ _ (by rw [hfc]; exact IE_mv g_7 (Mv_mst (by decide) hBx)) rfl rfl (Nat.le_of_ble_eq_true rfl) (Nat.le_of_ble_eq_true rfl) dX6_factor_89
  · skip
    have hk : tkS t e 33 s = adv s := if_pos (by omega)
    refine v_ws (ws2 := [(hq, co 3 [ai wi, ai pa, ai ns, ai us, ar sla, ar ena, ar cda]), (cda, cn 0 100 cd), (h, co 6 (rdL tap e hq (adv s)))]) (by rw [hk]) ?_
    have hBa := (adv_k hB (by omega)).1
    have hma := Mv_adv hB (show s.1 < e by omega)
    refine v_aload_n (pc := 14) 0 rfl dX6_factor_14 ?_
    refine v_iload_n (pc := 15) 1 rfl dX6_factor_15 ?_
    refine v_iconst (pc := 16) dX6_factor_16 ?_
    refine v_iadd (pc := 17) dX6_factor_17 ?_
    refine v_callV (pc := 18) [2, 0, 1] [] [] (As := [ai 2]) (rest := []) (c_rfac_3 h tap e hq t (adv s) wi pa ns us sla ena cda sl en cd (by exact hBa) (by first | omega | assumption) (by assumption) (by exact IE_mv hIE hma)) (c := 6) rfl (Or.inr ⟨2, rfl⟩) wl_X6_91 wi_X6_factor wv_X6_X6_factor_X6_factor wk_X6_factor wz_X6 md_X6_factor rfl (Nat.le_of_ble_eq_true rfl) ⟨Nat.le_of_ble_eq_true rfl, Nat.le_of_ble_eq_true rfl, Nat.le_of_ble_eq_true rfl, Nat.le_of_ble_eq_true rfl⟩ rfl rfl rfl rfl (by decide) (ro_cons (Or.inl r0) ro_nil) dX6_factor_18 (fun u hu => ?_)
    obtain ⟨us2_8, cd2_9⟩ := u
    have g_10 : IE (fac t e 3 (adv s)) ns us2_8 sl en cd2_9 := hu
    show V x cX6_factor RX6 4 (rmU 17 375 0 0) [(h, co 6 (rdL tap e hq (fac t e 3 (adv s)))), (hq, co 3 [ai wi, ai pa, ai ns, ai us2_8, ar sla, ar ena, ar cda]), (cda, cn 0 100 cd2_9)] 21 [(0, ar h), (1, ai 1)] [] 0 0
    have hub2 := g_10.1
    refine v_aload_n (pc := 21) 0 rfl dX6_factor_21 ?_
    refine v_get (pc := 22) (v := ar hq) 2 (Or.inr ⟨0, rfl⟩) fl_6_12_6 rfl dX6_factor_22 ?_
    refine v_iconst (pc := 25) dX6_factor_25 ?_
    refine v_callV (pc := 26) [1, 2] [0] [(h, co 6 (rdL tap e hq (fac t e 3 (adv s))))] (As := [ai (-1)]) (rest := []) (c_X3_addCode hq wi pa ns us2_8 sla ena cda (-1) cd2_9 (by first | omega | assumption)) (c := 3) rfl (Or.inr ⟨1, rfl⟩) wl_X6_88 wi_X3_addCode wv_X3_X3_addCode_X3_addCode wk_X3_addCode wz_X3 md_X3_addCode rfl (Nat.le_of_ble_eq_true rfl) ⟨Nat.le_of_ble_eq_true rfl, Nat.le_of_ble_eq_true rfl, Nat.le_of_ble_eq_true rfl, Nat.le_of_ble_eq_true rfl⟩ rfl rfl rfl rfl (by decide) ro_nil dX6_factor_26 (fun u hu => ?_)
    show V x cX6_factor RX6 4 (rmU 17 375 0 0) [(h, co 6 (rdL tap e hq (fac t e 3 (adv s)))), (hq, co 3 [ai wi, ai pa, ai ns, ai (if us2_8 < 100 then us2_8 + 1 else us2_8), ar sla, ar ena, ar cda]), (cda, cn 0 100 (if us2_8 < 100 then aup cd2_9 us2_8 (-1) else cd2_9))] 29 [(0, ar h), (1, ai 1)] [] 0 0
    refine v_ws (ws2 := [(h, co 6 (rdL tap e hq (emi (-1) (fac t e 3 (adv s))))), (hq, co 3 [ai wi, ai pa, ai ns, ai (if us2_8 < 100 then us2_8 + 1 else us2_8), ar sla, ar ena, ar cda]), (cda, cn 0 100 (if us2_8 < 100 then aup cd2_9 us2_8 (-1) else cd2_9))]) (by show [(h, co 6 [ar tap, ai e, ar hq, ai ((fac t e 3 (adv s)).1), ai (flt (fac t e 3 (adv s)))]), (hq, co 3 [ai wi, ai pa, ai ns, ai (if us2_8 < 100 then us2_8 + 1 else us2_8), ar sla, ar ena, ar cda]), (cda, cn 0 100 (if us2_8 < 100 then aup cd2_9 us2_8 (-1) else cd2_9))] = [(h, co 6 [ar tap, ai e, ar hq, ai ((emi (-1) (fac t e 3 (adv s))).1), ai (flt (emi (-1) (fac t e 3 (adv s))))]), (hq, co 3 [ai wi, ai pa, ai ns, ai (if us2_8 < 100 then us2_8 + 1 else us2_8), ar sla, ar ena, ar cda]), (cda, cn 0 100 (if us2_8 < 100 then aup cd2_9 us2_8 (-1) else cd2_9))]; rw [(emi_1 (z := -1) (s := (fac t e 3 (adv s)))).1, (emi_1 (z := -1) (s := (fac t e 3 (adv s)))).2.2]) ?_
    have hfc : fac t e 4 s = emi (-1) (fac t e 3 (adv s)) := fac_ex (by omega) (by omega)
    refine v_ws (ws2 := [(h, co 6 (rdL tap e hq (fac t e 4 s))), (hq, co 3 [ai wi, ai pa, ai ns, ai (if us2_8 < 100 then us2_8 + 1 else us2_8), ar sla, ar ena, ar cda]), (cda, cn 0 100 (if us2_8 < 100 then aup cd2_9 us2_8 (-1) else cd2_9))]) (by rw [hfc]) ?_
    refine v_goto (pc := 29) 89 dX6_factor_29 (by decide) ?_
    exact hret ((if us2_8 < 100 then us2_8 + 1 else us2_8), (if us2_8 < 100 then aup cd2_9 us2_8 (-1) else cd2_9)) _ _ _ _ _ (by rw [hfc]; exact IE_code g_10 (by decide) (sl_of (fac_k (t := t) 3 (adv s) hBa) (fun z => by show ((s.2.2.length : Nat) : Int) + 1 ≤ s.1 + 1; have := (hIE.2 z).2; omega) fac_mono he.2)) rfl rfl (Nat.le_of_ble_eq_true rfl) (Nat.le_of_ble_eq_true rfl) dX6_factor_89
set_option maxHeartbeats 4000000 in
set_option maxRecDepth 100000 in
theorem c_rbth_4 {gS : sG} (h : Nat) (tap : Nat) (e : Int) (hq : Nat) (t : Int → Int) (s : PS) (wi : Int) (pa : Int) (ns : Int) (us : Int) (sla : Nat) (ena : Nat) (cda : Nat) (sl : Int → Int) (en : Int → Int) (cd : Int → Int) (hB : PB e s) (he : 0 ≤ e ∧ e ≤ 100) (htb : ∀ j : Int, 0 ≤ j → j < e → 0 ≤ t j ∧ t j ≤ 127) (hIE : IE s ns us sl en cd) : Ct gS (S := Int × (Int → Int)) yX6_both cX6_both 3 none 18 398 0 0 [ar h, ai 1] [(h, co 6 (rdL tap e hq s)), (hq, co 3 [ai wi, ai pa, ai ns, ai us, ar sla, ar ena, ar cda]), (cda, cn 0 100 cd)] (fun q => q ∈ ([(tap, cn 0 100 t)] : aW)) (fun u => IE (evP t e (fac t e 4) s) ns u.1 sl en u.2) (fun u => none) (fun u => [(h, co 6 (rdL tap e hq (evP t e (fac t e 4) s))), (hq, co 3 [ai wi, ai pa, ai ns, ai u.1, ar sla, ar ena, ar cda]), (cda, cn 0 100 u.2)]) := by
  refine ct_V RX6 [(0, ar h), (1, ai 1)] (by decide) rfl (Nat.le_of_ble_eq_true rfl) rfl (fun x hgS hnm hro hret => ?_)
  subst hgS
  have r0 := hro _ (mem_at 0 rfl)
  obtain ⟨hB1, hB2, hB3⟩ := id hB
  have hfl := flt_c hB
  have hhr := hr_v (t := t) (e := e) (s := s)
  have hub := hIE.1
  show V x cX6_both RX6 3 (rmU 18 398 0 0) [(h, co 6 (rdL tap e hq s)), (hq, co 3 [ai wi, ai pa, ai ns, ai us, ar sla, ar ena, ar cda]), (cda, cn 0 100 cd)] 0 [(0, ar h), (1, ai 1)] [] 0 0
  refine v_aload_n (pc := 0) 0 rfl dX6_both_0 ?_
  refine v_iload_n (pc := 1) 1 rfl dX6_both_1 ?_
  refine v_callV (pc := 2) [0, 1, 2] [] [] (As := [ai 1]) (rest := []) (c_rfac_4 h tap e hq t s wi pa ns us sla ena cda sl en cd (by assumption) (by first | omega | assumption) (by assumption) (by assumption)) (c := 6) rfl (Or.inr ⟨0, rfl⟩) wl_X6_91 wi_X6_factor wv_X6_X6_factor_X6_factor wk_X6_factor wz_X6 md_X6_factor rfl (Nat.le_of_ble_eq_true rfl) ⟨Nat.le_of_ble_eq_true rfl, Nat.le_of_ble_eq_true rfl, Nat.le_of_ble_eq_true rfl, Nat.le_of_ble_eq_true rfl⟩ rfl rfl rfl rfl (by decide) (ro_cons (Or.inl r0) ro_nil) dX6_both_2 (fun u hu => ?_)
  obtain ⟨us2_1, cd2_2⟩ := u
  have g_3 : IE (fac t e 4 s) ns us2_1 sl en cd2_2 := hu
  show V x cX6_both RX6 3 (rmU 18 398 0 0) [(h, co 6 (rdL tap e hq (fac t e 4 s))), (hq, co 3 [ai wi, ai pa, ai ns, ai us2_1, ar sla, ar ena, ar cda]), (cda, cn 0 100 cd2_2)] 5 [(0, ar h), (1, ai 1)] [] 0 0
  have hp1 := fac_k (t := t) 4 s hB
  refine v_iconst (pc := 5) dX6_both_5 ?_
  refine v_istore_n (pc := 6) (L2 := [(2, ai 0), (0, ar h), (1, ai 1)]) rfl (by decide) dX6_both_6 ?_
  have lp7 : ∀ (mm : Nat) (k : Int) (s1 : PS) (us1 : Int) (cd1 : Int → Int), (100 - k).toNat = mm → (0 ≤ k ∧ k ≤ 100) → (lpP t e 38 (-2) (fac t e 4) 101 s1 = evP t e (fac t e 4) s) → (PB e s1) → (IE s1 ns us1 sl en cd1) → (k ≤ s1.1) → V x cX6_both RX6 3 (rmU 18 398 0 0) [(h, co 6 (rdL tap e hq s1)), (hq, co 3 [ai wi, ai pa, ai ns, ai us1, ar sla, ar ena, ar cda]), (cda, cn 0 100 cd1)] 7 [(0, ar h), (1, ai 1), (2, ai k)] [] 0 0 := by
    intro mm
    induction mm using Nat.strongRecOn with
    | _ mm ih =>
      intro k s1 us1 cd1 hmm hk hlp hBq hI1 hks
      obtain ⟨hQ1, hQ2, hQ3⟩ := id hBq
      have hfl1 := flt_c hBq
      have hhr1 := hr_v (t := t) (e := e) (s := s1)
      have hub1 := hI1.1
      refine v_iload_n (pc := 7) 2 rfl dX6_both_7 ?_
      refine v_bipush (pc := 8) dX6_both_8 (by decide) ?_
      refine v_icmp_ge (pc := 10) 42 dX6_both_10 (by decide) (by unfold iB; omega) (by unfold iB; omega) (fun c_4 => ?_) (fun c_4 => ?_)
      · skip
        have he1 : evP t e (fac t e 4) s = s1 := hlp.symm.trans (lpP_st (by omega))
        refine v_ws (ws2 := [(h, co 6 (rdL tap e hq (evP t e (fac t e 4) s))), (hq, co 3 [ai wi, ai pa, ai ns, ai us1, ar sla, ar ena, ar cda]), (cda, cn 0 100 cd1)]) (by rw [he1]) ?_
        exact hret (us1, cd1) _ _ _ _ _ (by rw [he1]; exact hI1) rfl rfl (Nat.le_of_ble_eq_true rfl) (Nat.le_of_ble_eq_true rfl) dX6_both_42
      · skip
        refine v_aload_n (pc := 13) 0 rfl dX6_both_13 ?_
        refine v_bipush (pc := 14) dX6_both_14 (by decide) ?_
        refine v_callV (pc := 16) [0] [1, 2] [(hq, co 3 [ai wi, ai pa, ai ns, ai us1, ar sla, ar ena, ar cda]), (cda, cn 0 100 cd1)] (As := [ai 38]) (rest := []) (c_X6_takes h tap e hq t s1 38 (by exact hBq) (by first | omega | assumption) (by assumption) (by first | omega | assumption)) (c := 6) rfl (Or.inr ⟨0, rfl⟩) wl_X6_38 wi_X6_takes wv_X6_X6_takes_X6_takes wk_X6_takes wz_X6 md_X6_takes rfl (Nat.le_of_ble_eq_true rfl) ⟨Nat.le_of_ble_eq_true rfl, Nat.le_of_ble_eq_true rfl, Nat.le_of_ble_eq_true rfl, Nat.le_of_ble_eq_true rfl⟩ rfl rfl rfl rfl (by decide) (ro_cons (Or.inl r0) ro_nil) dX6_both_16 (fun u hu => ?_)
        show V x cX6_both RX6 3 (rmU 18 398 0 0) [(hq, co 3 [ai wi, ai pa, ai ns, ai us1, ar sla, ar ena, ar cda]), (cda, cn 0 100 cd1), (h, co 6 (rdL tap e hq (tkS t e 38 s1)))] 19 [(0, ar h), (1, ai 1), (2, ai k)] [ai (if s1.2.1 = 0 ∧ hr t e s1 = 38 then 1 else 0)] 0 0
        refine v_ifb_eq (pc := 19) 42 dX6_both_19 (by decide) (fun c_5 => ?_) (fun c_5 => ?_)
        · skip
          have hk : tkS t e 38 s1 = s1 := if_neg (by omega)
          refine v_ws (ws2 := [(hq, co 3 [ai wi, ai pa, ai ns, ai us1, ar sla, ar ena, ar cda]), (cda, cn 0 100 cd1), (h, co 6 (rdL tap e hq s1))]) (by rw [hk]) ?_
          have he1 : evP t e (fac t e 4) s = s1 := hlp.symm.trans (lpP_st (by omega))
          refine v_ws (ws2 := [(hq, co 3 [ai wi, ai pa, ai ns, ai us1, ar sla, ar ena, ar cda]), (cda, cn 0 100 cd1), (h, co 6 (rdL tap e hq (evP t e (fac t e 4) s)))]) (by rw [he1]) ?_
          refine v_wsub (ws2 := [(h, co 6 (rdL tap e hq (evP t e (fac t e 4) s))), (hq, co 3 [ai wi, ai pa, ai ns, ai us1, ar sla, ar ena, ar cda]), (cda, cn 0 100 cd1)]) [2, 0, 1] rfl rfl ?_
          exact hret (us1, cd1) _ _ _ _ _ (by rw [he1]; exact hI1) rfl rfl (Nat.le_of_ble_eq_true rfl) (Nat.le_of_ble_eq_true rfl) dX6_both_42
        · skip
          have hk : tkS t e 38 s1 = adv s1 := if_pos (by omega)
          refine v_ws (ws2 := [(hq, co 3 [ai wi, ai pa, ai ns, ai us1, ar sla, ar ena, ar cda]), (cda, cn 0 100 cd1), (h, co 6 (rdL tap e hq (adv s1)))]) (by rw [hk]) ?_
          have hBa := (adv_k hBq (by omega)).1
          have hma := Mv_adv hBq (show s1.1 < e by omega)
          refine v_aload_n (pc := 22) 0 rfl dX6_both_22 ?_
          refine v_iload_n (pc := 23) 1 rfl dX6_both_23 ?_
          refine v_callV (pc := 24) [2, 0, 1] [] [] (As := [ai 1]) (rest := []) (c_rfac_4 h tap e hq t (adv s1) wi pa ns us1 sla ena cda sl en cd1 (by exact hBa) (by first | omega | assumption) (by assumption) (by exact IE_mv hI1 hma)) (c := 6) rfl (Or.inr ⟨2, rfl⟩) wl_X6_91 wi_X6_factor wv_X6_X6_factor_X6_factor wk_X6_factor wz_X6 md_X6_factor rfl (Nat.le_of_ble_eq_true rfl) ⟨Nat.le_of_ble_eq_true rfl, Nat.le_of_ble_eq_true rfl, Nat.le_of_ble_eq_true rfl, Nat.le_of_ble_eq_true rfl⟩ rfl rfl rfl rfl (by decide) (ro_cons (Or.inl r0) ro_nil) dX6_both_24 (fun u hu => ?_)
          obtain ⟨us2_6, cd2_7⟩ := u
          have g_8 : IE (fac t e 4 (adv s1)) ns us2_6 sl en cd2_7 := hu
          show V x cX6_both RX6 3 (rmU 18 398 0 0) [(h, co 6 (rdL tap e hq (fac t e 4 (adv s1)))), (hq, co 3 [ai wi, ai pa, ai ns, ai us2_6, ar sla, ar ena, ar cda]), (cda, cn 0 100 cd2_7)] 27 [(0, ar h), (1, ai 1), (2, ai k)] [] 0 0
          have hpx := fac_k (t := t) 4 (adv s1) hBa
          have hp2 := hpx.2.1
          have had : (adv s1).1 = s1.1 + 1 := rfl
          have hub3 := g_8.1
          refine v_aload_n (pc := 27) 0 rfl dX6_both_27 ?_
          refine v_get (pc := 28) (v := ar hq) 2 (Or.inr ⟨0, rfl⟩) fl_6_12_6 rfl dX6_both_28 ?_
          refine v_bipush (pc := 31) dX6_both_31 (by decide) ?_
          refine v_callV (pc := 33) [1, 2] [0] [(h, co 6 (rdL tap e hq (fac t e 4 (adv s1))))] (As := [ai (-2)]) (rest := []) (c_X3_addCode hq wi pa ns us2_6 sla ena cda (-2) cd2_7 (by first | omega | assumption)) (c := 3) rfl (Or.inr ⟨1, rfl⟩) wl_X6_88 wi_X3_addCode wv_X3_X3_addCode_X3_addCode wk_X3_addCode wz_X3 md_X3_addCode rfl (Nat.le_of_ble_eq_true rfl) ⟨Nat.le_of_ble_eq_true rfl, Nat.le_of_ble_eq_true rfl, Nat.le_of_ble_eq_true rfl, Nat.le_of_ble_eq_true rfl⟩ rfl rfl rfl rfl (by decide) ro_nil dX6_both_33 (fun u hu => ?_)
          show V x cX6_both RX6 3 (rmU 18 398 0 0) [(h, co 6 (rdL tap e hq (fac t e 4 (adv s1)))), (hq, co 3 [ai wi, ai pa, ai ns, ai (if us2_6 < 100 then us2_6 + 1 else us2_6), ar sla, ar ena, ar cda]), (cda, cn 0 100 (if us2_6 < 100 then aup cd2_7 us2_6 (-2) else cd2_7))] 36 [(0, ar h), (1, ai 1), (2, ai k)] [] 0 0
          refine v_ws (ws2 := [(h, co 6 (rdL tap e hq (emi (-2) (fac t e 4 (adv s1))))), (hq, co 3 [ai wi, ai pa, ai ns, ai (if us2_6 < 100 then us2_6 + 1 else us2_6), ar sla, ar ena, ar cda]), (cda, cn 0 100 (if us2_6 < 100 then aup cd2_7 us2_6 (-2) else cd2_7))]) (by show [(h, co 6 [ar tap, ai e, ar hq, ai ((fac t e 4 (adv s1)).1), ai (flt (fac t e 4 (adv s1)))]), (hq, co 3 [ai wi, ai pa, ai ns, ai (if us2_6 < 100 then us2_6 + 1 else us2_6), ar sla, ar ena, ar cda]), (cda, cn 0 100 (if us2_6 < 100 then aup cd2_7 us2_6 (-2) else cd2_7))] = [(h, co 6 [ar tap, ai e, ar hq, ai ((emi (-2) (fac t e 4 (adv s1))).1), ai (flt (emi (-2) (fac t e 4 (adv s1))))]), (hq, co 3 [ai wi, ai pa, ai ns, ai (if us2_6 < 100 then us2_6 + 1 else us2_6), ar sla, ar ena, ar cda]), (cda, cn 0 100 (if us2_6 < 100 then aup cd2_7 us2_6 (-2) else cd2_7))]; rw [(emi_1 (z := -2) (s := (fac t e 4 (adv s1)))).1, (emi_1 (z := -2) (s := (fac t e 4 (adv s1)))).2.2]) ?_
          refine v_iinc (pc := 36) 2 (L2 := [(2, ai (k + 1)), (0, ar h), (1, ai 1)]) rfl rfl (by decide) dX6_both_36 ?_
          refine v_goto (pc := 39) 7 dX6_both_39 (by decide) ?_
          refine v_sub (L2 := [(0, ar h), (1, ai 1), (2, ai (k + 1))]) [1, 2, 0] rfl ?_
          exact ih _ (by omega) (k + 1) (emi (-2) (fac t e 4 (adv s1))) (if us2_6 < 100 then us2_6 + 1 else us2_6) (if us2_6 < 100 then aup cd2_7 us2_6 (-2) else cd2_7) rfl (by omega) (by rw [← hlp]; exact (lpP_go (by decide) (fac_k (t := t) 4) he.2 hBq (by omega) (by omega)).symm) (by exact PB_emi hpx.1) (by exact IE_code g_8 (by decide) (sl_of hpx (fun z => by show ((s1.2.2.length : Nat) : Int) + 1 ≤ s1.1 + 1; have := (hI1.2 z).2; omega) fac_mono he.2)) (by rw [emi_1.1]; omega)
  refine v_sub (L2 := [(0, ar h), (1, ai 1), (2, ai 0)]) [1, 2, 0] rfl ?_
  exact lp7 _ 0 (fac t e 4 s) us2_1 cd2_2 rfl (by omega) (by rfl) (by exact hp1.1) (by exact g_3) (by have := hp1.2.1; omega)
set_option maxHeartbeats 4000000 in
set_option maxRecDepth 100000 in
theorem c_reit_4 {gS : sG} (h : Nat) (tap : Nat) (e : Int) (hq : Nat) (t : Int → Int) (s : PS) (wi : Int) (pa : Int) (ns : Int) (us : Int) (sla : Nat) (ena : Nat) (cda : Nat) (sl : Int → Int) (en : Int → Int) (cd : Int → Int) (hB : PB e s) (he : 0 ≤ e ∧ e ≤ 100) (htb : ∀ j : Int, 0 ≤ j → j < e → 0 ≤ t j ∧ t j ≤ 127) (hIE : IE s ns us sl en cd) : Ct gS (S := Int × (Int → Int)) yX6_either cX6_either 3 none 19 420 0 0 [ar h, ai 1] [(h, co 6 (rdL tap e hq s)), (hq, co 3 [ai wi, ai pa, ai ns, ai us, ar sla, ar ena, ar cda]), (cda, cn 0 100 cd)] (fun q => q ∈ ([(tap, cn 0 100 t)] : aW)) (fun u => IE (soP t e (fac t e 4) s) ns u.1 sl en u.2) (fun u => none) (fun u => [(h, co 6 (rdL tap e hq (soP t e (fac t e 4) s))), (hq, co 3 [ai wi, ai pa, ai ns, ai u.1, ar sla, ar ena, ar cda]), (cda, cn 0 100 u.2)]) := by
  refine ct_V RX6 [(0, ar h), (1, ai 1)] (by decide) rfl (Nat.le_of_ble_eq_true rfl) rfl (fun x hgS hnm hro hret => ?_)
  subst hgS
  have r0 := hro _ (mem_at 0 rfl)
  obtain ⟨hB1, hB2, hB3⟩ := id hB
  have hfl := flt_c hB
  have hhr := hr_v (t := t) (e := e) (s := s)
  have hub := hIE.1
  show V x cX6_either RX6 3 (rmU 19 420 0 0) [(h, co 6 (rdL tap e hq s)), (hq, co 3 [ai wi, ai pa, ai ns, ai us, ar sla, ar ena, ar cda]), (cda, cn 0 100 cd)] 0 [(0, ar h), (1, ai 1)] [] 0 0
  refine v_aload_n (pc := 0) 0 rfl dX6_either_0 ?_
  refine v_iload_n (pc := 1) 1 rfl dX6_either_1 ?_
  refine v_callV (pc := 2) [0, 1, 2] [] [] (As := [ai 1]) (rest := []) (c_rbth_4 h tap e hq t s wi pa ns us sla ena cda sl en cd (by assumption) (by first | omega | assumption) (by assumption) (by assumption)) (c := 6) rfl (Or.inr ⟨0, rfl⟩) wl_X6_85 wi_X6_both wv_X6_X6_both_X6_both wk_X6_both wz_X6 md_X6_both rfl (Nat.le_of_ble_eq_true rfl) ⟨Nat.le_of_ble_eq_true rfl, Nat.le_of_ble_eq_true rfl, Nat.le_of_ble_eq_true rfl, Nat.le_of_ble_eq_true rfl⟩ rfl rfl rfl rfl (by decide) (ro_cons (Or.inl r0) ro_nil) dX6_either_2 (fun u hu => ?_)
  obtain ⟨us2_1, cd2_2⟩ := u
  have g_3 : IE (evP t e (fac t e 4) s) ns us2_1 sl en cd2_2 := hu
  show V x cX6_either RX6 3 (rmU 19 420 0 0) [(h, co 6 (rdL tap e hq (evP t e (fac t e 4) s))), (hq, co 3 [ai wi, ai pa, ai ns, ai us2_1, ar sla, ar ena, ar cda]), (cda, cn 0 100 cd2_2)] 5 [(0, ar h), (1, ai 1)] [] 0 0
  have hp1 := evP_k (t := t) (fac_k (t := t) 4) s hB
  refine v_iconst (pc := 5) dX6_either_5 ?_
  refine v_istore_n (pc := 6) (L2 := [(2, ai 0), (0, ar h), (1, ai 1)]) rfl (by decide) dX6_either_6 ?_
  have lp7 : ∀ (mm : Nat) (k : Int) (s1 : PS) (us1 : Int) (cd1 : Int → Int), (100 - k).toNat = mm → (0 ≤ k ∧ k ≤ 100) → (lpP t e 124 (-3) (evP t e (fac t e 4)) 101 s1 = soP t e (fac t e 4) s) → (PB e s1) → (IE s1 ns us1 sl en cd1) → (k ≤ s1.1) → V x cX6_either RX6 3 (rmU 19 420 0 0) [(h, co 6 (rdL tap e hq s1)), (hq, co 3 [ai wi, ai pa, ai ns, ai us1, ar sla, ar ena, ar cda]), (cda, cn 0 100 cd1)] 7 [(0, ar h), (1, ai 1), (2, ai k)] [] 0 0 := by
    intro mm
    induction mm using Nat.strongRecOn with
    | _ mm ih =>
      intro k s1 us1 cd1 hmm hk hlp hBq hI1 hks
      obtain ⟨hQ1, hQ2, hQ3⟩ := id hBq
      have hfl1 := flt_c hBq
      have hhr1 := hr_v (t := t) (e := e) (s := s1)
      have hub1 := hI1.1
      refine v_iload_n (pc := 7) 2 rfl dX6_either_7 ?_
      refine v_bipush (pc := 8) dX6_either_8 (by decide) ?_
      refine v_icmp_ge (pc := 10) 42 dX6_either_10 (by decide) (by unfold iB; omega) (by unfold iB; omega) (fun c_4 => ?_) (fun c_4 => ?_)
      · skip
        have he1 : soP t e (fac t e 4) s = s1 := hlp.symm.trans (lpP_st (by omega))
        refine v_ws (ws2 := [(h, co 6 (rdL tap e hq (soP t e (fac t e 4) s))), (hq, co 3 [ai wi, ai pa, ai ns, ai us1, ar sla, ar ena, ar cda]), (cda, cn 0 100 cd1)]) (by rw [he1]) ?_
        exact hret (us1, cd1) _ _ _ _ _ (by rw [he1]; exact hI1) rfl rfl (Nat.le_of_ble_eq_true rfl) (Nat.le_of_ble_eq_true rfl) dX6_either_42
      · skip
        refine v_aload_n (pc := 13) 0 rfl dX6_either_13 ?_
        refine v_bipush (pc := 14) dX6_either_14 (by decide) ?_
        refine v_callV (pc := 16) [0] [1, 2] [(hq, co 3 [ai wi, ai pa, ai ns, ai us1, ar sla, ar ena, ar cda]), (cda, cn 0 100 cd1)] (As := [ai 124]) (rest := []) (c_X6_takes h tap e hq t s1 124 (by exact hBq) (by first | omega | assumption) (by assumption) (by first | omega | assumption)) (c := 6) rfl (Or.inr ⟨0, rfl⟩) wl_X6_38 wi_X6_takes wv_X6_X6_takes_X6_takes wk_X6_takes wz_X6 md_X6_takes rfl (Nat.le_of_ble_eq_true rfl) ⟨Nat.le_of_ble_eq_true rfl, Nat.le_of_ble_eq_true rfl, Nat.le_of_ble_eq_true rfl, Nat.le_of_ble_eq_true rfl⟩ rfl rfl rfl rfl (by decide) (ro_cons (Or.inl r0) ro_nil) dX6_either_16 (fun u hu => ?_)
        show V x cX6_either RX6 3 (rmU 19 420 0 0) [(hq, co 3 [ai wi, ai pa, ai ns, ai us1, ar sla, ar ena, ar cda]), (cda, cn 0 100 cd1), (h, co 6 (rdL tap e hq (tkS t e 124 s1)))] 19 [(0, ar h), (1, ai 1), (2, ai k)] [ai (if s1.2.1 = 0 ∧ hr t e s1 = 124 then 1 else 0)] 0 0
        refine v_ifb_eq (pc := 19) 42 dX6_either_19 (by decide) (fun c_5 => ?_) (fun c_5 => ?_)
        · skip
          have hk : tkS t e 124 s1 = s1 := if_neg (by omega)
          refine v_ws (ws2 := [(hq, co 3 [ai wi, ai pa, ai ns, ai us1, ar sla, ar ena, ar cda]), (cda, cn 0 100 cd1), (h, co 6 (rdL tap e hq s1))]) (by rw [hk]) ?_
          have he1 : soP t e (fac t e 4) s = s1 := hlp.symm.trans (lpP_st (by omega))
          refine v_ws (ws2 := [(hq, co 3 [ai wi, ai pa, ai ns, ai us1, ar sla, ar ena, ar cda]), (cda, cn 0 100 cd1), (h, co 6 (rdL tap e hq (soP t e (fac t e 4) s)))]) (by rw [he1]) ?_
          refine v_wsub (ws2 := [(h, co 6 (rdL tap e hq (soP t e (fac t e 4) s))), (hq, co 3 [ai wi, ai pa, ai ns, ai us1, ar sla, ar ena, ar cda]), (cda, cn 0 100 cd1)]) [2, 0, 1] rfl rfl ?_
          exact hret (us1, cd1) _ _ _ _ _ (by rw [he1]; exact hI1) rfl rfl (Nat.le_of_ble_eq_true rfl) (Nat.le_of_ble_eq_true rfl) dX6_either_42
        · skip
          have hk : tkS t e 124 s1 = adv s1 := if_pos (by omega)
          refine v_ws (ws2 := [(hq, co 3 [ai wi, ai pa, ai ns, ai us1, ar sla, ar ena, ar cda]), (cda, cn 0 100 cd1), (h, co 6 (rdL tap e hq (adv s1)))]) (by rw [hk]) ?_
          have hBa := (adv_k hBq (by omega)).1
          have hma := Mv_adv hBq (show s1.1 < e by omega)
          refine v_aload_n (pc := 22) 0 rfl dX6_either_22 ?_
          refine v_iload_n (pc := 23) 1 rfl dX6_either_23 ?_
          refine v_callV (pc := 24) [2, 0, 1] [] [] (As := [ai 1]) (rest := []) (c_rbth_4 h tap e hq t (adv s1) wi pa ns us1 sla ena cda sl en cd1 (by exact hBa) (by first | omega | assumption) (by assumption) (by exact IE_mv hI1 hma)) (c := 6) rfl (Or.inr ⟨2, rfl⟩) wl_X6_85 wi_X6_both wv_X6_X6_both_X6_both wk_X6_both wz_X6 md_X6_both rfl (Nat.le_of_ble_eq_true rfl) ⟨Nat.le_of_ble_eq_true rfl, Nat.le_of_ble_eq_true rfl, Nat.le_of_ble_eq_true rfl, Nat.le_of_ble_eq_true rfl⟩ rfl rfl rfl rfl (by decide) (ro_cons (Or.inl r0) ro_nil) dX6_either_24 (fun u hu => ?_)
          obtain ⟨us2_6, cd2_7⟩ := u
          have g_8 : IE (evP t e (fac t e 4) (adv s1)) ns us2_6 sl en cd2_7 := hu
          show V x cX6_either RX6 3 (rmU 19 420 0 0) [(h, co 6 (rdL tap e hq (evP t e (fac t e 4) (adv s1)))), (hq, co 3 [ai wi, ai pa, ai ns, ai us2_6, ar sla, ar ena, ar cda]), (cda, cn 0 100 cd2_7)] 27 [(0, ar h), (1, ai 1), (2, ai k)] [] 0 0
          have hpx := evP_k (t := t) (fac_k (t := t) 4) (adv s1) hBa
          have hp2 := hpx.2.1
          have had : (adv s1).1 = s1.1 + 1 := rfl
          have hub3 := g_8.1
          refine v_aload_n (pc := 27) 0 rfl dX6_either_27 ?_
          refine v_get (pc := 28) (v := ar hq) 2 (Or.inr ⟨0, rfl⟩) fl_6_12_6 rfl dX6_either_28 ?_
          refine v_bipush (pc := 31) dX6_either_31 (by decide) ?_
          refine v_callV (pc := 33) [1, 2] [0] [(h, co 6 (rdL tap e hq (evP t e (fac t e 4) (adv s1))))] (As := [ai (-3)]) (rest := []) (c_X3_addCode hq wi pa ns us2_6 sla ena cda (-3) cd2_7 (by first | omega | assumption)) (c := 3) rfl (Or.inr ⟨1, rfl⟩) wl_X6_88 wi_X3_addCode wv_X3_X3_addCode_X3_addCode wk_X3_addCode wz_X3 md_X3_addCode rfl (Nat.le_of_ble_eq_true rfl) ⟨Nat.le_of_ble_eq_true rfl, Nat.le_of_ble_eq_true rfl, Nat.le_of_ble_eq_true rfl, Nat.le_of_ble_eq_true rfl⟩ rfl rfl rfl rfl (by decide) ro_nil dX6_either_33 (fun u hu => ?_)
          show V x cX6_either RX6 3 (rmU 19 420 0 0) [(h, co 6 (rdL tap e hq (evP t e (fac t e 4) (adv s1)))), (hq, co 3 [ai wi, ai pa, ai ns, ai (if us2_6 < 100 then us2_6 + 1 else us2_6), ar sla, ar ena, ar cda]), (cda, cn 0 100 (if us2_6 < 100 then aup cd2_7 us2_6 (-3) else cd2_7))] 36 [(0, ar h), (1, ai 1), (2, ai k)] [] 0 0
          refine v_ws (ws2 := [(h, co 6 (rdL tap e hq (emi (-3) (evP t e (fac t e 4) (adv s1))))), (hq, co 3 [ai wi, ai pa, ai ns, ai (if us2_6 < 100 then us2_6 + 1 else us2_6), ar sla, ar ena, ar cda]), (cda, cn 0 100 (if us2_6 < 100 then aup cd2_7 us2_6 (-3) else cd2_7))]) (by show [(h, co 6 [ar tap, ai e, ar hq, ai ((evP t e (fac t e 4) (adv s1)).1), ai (flt (evP t e (fac t e 4) (adv s1)))]), (hq, co 3 [ai wi, ai pa, ai ns, ai (if us2_6 < 100 then us2_6 + 1 else us2_6), ar sla, ar ena, ar cda]), (cda, cn 0 100 (if us2_6 < 100 then aup cd2_7 us2_6 (-3) else cd2_7))] = [(h, co 6 [ar tap, ai e, ar hq, ai ((emi (-3) (evP t e (fac t e 4) (adv s1))).1), ai (flt (emi (-3) (evP t e (fac t e 4) (adv s1))))]), (hq, co 3 [ai wi, ai pa, ai ns, ai (if us2_6 < 100 then us2_6 + 1 else us2_6), ar sla, ar ena, ar cda]), (cda, cn 0 100 (if us2_6 < 100 then aup cd2_7 us2_6 (-3) else cd2_7))]; rw [(emi_1 (z := -3) (s := (evP t e (fac t e 4) (adv s1)))).1, (emi_1 (z := -3) (s := (evP t e (fac t e 4) (adv s1)))).2.2]) ?_
          refine v_iinc (pc := 36) 2 (L2 := [(2, ai (k + 1)), (0, ar h), (1, ai 1)]) rfl rfl (by decide) dX6_either_36 ?_
          refine v_goto (pc := 39) 7 dX6_either_39 (by decide) ?_
          refine v_sub (L2 := [(0, ar h), (1, ai 1), (2, ai (k + 1))]) [1, 2, 0] rfl ?_
          exact ih _ (by omega) (k + 1) (emi (-3) (evP t e (fac t e 4) (adv s1))) (if us2_6 < 100 then us2_6 + 1 else us2_6) (if us2_6 < 100 then aup cd2_7 us2_6 (-3) else cd2_7) rfl (by omega) (by rw [← hlp]; exact (lpP_go (by decide) (evP_k (t := t) (fac_k (t := t) 4)) he.2 hBq (by omega) (by omega)).symm) (by exact PB_emi hpx.1) (by exact IE_code g_8 (by decide) (sl_of hpx (fun z => by show ((s1.2.2.length : Nat) : Int) + 1 ≤ s1.1 + 1; have := (hI1.2 z).2; omega) evP_mono he.2)) (by rw [emi_1.1]; omega)
  refine v_sub (L2 := [(0, ar h), (1, ai 1), (2, ai 0)]) [1, 2, 0] rfl ?_
  exact lp7 _ 0 (evP t e (fac t e 4) s) us2_1 cd2_2 rfl (by omega) (by rfl) (by exact hp1.1) (by exact g_3) (by have := hp1.2.1; omega)
set_option maxHeartbeats 4000000 in
set_option maxRecDepth 100000 in
theorem c_rfac_5 {gS : sG} (h : Nat) (tap : Nat) (e : Int) (hq : Nat) (t : Int → Int) (s : PS) (wi : Int) (pa : Int) (ns : Int) (us : Int) (sla : Nat) (ena : Nat) (cda : Nat) (sl : Int → Int) (en : Int → Int) (cd : Int → Int) (hB : PB e s) (he : 0 ≤ e ∧ e ≤ 100) (htb : ∀ j : Int, 0 ≤ j → j < e → 0 ≤ t j ∧ t j ≤ 127) (hIE : IE s ns us sl en cd) : Ct gS (S := Int × (Int → Int)) yX6_factor cX6_factor 4 none 20 442 0 0 [ar h, ai 0] [(h, co 6 (rdL tap e hq s)), (hq, co 3 [ai wi, ai pa, ai ns, ai us, ar sla, ar ena, ar cda]), (cda, cn 0 100 cd)] (fun q => q ∈ ([(tap, cn 0 100 t)] : aW)) (fun u => IE (fac t e 5 s) ns u.1 sl en u.2) (fun u => none) (fun u => [(h, co 6 (rdL tap e hq (fac t e 5 s))), (hq, co 3 [ai wi, ai pa, ai ns, ai u.1, ar sla, ar ena, ar cda]), (cda, cn 0 100 u.2)]) := by
  refine ct_V RX6 [(0, ar h), (1, ai 0)] (by decide) rfl (Nat.le_of_ble_eq_true rfl) rfl (fun x hgS hnm hro hret => ?_)
  subst hgS
  have r0 := hro _ (mem_at 0 rfl)
  obtain ⟨hB1, hB2, hB3⟩ := id hB
  have hfl := flt_c hB
  have hhr := hr_v (t := t) (e := e) (s := s)
  have hub := hIE.1
  show V x cX6_factor RX6 4 (rmU 20 442 0 0) [(h, co 6 (rdL tap e hq s)), (hq, co 3 [ai wi, ai pa, ai ns, ai us, ar sla, ar ena, ar cda]), (cda, cn 0 100 cd)] 0 [(0, ar h), (1, ai 0)] [] 0 0
  refine v_iload_n (pc := 0) 1 rfl dX6_factor_0 ?_
  refine v_iconst (pc := 1) dX6_factor_1 ?_
  refine v_icmp_ge (pc := 2) 32 dX6_factor_2 (by decide) (by unfold iB; omega) (by unfold iB; omega) (fun c_1 => by exfalso; omega) (fun c_1 => ?_)
  refine v_aload_n (pc := 5) 0 rfl dX6_factor_5 ?_
  refine v_bipush (pc := 6) dX6_factor_6 (by decide) ?_
  refine v_callV (pc := 8) [0] [1, 2] [(hq, co 3 [ai wi, ai pa, ai ns, ai us, ar sla, ar ena, ar cda]), (cda, cn 0 100 cd)] (As := [ai 33]) (rest := []) (c_X6_takes h tap e hq t s 33 (by assumption) (by first | omega | assumption) (by assumption) (by first | omega | assumption)) (c := 6) rfl (Or.inr ⟨0, rfl⟩) wl_X6_38 wi_X6_takes wv_X6_X6_takes_X6_takes wk_X6_takes wz_X6 md_X6_takes rfl (Nat.le_of_ble_eq_true rfl) ⟨Nat.le_of_ble_eq_true rfl, Nat.le_of_ble_eq_true rfl, Nat.le_of_ble_eq_true rfl, Nat.le_of_ble_eq_true rfl⟩ rfl rfl rfl rfl (by decide) (ro_cons (Or.inl r0) ro_nil) dX6_factor_8 (fun u hu => ?_)
  show V x cX6_factor RX6 4 (rmU 20 442 0 0) [(hq, co 3 [ai wi, ai pa, ai ns, ai us, ar sla, ar ena, ar cda]), (cda, cn 0 100 cd), (h, co 6 (rdL tap e hq (tkS t e 33 s)))] 11 [(0, ar h), (1, ai 0)] [ai (if s.2.1 = 0 ∧ hr t e s = 33 then 1 else 0)] 0 0
  refine v_ifb_eq (pc := 11) 32 dX6_factor_11 (by decide) (fun c_2 => ?_) (fun c_2 => ?_)
  · skip
    have hk : tkS t e 33 s = s := if_neg (by omega)
    refine v_ws (ws2 := [(hq, co 3 [ai wi, ai pa, ai ns, ai us, ar sla, ar ena, ar cda]), (cda, cn 0 100 cd), (h, co 6 (rdL tap e hq s))]) (by rw [hk]) ?_
    refine v_iload_n (pc := 32) 1 rfl dX6_factor_32 ?_
    refine v_iconst (pc := 33) dX6_factor_33 ?_
    refine v_icmp_ge (pc := 34) 62 dX6_factor_34 (by decide) (by unfold iB; omega) (by unfold iB; omega) (fun c_3 => by exfalso; omega) (fun c_3 => ?_)
    refine v_aload_n (pc := 37) 0 rfl dX6_factor_37 ?_
    refine v_bipush (pc := 38) dX6_factor_38 (by decide) ?_
    refine v_callV (pc := 40) [2] [0, 1] [(hq, co 3 [ai wi, ai pa, ai ns, ai us, ar sla, ar ena, ar cda]), (cda, cn 0 100 cd)] (As := [ai 40]) (rest := []) (c_X6_takes h tap e hq t s 40 (by assumption) (by first | omega | assumption) (by assumption) (by first | omega | assumption)) (c := 6) rfl (Or.inr ⟨2, rfl⟩) wl_X6_38 wi_X6_takes wv_X6_X6_takes_X6_takes wk_X6_takes wz_X6 md_X6_takes rfl (Nat.le_of_ble_eq_true rfl) ⟨Nat.le_of_ble_eq_true rfl, Nat.le_of_ble_eq_true rfl, Nat.le_of_ble_eq_true rfl, Nat.le_of_ble_eq_true rfl⟩ rfl rfl rfl rfl (by decide) (ro_cons (Or.inl r0) ro_nil) dX6_factor_40 (fun u hu => ?_)
    show V x cX6_factor RX6 4 (rmU 20 442 0 0) [(hq, co 3 [ai wi, ai pa, ai ns, ai us, ar sla, ar ena, ar cda]), (cda, cn 0 100 cd), (h, co 6 (rdL tap e hq (tkS t e 40 s)))] 43 [(0, ar h), (1, ai 0)] [ai (if s.2.1 = 0 ∧ hr t e s = 40 then 1 else 0)] 0 0
    refine v_ifb_eq (pc := 43) 62 dX6_factor_43 (by decide) (fun c_4 => ?_) (fun c_4 => ?_)
    · skip
      have hk : tkS t e 40 s = s := if_neg (by omega)
      refine v_ws (ws2 := [(hq, co 3 [ai wi, ai pa, ai ns, ai us, ar sla, ar ena, ar cda]), (cda, cn 0 100 cd), (h, co 6 (rdL tap e hq s))]) (by rw [hk]) ?_
      refine v_aload_n (pc := 62) 0 rfl dX6_factor_62 ?_
      refine v_ldcS (pc := 63) (q := ("MatFlip$Reader", 96, "pkngsy", 7)) (List.mem_of_getElem? (i := 7) rfl) rfl dX6_factor_63 ?_
      refine v_callV (pc := 65) [2] [0, 1] [(hq, co 3 [ai wi, ai pa, ai ns, ai us, ar sla, ar ena, ar cda]), (cda, cn 0 100 cd)] (As := [ar (lK (xg x) 7)]) (rest := []) (c_X6_takesOneOf h tap e hq t s 7 (by assumption) (by first | omega | assumption) (by assumption) (by decide)) (c := 6) rfl (Or.inr ⟨2, rfl⟩) wl_X6_50 wi_X6_takesOneOf wv_X6_X6_takesOneOf_X6_takesOneOf wk_X6_takesOneOf wz_X6 md_X6_takesOneOf rfl (Nat.le_of_ble_eq_true rfl) ⟨Nat.le_of_ble_eq_true rfl, Nat.le_of_ble_eq_true rfl, Nat.le_of_ble_eq_true rfl, Nat.le_of_ble_eq_true rfl⟩ rfl rfl rfl rfl (by decide) (ro_cons (Or.inl r0) ro_nil) dX6_factor_65 (fun u hu => ?_)
      show V x cX6_factor RX6 4 (rmU 20 442 0 0) [(hq, co 3 [ai wi, ai pa, ai ns, ai us, ar sla, ar ena, ar cda]), (cda, cn 0 100 cd), (h, co 6 (rdL tap e hq ((to1 t e 7 s).2)))] 68 [(0, ar h), (1, ai 0)] [ai ((to1 t e 7 s).1)] 0 0
      have hm7 := Mv_to1 (t := t) (e := e) (i := 7) (by decide) hB
      refine v_istore_n (pc := 68) (L2 := [(2, ai ((to1 t e 7 s).1)), (0, ar h), (1, ai 0)]) rfl (by decide) dX6_factor_68 ?_
      refine v_aload_n (pc := 69) 1 rfl dX6_factor_69 ?_
      refine v_ldcS (pc := 70) (q := ("MatFlip$Reader", 98, "<=>", 8)) (List.mem_of_getElem? (i := 8) rfl) rfl dX6_factor_70 ?_
      refine v_callV (pc := 72) [2] [0, 1] [(hq, co 3 [ai wi, ai pa, ai ns, ai us, ar sla, ar ena, ar cda]), (cda, cn 0 100 cd)] (As := [ar (lK (xg x) 8)]) (rest := []) (c_X6_takesOneOf h tap e hq t ((to1 t e 7 s).2) 8 (by exact hm7.1) (by first | omega | assumption) (by assumption) (by decide)) (c := 6) rfl (Or.inr ⟨2, rfl⟩) wl_X6_50 wi_X6_takesOneOf wv_X6_X6_takesOneOf_X6_takesOneOf wk_X6_takesOneOf wz_X6 md_X6_takesOneOf rfl (Nat.le_of_ble_eq_true rfl) ⟨Nat.le_of_ble_eq_true rfl, Nat.le_of_ble_eq_true rfl, Nat.le_of_ble_eq_true rfl, Nat.le_of_ble_eq_true rfl⟩ rfl rfl rfl rfl (by decide) (ro_cons (Or.inl r0) ro_nil) dX6_factor_72 (fun u hu => ?_)
      show V x cX6_factor RX6 4 (rmU 20 442 0 0) [(hq, co 3 [ai wi, ai pa, ai ns, ai us, ar sla, ar ena, ar cda]), (cda, cn 0 100 cd), (h, co 6 (rdL tap e hq ((to1 t e 8 ((to1 t e 7 s).2)).2)))] 75 [(2, ai ((to1 t e 7 s).1)), (0, ar h), (1, ai 0)] [ai ((to1 t e 8 ((to1 t e 7 s).2)).1)] 0 0
      have hm8 := Mv_to1 (t := t) (e := e) (i := 8) (by decide) hm7.1
      refine v_istore_n (pc := 75) (L2 := [(3, ai ((to1 t e 8 ((to1 t e 7 s).2)).1)), (2, ai ((to1 t e 7 s).1)), (0, ar h), (1, ai 0)]) rfl (by decide) dX6_factor_75 ?_
      refine v_aload_n (pc := 76) 2 rfl dX6_factor_76 ?_
      refine v_get (pc := 77) (v := ar hq) 2 (Or.inr ⟨2, rfl⟩) fl_6_12_6 rfl dX6_factor_77 ?_
      refine v_iload_n (pc := 80) 1 rfl dX6_factor_80 ?_
      refine v_iload_n (pc := 81) 0 rfl dX6_factor_81 ?_
      refine v_aload_n (pc := 82) 2 rfl dX6_factor_82 ?_
      refine v_callV (pc := 83) [2] [0, 1] [(hq, co 3 [ai wi, ai pa, ai ns, ai us, ar sla, ar ena, ar cda]), (cda, cn 0 100 cd)] (As := []) (rest := [ai ((to1 t e 8 ((to1 t e 7 s).2)).1), ai ((to1 t e 7 s).1), ar hq]) (c_X6_number h tap e hq t ((to1 t e 8 ((to1 t e 7 s).2)).2) (by exact hm8.1) (by first | omega | assumption) (by assumption)) (c := 6) rfl (Or.inr ⟨2, rfl⟩) wl_X6_66 wi_X6_number wv_X6_X6_number_X6_number wk_X6_number wz_X6 md_X6_number rfl (Nat.le_of_ble_eq_true rfl) ⟨Nat.le_of_ble_eq_true rfl, Nat.le_of_ble_eq_true rfl, Nat.le_of_ble_eq_true rfl, Nat.le_of_ble_eq_true rfl⟩ rfl rfl rfl rfl (by decide) (ro_cons (Or.inl r0) ro_nil) dX6_factor_83 (fun u hu => ?_)
      show V x cX6_factor RX6 4 (rmU 20 442 0 0) [(hq, co 3 [ai wi, ai pa, ai ns, ai us, ar sla, ar ena, ar cda]), (cda, cn 0 100 cd), (h, co 6 (rdL tap e hq ((fig t e ((to1 t e 8 ((to1 t e 7 s).2)).2)).2)))] 86 [(3, ai ((to1 t e 8 ((to1 t e 7 s).2)).1)), (2, ai ((to1 t e 7 s).1)), (0, ar h), (1, ai 0)] [ai ((fig t e ((to1 t e 8 ((to1 t e 7 s).2)).2)).1), ai ((to1 t e 8 ((to1 t e 7 s).2)).1), ai ((to1 t e 7 s).1), ar hq] 0 0
      refine v_callV (pc := 86) [0, 1] [2] [(h, co 6 (rdL tap e hq ((fig t e ((to1 t e 8 ((to1 t e 7 s).2)).2)).2)))] (As := [ai ((to1 t e 7 s).1), ai ((to1 t e 8 ((to1 t e 7 s).2)).1), ai ((fig t e ((to1 t e 8 ((to1 t e 7 s).2)).2)).1)]) (rest := []) (c_X3_addTest hq wi pa ns us sla ena cda ((to1 t e 7 s).1) ((to1 t e 8 ((to1 t e 7 s).2)).1) ((fig t e ((to1 t e 8 ((to1 t e 7 s).2)).2)).1) cd (by first | omega | assumption)) (c := 3) rfl (Or.inr ⟨0, rfl⟩) wl_X6_100 wi_X3_addTest wv_X3_X3_addTest_X3_addTest wk_X3_addTest wz_X3 md_X3_addTest rfl (Nat.le_of_ble_eq_true rfl) ⟨Nat.le_of_ble_eq_true rfl, Nat.le_of_ble_eq_true rfl, Nat.le_of_ble_eq_true rfl, Nat.le_of_ble_eq_true rfl⟩ rfl rfl rfl rfl (by decide) ro_nil dX6_factor_86 (fun u hu => ?_)
      show V x cX6_factor RX6 4 (rmU 20 442 0 0) [(h, co 6 (rdL tap e hq ((fig t e ((to1 t e 8 ((to1 t e 7 s).2)).2)).2))), (hq, co 3 [ai wi, ai pa, ai ns, ai (if us < 100 then us + 1 else us), ar sla, ar ena, ar cda]), (cda, cn 0 100 (if us < 100 then aup cd us ((((to1 t e 7 s).1) * 3 + ((to1 t e 8 ((to1 t e 7 s).2)).1)) * 100 + ((fig t e ((to1 t e 8 ((to1 t e 7 s).2)).2)).1)) else cd))] 89 [(3, ai ((to1 t e 8 ((to1 t e 7 s).2)).1)), (2, ai ((to1 t e 7 s).1)), (0, ar h), (1, ai 0)] [] 0 0
      refine v_ws (ws2 := [(h, co 6 (rdL tap e hq (tsS t e s))), (hq, co 3 [ai wi, ai pa, ai ns, ai (if us < 100 then us + 1 else us), ar sla, ar ena, ar cda]), (cda, cn 0 100 (if us < 100 then aup cd us ((((to1 t e 7 s).1) * 3 + ((to1 t e 8 ((to1 t e 7 s).2)).1)) * 100 + ((fig t e ((to1 t e 8 ((to1 t e 7 s).2)).2)).1)) else cd))]) (by rfl) ?_
      refine v_ws (ws2 := [(h, co 6 (rdL tap e hq (emi (tsZ t e s) (tsS t e s)))), (hq, co 3 [ai wi, ai pa, ai ns, ai (if us < 100 then us + 1 else us), ar sla, ar ena, ar cda]), (cda, cn 0 100 (if us < 100 then aup cd us ((((to1 t e 7 s).1) * 3 + ((to1 t e 8 ((to1 t e 7 s).2)).1)) * 100 + ((fig t e ((to1 t e 8 ((to1 t e 7 s).2)).2)).1)) else cd))]) (by show [(h, co 6 [ar tap, ai e, ar hq, ai ((tsS t e s).1), ai (flt (tsS t e s))]), (hq, co 3 [ai wi, ai pa, ai ns, ai (if us < 100 then us + 1 else us), ar sla, ar ena, ar cda]), (cda, cn 0 100 (if us < 100 then aup cd us ((((to1 t e 7 s).1) * 3 + ((to1 t e 8 ((to1 t e 7 s).2)).1)) * 100 + ((fig t e ((to1 t e 8 ((to1 t e 7 s).2)).2)).1)) else cd))] = [(h, co 6 [ar tap, ai e, ar hq, ai ((emi (tsZ t e s) (tsS t e s)).1), ai (flt (emi (tsZ t e s) (tsS t e s)))]), (hq, co 3 [ai wi, ai pa, ai ns, ai (if us < 100 then us + 1 else us), ar sla, ar ena, ar cda]), (cda, cn 0 100 (if us < 100 then aup cd us ((((to1 t e 7 s).1) * 3 + ((to1 t e 8 ((to1 t e 7 s).2)).1)) * 100 + ((fig t e ((to1 t e 8 ((to1 t e 7 s).2)).2)).1)) else cd))]; rw [(emi_1 (z := (tsZ t e s)) (s := (tsS t e s))).1, (emi_1 (z := (tsZ t e s)) (s := (tsS t e s))).2.2]) ?_
      have hfc : fac t e 5 s = emi (tsZ t e s) (tsS t e s) := fac_cl hB (Or.inr (by omega))
      refine v_ws (ws2 := [(h, co 6 (rdL tap e hq (fac t e 5 s))), (hq, co 3 [ai wi, ai pa, ai ns, ai (if us < 100 then us + 1 else us), ar sla, ar ena, ar cda]), (cda, cn 0 100 (if us < 100 then aup cd us ((((to1 t e 7 s).1) * 3 + ((to1 t e 8 ((to1 t e 7 s).2)).1)) * 100 + ((fig t e ((to1 t e 8 ((to1 t e 7 s).2)).2)).1)) else cd))]) (by rw [hfc]) ?_
      have hen := enc_ts (t := t) (e := e) (s := s)
      have hie := IE_code (z := tsZ t e s) (IE_mv hIE (Mv_tsS (t := t) hB)) (by omega) (tsS_sl hB he.2 (fun z => (hIE.2 z).2))
      rw [hen.1] at hie
      exact hret ((if us < 100 then us + 1 else us), (if us < 100 then aup cd us ((((to1 t e 7 s).1) * 3 + ((to1 t e 8 ((to1 t e 7 s).2)).1)) * 100 + ((fig t e ((to1 t e 8 ((to1 t e 7 s).2)).2)).1)) else cd)) _ _ _ _ _ (by rw [hfc]; exact hie) rfl rfl (Nat.le_of_ble_eq_true rfl) (Nat.le_of_ble_eq_true rfl) dX6_factor_89
    · skip
      have hk : tkS t e 40 s = adv s := if_pos (by omega)
      refine v_ws (ws2 := [(hq, co 3 [ai wi, ai pa, ai ns, ai us, ar sla, ar ena, ar cda]), (cda, cn 0 100 cd), (h, co 6 (rdL tap e hq (adv s)))]) (by rw [hk]) ?_
      have hBa := (adv_k hB (by omega)).1
      have hma := Mv_adv hB (show s.1 < e by omega)
      refine v_aload_n (pc := 46) 0 rfl dX6_factor_46 ?_
      refine v_iload_n (pc := 47) 1 rfl dX6_factor_47 ?_
      refine v_iconst (pc := 48) dX6_factor_48 ?_
      refine v_iadd (pc := 49) dX6_factor_49 ?_
      refine v_callV (pc := 50) [2, 0, 1] [] [] (As := [ai 1]) (rest := []) (c_reit_4 h tap e hq t (adv s) wi pa ns us sla ena cda sl en cd (by exact hBa) (by first | omega | assumption) (by assumption) (by exact IE_mv hIE hma)) (c := 6) rfl (Or.inr ⟨2, rfl⟩) wl_X6_78 wi_X6_either wv_X6_X6_either_X6_either wk_X6_either wz_X6 md_X6_either rfl (Nat.le_of_ble_eq_true rfl) ⟨Nat.le_of_ble_eq_true rfl, Nat.le_of_ble_eq_true rfl, Nat.le_of_ble_eq_true rfl, Nat.le_of_ble_eq_true rfl⟩ rfl rfl rfl rfl (by decide) (ro_cons (Or.inl r0) ro_nil) dX6_factor_50 (fun u hu => ?_)
      obtain ⟨us2_5, cd2_6⟩ := u
      have g_7 : IE (soP t e (fac t e 4) (adv s)) ns us2_5 sl en cd2_6 := hu
      show V x cX6_factor RX6 4 (rmU 20 442 0 0) [(h, co 6 (rdL tap e hq (soP t e (fac t e 4) (adv s)))), (hq, co 3 [ai wi, ai pa, ai ns, ai us2_5, ar sla, ar ena, ar cda]), (cda, cn 0 100 cd2_6)] 53 [(0, ar h), (1, ai 0)] [] 0 0
      have hBx := (soP_k (t := t) (fac_k (t := t) 4) (adv s) hBa).1
      refine v_aload_n (pc := 53) 0 rfl dX6_factor_53 ?_
      refine v_ldcS (pc := 54) (q := ("MatFlip$Reader", 94, ")", 6)) (List.mem_of_getElem? (i := 6) rfl) rfl dX6_factor_54 ?_
      refine v_callV (pc := 56) [0] [1, 2] [(hq, co 3 [ai wi, ai pa, ai ns, ai us2_5, ar sla, ar ena, ar cda]), (cda, cn 0 100 cd2_6)] (As := [ar (lK (xg x) 6)]) (rest := []) (c_X6_needs h tap e hq t (soP t e (fac t e 4) (adv s)) 6 (by exact hBx) (by first | omega | assumption) (by assumption) (by decide)) (c := 6) rfl (Or.inr ⟨0, rfl⟩) wl_X6_62 wi_X6_needs wv_X6_X6_needs_X6_needs wk_X6_needs wz_X6 md_X6_needs rfl (Nat.le_of_ble_eq_true rfl) ⟨Nat.le_of_ble_eq_true rfl, Nat.le_of_ble_eq_true rfl, Nat.le_of_ble_eq_true rfl, Nat.le_of_ble_eq_true rfl⟩ rfl rfl rfl rfl (by decide) (ro_cons (Or.inl r0) ro_nil) dX6_factor_56 (fun u hu => ?_)
      show V x cX6_factor RX6 4 (rmU 20 442 0 0) [(hq, co 3 [ai wi, ai pa, ai ns, ai us2_5, ar sla, ar ena, ar cda]), (cda, cn 0 100 cd2_6), (h, co 6 (rdL tap e hq (spl t e 6 (lenS 6).toNat (soP t e (fac t e 4) (adv s)))))] 59 [(0, ar h), (1, ai 0)] [] 0 0
      have hfc : fac t e 5 s = mstP t e 41 (soP t e (fac t e 4) (adv s)) := fac_br (by omega) (by omega)
      have hs1 : spl t e 6 (lenS 6).toNat (soP t e (fac t e 4) (adv s)) = mstP t e 41 (soP t e (fac t e 4) (adv s)) := spl_l1 (by decide) (by decide)
      refine v_ws (ws2 := [(hq, co 3 [ai wi, ai pa, ai ns, ai us2_5, ar sla, ar ena, ar cda]), (cda, cn 0 100 cd2_6), (h, co 6 (rdL tap e hq (fac t e 5 s)))]) (by rw [hfc, hs1]) ?_
      refine v_goto (pc := 59) 89 dX6_factor_59 (by decide) ?_
      refine v_wsub (ws2 := [(h, co 6 (rdL tap e hq (fac t e 5 s))), (hq, co 3 [ai wi, ai pa, ai ns, ai us2_5, ar sla, ar ena, ar cda]), (cda, cn 0 100 cd2_6)]) [2, 0, 1] rfl rfl ?_
      exact hret (us2_5, cd2_6) _ _ _ _ _ (by rw [hfc]; exact IE_mv g_7 (Mv_mst (by decide) hBx)) rfl rfl (Nat.le_of_ble_eq_true rfl) (Nat.le_of_ble_eq_true rfl) dX6_factor_89
  · skip
    have hk : tkS t e 33 s = adv s := if_pos (by omega)
    refine v_ws (ws2 := [(hq, co 3 [ai wi, ai pa, ai ns, ai us, ar sla, ar ena, ar cda]), (cda, cn 0 100 cd), (h, co 6 (rdL tap e hq (adv s)))]) (by rw [hk]) ?_
    have hBa := (adv_k hB (by omega)).1
    have hma := Mv_adv hB (show s.1 < e by omega)
    refine v_aload_n (pc := 14) 0 rfl dX6_factor_14 ?_
    refine v_iload_n (pc := 15) 1 rfl dX6_factor_15 ?_
    refine v_iconst (pc := 16) dX6_factor_16 ?_
    refine v_iadd (pc := 17) dX6_factor_17 ?_
    refine v_callV (pc := 18) [2, 0, 1] [] [] (As := [ai 1]) (rest := []) (c_rfac_4 h tap e hq t (adv s) wi pa ns us sla ena cda sl en cd (by exact hBa) (by first | omega | assumption) (by assumption) (by exact IE_mv hIE hma)) (c := 6) rfl (Or.inr ⟨2, rfl⟩) wl_X6_91 wi_X6_factor wv_X6_X6_factor_X6_factor wk_X6_factor wz_X6 md_X6_factor rfl (Nat.le_of_ble_eq_true rfl) ⟨Nat.le_of_ble_eq_true rfl, Nat.le_of_ble_eq_true rfl, Nat.le_of_ble_eq_true rfl, Nat.le_of_ble_eq_true rfl⟩ rfl rfl rfl rfl (by decide) (ro_cons (Or.inl r0) ro_nil) dX6_factor_18 (fun u hu => ?_)
    obtain ⟨us2_8, cd2_9⟩ := u
    have g_10 : IE (fac t e 4 (adv s)) ns us2_8 sl en cd2_9 := hu
    show V x cX6_factor RX6 4 (rmU 20 442 0 0) [(h, co 6 (rdL tap e hq (fac t e 4 (adv s)))), (hq, co 3 [ai wi, ai pa, ai ns, ai us2_8, ar sla, ar ena, ar cda]), (cda, cn 0 100 cd2_9)] 21 [(0, ar h), (1, ai 0)] [] 0 0
    have hub2 := g_10.1
    refine v_aload_n (pc := 21) 0 rfl dX6_factor_21 ?_
    refine v_get (pc := 22) (v := ar hq) 2 (Or.inr ⟨0, rfl⟩) fl_6_12_6 rfl dX6_factor_22 ?_
    refine v_iconst (pc := 25) dX6_factor_25 ?_
    refine v_callV (pc := 26) [1, 2] [0] [(h, co 6 (rdL tap e hq (fac t e 4 (adv s))))] (As := [ai (-1)]) (rest := []) (c_X3_addCode hq wi pa ns us2_8 sla ena cda (-1) cd2_9 (by first | omega | assumption)) (c := 3) rfl (Or.inr ⟨1, rfl⟩) wl_X6_88 wi_X3_addCode wv_X3_X3_addCode_X3_addCode wk_X3_addCode wz_X3 md_X3_addCode rfl (Nat.le_of_ble_eq_true rfl) ⟨Nat.le_of_ble_eq_true rfl, Nat.le_of_ble_eq_true rfl, Nat.le_of_ble_eq_true rfl, Nat.le_of_ble_eq_true rfl⟩ rfl rfl rfl rfl (by decide) ro_nil dX6_factor_26 (fun u hu => ?_)
    show V x cX6_factor RX6 4 (rmU 20 442 0 0) [(h, co 6 (rdL tap e hq (fac t e 4 (adv s)))), (hq, co 3 [ai wi, ai pa, ai ns, ai (if us2_8 < 100 then us2_8 + 1 else us2_8), ar sla, ar ena, ar cda]), (cda, cn 0 100 (if us2_8 < 100 then aup cd2_9 us2_8 (-1) else cd2_9))] 29 [(0, ar h), (1, ai 0)] [] 0 0
    refine v_ws (ws2 := [(h, co 6 (rdL tap e hq (emi (-1) (fac t e 4 (adv s))))), (hq, co 3 [ai wi, ai pa, ai ns, ai (if us2_8 < 100 then us2_8 + 1 else us2_8), ar sla, ar ena, ar cda]), (cda, cn 0 100 (if us2_8 < 100 then aup cd2_9 us2_8 (-1) else cd2_9))]) (by show [(h, co 6 [ar tap, ai e, ar hq, ai ((fac t e 4 (adv s)).1), ai (flt (fac t e 4 (adv s)))]), (hq, co 3 [ai wi, ai pa, ai ns, ai (if us2_8 < 100 then us2_8 + 1 else us2_8), ar sla, ar ena, ar cda]), (cda, cn 0 100 (if us2_8 < 100 then aup cd2_9 us2_8 (-1) else cd2_9))] = [(h, co 6 [ar tap, ai e, ar hq, ai ((emi (-1) (fac t e 4 (adv s))).1), ai (flt (emi (-1) (fac t e 4 (adv s))))]), (hq, co 3 [ai wi, ai pa, ai ns, ai (if us2_8 < 100 then us2_8 + 1 else us2_8), ar sla, ar ena, ar cda]), (cda, cn 0 100 (if us2_8 < 100 then aup cd2_9 us2_8 (-1) else cd2_9))]; rw [(emi_1 (z := -1) (s := (fac t e 4 (adv s)))).1, (emi_1 (z := -1) (s := (fac t e 4 (adv s)))).2.2]) ?_
    have hfc : fac t e 5 s = emi (-1) (fac t e 4 (adv s)) := fac_ex (by omega) (by omega)
    refine v_ws (ws2 := [(h, co 6 (rdL tap e hq (fac t e 5 s))), (hq, co 3 [ai wi, ai pa, ai ns, ai (if us2_8 < 100 then us2_8 + 1 else us2_8), ar sla, ar ena, ar cda]), (cda, cn 0 100 (if us2_8 < 100 then aup cd2_9 us2_8 (-1) else cd2_9))]) (by rw [hfc]) ?_
    refine v_goto (pc := 29) 89 dX6_factor_29 (by decide) ?_
    exact hret ((if us2_8 < 100 then us2_8 + 1 else us2_8), (if us2_8 < 100 then aup cd2_9 us2_8 (-1) else cd2_9)) _ _ _ _ _ (by rw [hfc]; exact IE_code g_10 (by decide) (sl_of (fac_k (t := t) 4 (adv s) hBa) (fun z => by show ((s.2.2.length : Nat) : Int) + 1 ≤ s.1 + 1; have := (hIE.2 z).2; omega) fac_mono he.2)) rfl rfl (Nat.le_of_ble_eq_true rfl) (Nat.le_of_ble_eq_true rfl) dX6_factor_89
set_option maxHeartbeats 4000000 in
set_option maxRecDepth 100000 in
theorem c_rbth_5 {gS : sG} (h : Nat) (tap : Nat) (e : Int) (hq : Nat) (t : Int → Int) (s : PS) (wi : Int) (pa : Int) (ns : Int) (us : Int) (sla : Nat) (ena : Nat) (cda : Nat) (sl : Int → Int) (en : Int → Int) (cd : Int → Int) (hB : PB e s) (he : 0 ≤ e ∧ e ≤ 100) (htb : ∀ j : Int, 0 ≤ j → j < e → 0 ≤ t j ∧ t j ≤ 127) (hIE : IE s ns us sl en cd) : Ct gS (S := Int × (Int → Int)) yX6_both cX6_both 3 none 21 465 0 0 [ar h, ai 0] [(h, co 6 (rdL tap e hq s)), (hq, co 3 [ai wi, ai pa, ai ns, ai us, ar sla, ar ena, ar cda]), (cda, cn 0 100 cd)] (fun q => q ∈ ([(tap, cn 0 100 t)] : aW)) (fun u => IE (evP t e (fac t e 5) s) ns u.1 sl en u.2) (fun u => none) (fun u => [(h, co 6 (rdL tap e hq (evP t e (fac t e 5) s))), (hq, co 3 [ai wi, ai pa, ai ns, ai u.1, ar sla, ar ena, ar cda]), (cda, cn 0 100 u.2)]) := by
  refine ct_V RX6 [(0, ar h), (1, ai 0)] (by decide) rfl (Nat.le_of_ble_eq_true rfl) rfl (fun x hgS hnm hro hret => ?_)
  subst hgS
  have r0 := hro _ (mem_at 0 rfl)
  obtain ⟨hB1, hB2, hB3⟩ := id hB
  have hfl := flt_c hB
  have hhr := hr_v (t := t) (e := e) (s := s)
  have hub := hIE.1
  show V x cX6_both RX6 3 (rmU 21 465 0 0) [(h, co 6 (rdL tap e hq s)), (hq, co 3 [ai wi, ai pa, ai ns, ai us, ar sla, ar ena, ar cda]), (cda, cn 0 100 cd)] 0 [(0, ar h), (1, ai 0)] [] 0 0
  refine v_aload_n (pc := 0) 0 rfl dX6_both_0 ?_
  refine v_iload_n (pc := 1) 1 rfl dX6_both_1 ?_
  refine v_callV (pc := 2) [0, 1, 2] [] [] (As := [ai 0]) (rest := []) (c_rfac_5 h tap e hq t s wi pa ns us sla ena cda sl en cd (by assumption) (by first | omega | assumption) (by assumption) (by assumption)) (c := 6) rfl (Or.inr ⟨0, rfl⟩) wl_X6_91 wi_X6_factor wv_X6_X6_factor_X6_factor wk_X6_factor wz_X6 md_X6_factor rfl (Nat.le_of_ble_eq_true rfl) ⟨Nat.le_of_ble_eq_true rfl, Nat.le_of_ble_eq_true rfl, Nat.le_of_ble_eq_true rfl, Nat.le_of_ble_eq_true rfl⟩ rfl rfl rfl rfl (by decide) (ro_cons (Or.inl r0) ro_nil) dX6_both_2 (fun u hu => ?_)
  obtain ⟨us2_1, cd2_2⟩ := u
  have g_3 : IE (fac t e 5 s) ns us2_1 sl en cd2_2 := hu
  show V x cX6_both RX6 3 (rmU 21 465 0 0) [(h, co 6 (rdL tap e hq (fac t e 5 s))), (hq, co 3 [ai wi, ai pa, ai ns, ai us2_1, ar sla, ar ena, ar cda]), (cda, cn 0 100 cd2_2)] 5 [(0, ar h), (1, ai 0)] [] 0 0
  have hp1 := fac_k (t := t) 5 s hB
  refine v_iconst (pc := 5) dX6_both_5 ?_
  refine v_istore_n (pc := 6) (L2 := [(2, ai 0), (0, ar h), (1, ai 0)]) rfl (by decide) dX6_both_6 ?_
  have lp7 : ∀ (mm : Nat) (k : Int) (s1 : PS) (us1 : Int) (cd1 : Int → Int), (100 - k).toNat = mm → (0 ≤ k ∧ k ≤ 100) → (lpP t e 38 (-2) (fac t e 5) 101 s1 = evP t e (fac t e 5) s) → (PB e s1) → (IE s1 ns us1 sl en cd1) → (k ≤ s1.1) → V x cX6_both RX6 3 (rmU 21 465 0 0) [(h, co 6 (rdL tap e hq s1)), (hq, co 3 [ai wi, ai pa, ai ns, ai us1, ar sla, ar ena, ar cda]), (cda, cn 0 100 cd1)] 7 [(0, ar h), (1, ai 0), (2, ai k)] [] 0 0 := by
    intro mm
    induction mm using Nat.strongRecOn with
    | _ mm ih =>
      intro k s1 us1 cd1 hmm hk hlp hBq hI1 hks
      obtain ⟨hQ1, hQ2, hQ3⟩ := id hBq
      have hfl1 := flt_c hBq
      have hhr1 := hr_v (t := t) (e := e) (s := s1)
      have hub1 := hI1.1
      refine v_iload_n (pc := 7) 2 rfl dX6_both_7 ?_
      refine v_bipush (pc := 8) dX6_both_8 (by decide) ?_
      refine v_icmp_ge (pc := 10) 42 dX6_both_10 (by decide) (by unfold iB; omega) (by unfold iB; omega) (fun c_4 => ?_) (fun c_4 => ?_)
      · skip
        have he1 : evP t e (fac t e 5) s = s1 := hlp.symm.trans (lpP_st (by omega))
        refine v_ws (ws2 := [(h, co 6 (rdL tap e hq (evP t e (fac t e 5) s))), (hq, co 3 [ai wi, ai pa, ai ns, ai us1, ar sla, ar ena, ar cda]), (cda, cn 0 100 cd1)]) (by rw [he1]) ?_
        exact hret (us1, cd1) _ _ _ _ _ (by rw [he1]; exact hI1) rfl rfl (Nat.le_of_ble_eq_true rfl) (Nat.le_of_ble_eq_true rfl) dX6_both_42
      · skip
        refine v_aload_n (pc := 13) 0 rfl dX6_both_13 ?_
        refine v_bipush (pc := 14) dX6_both_14 (by decide) ?_
        refine v_callV (pc := 16) [0] [1, 2] [(hq, co 3 [ai wi, ai pa, ai ns, ai us1, ar sla, ar ena, ar cda]), (cda, cn 0 100 cd1)] (As := [ai 38]) (rest := []) (c_X6_takes h tap e hq t s1 38 (by exact hBq) (by first | omega | assumption) (by assumption) (by first | omega | assumption)) (c := 6) rfl (Or.inr ⟨0, rfl⟩) wl_X6_38 wi_X6_takes wv_X6_X6_takes_X6_takes wk_X6_takes wz_X6 md_X6_takes rfl (Nat.le_of_ble_eq_true rfl) ⟨Nat.le_of_ble_eq_true rfl, Nat.le_of_ble_eq_true rfl, Nat.le_of_ble_eq_true rfl, Nat.le_of_ble_eq_true rfl⟩ rfl rfl rfl rfl (by decide) (ro_cons (Or.inl r0) ro_nil) dX6_both_16 (fun u hu => ?_)
        show V x cX6_both RX6 3 (rmU 21 465 0 0) [(hq, co 3 [ai wi, ai pa, ai ns, ai us1, ar sla, ar ena, ar cda]), (cda, cn 0 100 cd1), (h, co 6 (rdL tap e hq (tkS t e 38 s1)))] 19 [(0, ar h), (1, ai 0), (2, ai k)] [ai (if s1.2.1 = 0 ∧ hr t e s1 = 38 then 1 else 0)] 0 0
        refine v_ifb_eq (pc := 19) 42 dX6_both_19 (by decide) (fun c_5 => ?_) (fun c_5 => ?_)
        · skip
          have hk : tkS t e 38 s1 = s1 := if_neg (by omega)
          refine v_ws (ws2 := [(hq, co 3 [ai wi, ai pa, ai ns, ai us1, ar sla, ar ena, ar cda]), (cda, cn 0 100 cd1), (h, co 6 (rdL tap e hq s1))]) (by rw [hk]) ?_
          have he1 : evP t e (fac t e 5) s = s1 := hlp.symm.trans (lpP_st (by omega))
          refine v_ws (ws2 := [(hq, co 3 [ai wi, ai pa, ai ns, ai us1, ar sla, ar ena, ar cda]), (cda, cn 0 100 cd1), (h, co 6 (rdL tap e hq (evP t e (fac t e 5) s)))]) (by rw [he1]) ?_
          refine v_wsub (ws2 := [(h, co 6 (rdL tap e hq (evP t e (fac t e 5) s))), (hq, co 3 [ai wi, ai pa, ai ns, ai us1, ar sla, ar ena, ar cda]), (cda, cn 0 100 cd1)]) [2, 0, 1] rfl rfl ?_
          exact hret (us1, cd1) _ _ _ _ _ (by rw [he1]; exact hI1) rfl rfl (Nat.le_of_ble_eq_true rfl) (Nat.le_of_ble_eq_true rfl) dX6_both_42
        · skip
          have hk : tkS t e 38 s1 = adv s1 := if_pos (by omega)
          refine v_ws (ws2 := [(hq, co 3 [ai wi, ai pa, ai ns, ai us1, ar sla, ar ena, ar cda]), (cda, cn 0 100 cd1), (h, co 6 (rdL tap e hq (adv s1)))]) (by rw [hk]) ?_
          have hBa := (adv_k hBq (by omega)).1
          have hma := Mv_adv hBq (show s1.1 < e by omega)
          refine v_aload_n (pc := 22) 0 rfl dX6_both_22 ?_
          refine v_iload_n (pc := 23) 1 rfl dX6_both_23 ?_
          refine v_callV (pc := 24) [2, 0, 1] [] [] (As := [ai 0]) (rest := []) (c_rfac_5 h tap e hq t (adv s1) wi pa ns us1 sla ena cda sl en cd1 (by exact hBa) (by first | omega | assumption) (by assumption) (by exact IE_mv hI1 hma)) (c := 6) rfl (Or.inr ⟨2, rfl⟩) wl_X6_91 wi_X6_factor wv_X6_X6_factor_X6_factor wk_X6_factor wz_X6 md_X6_factor rfl (Nat.le_of_ble_eq_true rfl) ⟨Nat.le_of_ble_eq_true rfl, Nat.le_of_ble_eq_true rfl, Nat.le_of_ble_eq_true rfl, Nat.le_of_ble_eq_true rfl⟩ rfl rfl rfl rfl (by decide) (ro_cons (Or.inl r0) ro_nil) dX6_both_24 (fun u hu => ?_)
          obtain ⟨us2_6, cd2_7⟩ := u
          have g_8 : IE (fac t e 5 (adv s1)) ns us2_6 sl en cd2_7 := hu
          show V x cX6_both RX6 3 (rmU 21 465 0 0) [(h, co 6 (rdL tap e hq (fac t e 5 (adv s1)))), (hq, co 3 [ai wi, ai pa, ai ns, ai us2_6, ar sla, ar ena, ar cda]), (cda, cn 0 100 cd2_7)] 27 [(0, ar h), (1, ai 0), (2, ai k)] [] 0 0
          have hpx := fac_k (t := t) 5 (adv s1) hBa
          have hp2 := hpx.2.1
          have had : (adv s1).1 = s1.1 + 1 := rfl
          have hub3 := g_8.1
          refine v_aload_n (pc := 27) 0 rfl dX6_both_27 ?_
          refine v_get (pc := 28) (v := ar hq) 2 (Or.inr ⟨0, rfl⟩) fl_6_12_6 rfl dX6_both_28 ?_
          refine v_bipush (pc := 31) dX6_both_31 (by decide) ?_
          refine v_callV (pc := 33) [1, 2] [0] [(h, co 6 (rdL tap e hq (fac t e 5 (adv s1))))] (As := [ai (-2)]) (rest := []) (c_X3_addCode hq wi pa ns us2_6 sla ena cda (-2) cd2_7 (by first | omega | assumption)) (c := 3) rfl (Or.inr ⟨1, rfl⟩) wl_X6_88 wi_X3_addCode wv_X3_X3_addCode_X3_addCode wk_X3_addCode wz_X3 md_X3_addCode rfl (Nat.le_of_ble_eq_true rfl) ⟨Nat.le_of_ble_eq_true rfl, Nat.le_of_ble_eq_true rfl, Nat.le_of_ble_eq_true rfl, Nat.le_of_ble_eq_true rfl⟩ rfl rfl rfl rfl (by decide) ro_nil dX6_both_33 (fun u hu => ?_)
          show V x cX6_both RX6 3 (rmU 21 465 0 0) [(h, co 6 (rdL tap e hq (fac t e 5 (adv s1)))), (hq, co 3 [ai wi, ai pa, ai ns, ai (if us2_6 < 100 then us2_6 + 1 else us2_6), ar sla, ar ena, ar cda]), (cda, cn 0 100 (if us2_6 < 100 then aup cd2_7 us2_6 (-2) else cd2_7))] 36 [(0, ar h), (1, ai 0), (2, ai k)] [] 0 0
          refine v_ws (ws2 := [(h, co 6 (rdL tap e hq (emi (-2) (fac t e 5 (adv s1))))), (hq, co 3 [ai wi, ai pa, ai ns, ai (if us2_6 < 100 then us2_6 + 1 else us2_6), ar sla, ar ena, ar cda]), (cda, cn 0 100 (if us2_6 < 100 then aup cd2_7 us2_6 (-2) else cd2_7))]) (by show [(h, co 6 [ar tap, ai e, ar hq, ai ((fac t e 5 (adv s1)).1), ai (flt (fac t e 5 (adv s1)))]), (hq, co 3 [ai wi, ai pa, ai ns, ai (if us2_6 < 100 then us2_6 + 1 else us2_6), ar sla, ar ena, ar cda]), (cda, cn 0 100 (if us2_6 < 100 then aup cd2_7 us2_6 (-2) else cd2_7))] = [(h, co 6 [ar tap, ai e, ar hq, ai ((emi (-2) (fac t e 5 (adv s1))).1), ai (flt (emi (-2) (fac t e 5 (adv s1))))]), (hq, co 3 [ai wi, ai pa, ai ns, ai (if us2_6 < 100 then us2_6 + 1 else us2_6), ar sla, ar ena, ar cda]), (cda, cn 0 100 (if us2_6 < 100 then aup cd2_7 us2_6 (-2) else cd2_7))]; rw [(emi_1 (z := -2) (s := (fac t e 5 (adv s1)))).1, (emi_1 (z := -2) (s := (fac t e 5 (adv s1)))).2.2]) ?_
          refine v_iinc (pc := 36) 2 (L2 := [(2, ai (k + 1)), (0, ar h), (1, ai 0)]) rfl rfl (by decide) dX6_both_36 ?_
          refine v_goto (pc := 39) 7 dX6_both_39 (by decide) ?_
          refine v_sub (L2 := [(0, ar h), (1, ai 0), (2, ai (k + 1))]) [1, 2, 0] rfl ?_
          exact ih _ (by omega) (k + 1) (emi (-2) (fac t e 5 (adv s1))) (if us2_6 < 100 then us2_6 + 1 else us2_6) (if us2_6 < 100 then aup cd2_7 us2_6 (-2) else cd2_7) rfl (by omega) (by rw [← hlp]; exact (lpP_go (by decide) (fac_k (t := t) 5) he.2 hBq (by omega) (by omega)).symm) (by exact PB_emi hpx.1) (by exact IE_code g_8 (by decide) (sl_of hpx (fun z => by show ((s1.2.2.length : Nat) : Int) + 1 ≤ s1.1 + 1; have := (hI1.2 z).2; omega) fac_mono he.2)) (by rw [emi_1.1]; omega)
  refine v_sub (L2 := [(0, ar h), (1, ai 0), (2, ai 0)]) [1, 2, 0] rfl ?_
  exact lp7 _ 0 (fac t e 5 s) us2_1 cd2_2 rfl (by omega) (by rfl) (by exact hp1.1) (by exact g_3) (by have := hp1.2.1; omega)
set_option maxHeartbeats 4000000 in
set_option maxRecDepth 100000 in
theorem c_reit_5 {gS : sG} (h : Nat) (tap : Nat) (e : Int) (hq : Nat) (t : Int → Int) (s : PS) (wi : Int) (pa : Int) (ns : Int) (us : Int) (sla : Nat) (ena : Nat) (cda : Nat) (sl : Int → Int) (en : Int → Int) (cd : Int → Int) (hB : PB e s) (he : 0 ≤ e ∧ e ≤ 100) (htb : ∀ j : Int, 0 ≤ j → j < e → 0 ≤ t j ∧ t j ≤ 127) (hIE : IE s ns us sl en cd) : Ct gS (S := Int × (Int → Int)) yX6_either cX6_either 3 none 22 487 0 0 [ar h, ai 0] [(h, co 6 (rdL tap e hq s)), (hq, co 3 [ai wi, ai pa, ai ns, ai us, ar sla, ar ena, ar cda]), (cda, cn 0 100 cd)] (fun q => q ∈ ([(tap, cn 0 100 t)] : aW)) (fun u => IE (soP t e (fac t e 5) s) ns u.1 sl en u.2) (fun u => none) (fun u => [(h, co 6 (rdL tap e hq (soP t e (fac t e 5) s))), (hq, co 3 [ai wi, ai pa, ai ns, ai u.1, ar sla, ar ena, ar cda]), (cda, cn 0 100 u.2)]) := by
  refine ct_V RX6 [(0, ar h), (1, ai 0)] (by decide) rfl (Nat.le_of_ble_eq_true rfl) rfl (fun x hgS hnm hro hret => ?_)
  subst hgS
  have r0 := hro _ (mem_at 0 rfl)
  obtain ⟨hB1, hB2, hB3⟩ := id hB
  have hfl := flt_c hB
  have hhr := hr_v (t := t) (e := e) (s := s)
  have hub := hIE.1
  show V x cX6_either RX6 3 (rmU 22 487 0 0) [(h, co 6 (rdL tap e hq s)), (hq, co 3 [ai wi, ai pa, ai ns, ai us, ar sla, ar ena, ar cda]), (cda, cn 0 100 cd)] 0 [(0, ar h), (1, ai 0)] [] 0 0
  refine v_aload_n (pc := 0) 0 rfl dX6_either_0 ?_
  refine v_iload_n (pc := 1) 1 rfl dX6_either_1 ?_
  refine v_callV (pc := 2) [0, 1, 2] [] [] (As := [ai 0]) (rest := []) (c_rbth_5 h tap e hq t s wi pa ns us sla ena cda sl en cd (by assumption) (by first | omega | assumption) (by assumption) (by assumption)) (c := 6) rfl (Or.inr ⟨0, rfl⟩) wl_X6_85 wi_X6_both wv_X6_X6_both_X6_both wk_X6_both wz_X6 md_X6_both rfl (Nat.le_of_ble_eq_true rfl) ⟨Nat.le_of_ble_eq_true rfl, Nat.le_of_ble_eq_true rfl, Nat.le_of_ble_eq_true rfl, Nat.le_of_ble_eq_true rfl⟩ rfl rfl rfl rfl (by decide) (ro_cons (Or.inl r0) ro_nil) dX6_either_2 (fun u hu => ?_)
  obtain ⟨us2_1, cd2_2⟩ := u
  have g_3 : IE (evP t e (fac t e 5) s) ns us2_1 sl en cd2_2 := hu
  show V x cX6_either RX6 3 (rmU 22 487 0 0) [(h, co 6 (rdL tap e hq (evP t e (fac t e 5) s))), (hq, co 3 [ai wi, ai pa, ai ns, ai us2_1, ar sla, ar ena, ar cda]), (cda, cn 0 100 cd2_2)] 5 [(0, ar h), (1, ai 0)] [] 0 0
  have hp1 := evP_k (t := t) (fac_k (t := t) 5) s hB
  refine v_iconst (pc := 5) dX6_either_5 ?_
  refine v_istore_n (pc := 6) (L2 := [(2, ai 0), (0, ar h), (1, ai 0)]) rfl (by decide) dX6_either_6 ?_
  have lp7 : ∀ (mm : Nat) (k : Int) (s1 : PS) (us1 : Int) (cd1 : Int → Int), (100 - k).toNat = mm → (0 ≤ k ∧ k ≤ 100) → (lpP t e 124 (-3) (evP t e (fac t e 5)) 101 s1 = soP t e (fac t e 5) s) → (PB e s1) → (IE s1 ns us1 sl en cd1) → (k ≤ s1.1) → V x cX6_either RX6 3 (rmU 22 487 0 0) [(h, co 6 (rdL tap e hq s1)), (hq, co 3 [ai wi, ai pa, ai ns, ai us1, ar sla, ar ena, ar cda]), (cda, cn 0 100 cd1)] 7 [(0, ar h), (1, ai 0), (2, ai k)] [] 0 0 := by
    intro mm
    induction mm using Nat.strongRecOn with
    | _ mm ih =>
      intro k s1 us1 cd1 hmm hk hlp hBq hI1 hks
      obtain ⟨hQ1, hQ2, hQ3⟩ := id hBq
      have hfl1 := flt_c hBq
      have hhr1 := hr_v (t := t) (e := e) (s := s1)
      have hub1 := hI1.1
      refine v_iload_n (pc := 7) 2 rfl dX6_either_7 ?_
      refine v_bipush (pc := 8) dX6_either_8 (by decide) ?_
      refine v_icmp_ge (pc := 10) 42 dX6_either_10 (by decide) (by unfold iB; omega) (by unfold iB; omega) (fun c_4 => ?_) (fun c_4 => ?_)
      · skip
        have he1 : soP t e (fac t e 5) s = s1 := hlp.symm.trans (lpP_st (by omega))
        refine v_ws (ws2 := [(h, co 6 (rdL tap e hq (soP t e (fac t e 5) s))), (hq, co 3 [ai wi, ai pa, ai ns, ai us1, ar sla, ar ena, ar cda]), (cda, cn 0 100 cd1)]) (by rw [he1]) ?_
        exact hret (us1, cd1) _ _ _ _ _ (by rw [he1]; exact hI1) rfl rfl (Nat.le_of_ble_eq_true rfl) (Nat.le_of_ble_eq_true rfl) dX6_either_42
      · skip
        refine v_aload_n (pc := 13) 0 rfl dX6_either_13 ?_
        refine v_bipush (pc := 14) dX6_either_14 (by decide) ?_
        refine v_callV (pc := 16) [0] [1, 2] [(hq, co 3 [ai wi, ai pa, ai ns, ai us1, ar sla, ar ena, ar cda]), (cda, cn 0 100 cd1)] (As := [ai 124]) (rest := []) (c_X6_takes h tap e hq t s1 124 (by exact hBq) (by first | omega | assumption) (by assumption) (by first | omega | assumption)) (c := 6) rfl (Or.inr ⟨0, rfl⟩) wl_X6_38 wi_X6_takes wv_X6_X6_takes_X6_takes wk_X6_takes wz_X6 md_X6_takes rfl (Nat.le_of_ble_eq_true rfl) ⟨Nat.le_of_ble_eq_true rfl, Nat.le_of_ble_eq_true rfl, Nat.le_of_ble_eq_true rfl, Nat.le_of_ble_eq_true rfl⟩ rfl rfl rfl rfl (by decide) (ro_cons (Or.inl r0) ro_nil) dX6_either_16 (fun u hu => ?_)
        show V x cX6_either RX6 3 (rmU 22 487 0 0) [(hq, co 3 [ai wi, ai pa, ai ns, ai us1, ar sla, ar ena, ar cda]), (cda, cn 0 100 cd1), (h, co 6 (rdL tap e hq (tkS t e 124 s1)))] 19 [(0, ar h), (1, ai 0), (2, ai k)] [ai (if s1.2.1 = 0 ∧ hr t e s1 = 124 then 1 else 0)] 0 0
        refine v_ifb_eq (pc := 19) 42 dX6_either_19 (by decide) (fun c_5 => ?_) (fun c_5 => ?_)
        · skip
          have hk : tkS t e 124 s1 = s1 := if_neg (by omega)
          refine v_ws (ws2 := [(hq, co 3 [ai wi, ai pa, ai ns, ai us1, ar sla, ar ena, ar cda]), (cda, cn 0 100 cd1), (h, co 6 (rdL tap e hq s1))]) (by rw [hk]) ?_
          have he1 : soP t e (fac t e 5) s = s1 := hlp.symm.trans (lpP_st (by omega))
          refine v_ws (ws2 := [(hq, co 3 [ai wi, ai pa, ai ns, ai us1, ar sla, ar ena, ar cda]), (cda, cn 0 100 cd1), (h, co 6 (rdL tap e hq (soP t e (fac t e 5) s)))]) (by rw [he1]) ?_
          refine v_wsub (ws2 := [(h, co 6 (rdL tap e hq (soP t e (fac t e 5) s))), (hq, co 3 [ai wi, ai pa, ai ns, ai us1, ar sla, ar ena, ar cda]), (cda, cn 0 100 cd1)]) [2, 0, 1] rfl rfl ?_
          exact hret (us1, cd1) _ _ _ _ _ (by rw [he1]; exact hI1) rfl rfl (Nat.le_of_ble_eq_true rfl) (Nat.le_of_ble_eq_true rfl) dX6_either_42
        · skip
          have hk : tkS t e 124 s1 = adv s1 := if_pos (by omega)
          refine v_ws (ws2 := [(hq, co 3 [ai wi, ai pa, ai ns, ai us1, ar sla, ar ena, ar cda]), (cda, cn 0 100 cd1), (h, co 6 (rdL tap e hq (adv s1)))]) (by rw [hk]) ?_
          have hBa := (adv_k hBq (by omega)).1
          have hma := Mv_adv hBq (show s1.1 < e by omega)
          refine v_aload_n (pc := 22) 0 rfl dX6_either_22 ?_
          refine v_iload_n (pc := 23) 1 rfl dX6_either_23 ?_
          refine v_callV (pc := 24) [2, 0, 1] [] [] (As := [ai 0]) (rest := []) (c_rbth_5 h tap e hq t (adv s1) wi pa ns us1 sla ena cda sl en cd1 (by exact hBa) (by first | omega | assumption) (by assumption) (by exact IE_mv hI1 hma)) (c := 6) rfl (Or.inr ⟨2, rfl⟩) wl_X6_85 wi_X6_both wv_X6_X6_both_X6_both wk_X6_both wz_X6 md_X6_both rfl (Nat.le_of_ble_eq_true rfl) ⟨Nat.le_of_ble_eq_true rfl, Nat.le_of_ble_eq_true rfl, Nat.le_of_ble_eq_true rfl, Nat.le_of_ble_eq_true rfl⟩ rfl rfl rfl rfl (by decide) (ro_cons (Or.inl r0) ro_nil) dX6_either_24 (fun u hu => ?_)
          obtain ⟨us2_6, cd2_7⟩ := u
          have g_8 : IE (evP t e (fac t e 5) (adv s1)) ns us2_6 sl en cd2_7 := hu
          show V x cX6_either RX6 3 (rmU 22 487 0 0) [(h, co 6 (rdL tap e hq (evP t e (fac t e 5) (adv s1)))), (hq, co 3 [ai wi, ai pa, ai ns, ai us2_6, ar sla, ar ena, ar cda]), (cda, cn 0 100 cd2_7)] 27 [(0, ar h), (1, ai 0), (2, ai k)] [] 0 0
          have hpx := evP_k (t := t) (fac_k (t := t) 5) (adv s1) hBa
          have hp2 := hpx.2.1
          have had : (adv s1).1 = s1.1 + 1 := rfl
          have hub3 := g_8.1
          refine v_aload_n (pc := 27) 0 rfl dX6_either_27 ?_
          refine v_get (pc := 28) (v := ar hq) 2 (Or.inr ⟨0, rfl⟩) fl_6_12_6 rfl dX6_either_28 ?_
          refine v_bipush (pc := 31) dX6_either_31 (by decide) ?_
          refine v_callV (pc := 33) [1, 2] [0] [(h, co 6 (rdL tap e hq (evP t e (fac t e 5) (adv s1))))] (As := [ai (-3)]) (rest := []) (c_X3_addCode hq wi pa ns us2_6 sla ena cda (-3) cd2_7 (by first | omega | assumption)) (c := 3) rfl (Or.inr ⟨1, rfl⟩) wl_X6_88 wi_X3_addCode wv_X3_X3_addCode_X3_addCode wk_X3_addCode wz_X3 md_X3_addCode rfl (Nat.le_of_ble_eq_true rfl) ⟨Nat.le_of_ble_eq_true rfl, Nat.le_of_ble_eq_true rfl, Nat.le_of_ble_eq_true rfl, Nat.le_of_ble_eq_true rfl⟩ rfl rfl rfl rfl (by decide) ro_nil dX6_either_33 (fun u hu => ?_)
          show V x cX6_either RX6 3 (rmU 22 487 0 0) [(h, co 6 (rdL tap e hq (evP t e (fac t e 5) (adv s1)))), (hq, co 3 [ai wi, ai pa, ai ns, ai (if us2_6 < 100 then us2_6 + 1 else us2_6), ar sla, ar ena, ar cda]), (cda, cn 0 100 (if us2_6 < 100 then aup cd2_7 us2_6 (-3) else cd2_7))] 36 [(0, ar h), (1, ai 0), (2, ai k)] [] 0 0
          refine v_ws (ws2 := [(h, co 6 (rdL tap e hq (emi (-3) (evP t e (fac t e 5) (adv s1))))), (hq, co 3 [ai wi, ai pa, ai ns, ai (if us2_6 < 100 then us2_6 + 1 else us2_6), ar sla, ar ena, ar cda]), (cda, cn 0 100 (if us2_6 < 100 then aup cd2_7 us2_6 (-3) else cd2_7))]) (by show [(h, co 6 [ar tap, ai e, ar hq, ai ((evP t e (fac t e 5) (adv s1)).1), ai (flt (evP t e (fac t e 5) (adv s1)))]), (hq, co 3 [ai wi, ai pa, ai ns, ai (if us2_6 < 100 then us2_6 + 1 else us2_6), ar sla, ar ena, ar cda]), (cda, cn 0 100 (if us2_6 < 100 then aup cd2_7 us2_6 (-3) else cd2_7))] = [(h, co 6 [ar tap, ai e, ar hq, ai ((emi (-3) (evP t e (fac t e 5) (adv s1))).1), ai (flt (emi (-3) (evP t e (fac t e 5) (adv s1))))]), (hq, co 3 [ai wi, ai pa, ai ns, ai (if us2_6 < 100 then us2_6 + 1 else us2_6), ar sla, ar ena, ar cda]), (cda, cn 0 100 (if us2_6 < 100 then aup cd2_7 us2_6 (-3) else cd2_7))]; rw [(emi_1 (z := -3) (s := (evP t e (fac t e 5) (adv s1)))).1, (emi_1 (z := -3) (s := (evP t e (fac t e 5) (adv s1)))).2.2]) ?_
          refine v_iinc (pc := 36) 2 (L2 := [(2, ai (k + 1)), (0, ar h), (1, ai 0)]) rfl rfl (by decide) dX6_either_36 ?_
          refine v_goto (pc := 39) 7 dX6_either_39 (by decide) ?_
          refine v_sub (L2 := [(0, ar h), (1, ai 0), (2, ai (k + 1))]) [1, 2, 0] rfl ?_
          exact ih _ (by omega) (k + 1) (emi (-3) (evP t e (fac t e 5) (adv s1))) (if us2_6 < 100 then us2_6 + 1 else us2_6) (if us2_6 < 100 then aup cd2_7 us2_6 (-3) else cd2_7) rfl (by omega) (by rw [← hlp]; exact (lpP_go (by decide) (evP_k (t := t) (fac_k (t := t) 5)) he.2 hBq (by omega) (by omega)).symm) (by exact PB_emi hpx.1) (by exact IE_code g_8 (by decide) (sl_of hpx (fun z => by show ((s1.2.2.length : Nat) : Int) + 1 ≤ s1.1 + 1; have := (hI1.2 z).2; omega) evP_mono he.2)) (by rw [emi_1.1]; omega)
  refine v_sub (L2 := [(0, ar h), (1, ai 0), (2, ai 0)]) [1, 2, 0] rfl ?_
  exact lp7 _ 0 (evP t e (fac t e 5) s) us2_1 cd2_2 rfl (by omega) (by rfl) (by exact hp1.1) (by exact g_3) (by have := hp1.2.1; omega)
