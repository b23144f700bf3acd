set_option maxHeartbeats 4000000 in
set_option maxRecDepth 100000 in
theorem c_X11_told {gS : sG} (mo : Nat) (kw : Nat) (pi : Nat) (ta : Nat) (ms : Nat) (pt : Nat) (po : Nat) (hi : Int) (nw : Nat) (pls : Nat) (ins : Nat) (tap : Nat) (e3 : Nat) (e4 : Nat) (e5 : Nat) (e6 : Nat) (e7 : Nat) (e8 : Nat) (bar : Nat) (iv : Int → Option Nat) (hq : Nat) (ns : Int) (us : Int) (sla : Nat) (ena : Nat) (cda : Nat) (cd : Int → Int) (sl : Int → Int) (en : Int → Int) (f : Int → Int) (what : Int) (hS : SOK f) (hI : inC f iv bar hq ns us sl en cd) (hb_what : -2147483648 ≤ what ∧ what < 2147483648) : Ct gS (S := Unit) yX11_told cX11_told 2 (some .int) 1 21 0 0 [ar mo, ai what] [] (fun q => q ∈ ([(mo, co 11 [ar nw, ar kw, ar pi, ar ta, ar ms, ar pt, ar po, ai hi]), (nw, co 10 [ar pls, ar ins, ar tap, ar e3, ar e4, ar e5, ar e6, ar e7, ar e8, ai (f 0), ai (f 1), ai (f 4), ai (f 2), ai (f 3), ai (f 6), ar bar]), (ins, cq 2 5 iv), (hq, co 3 [ai (kWide f), ai (kPay f), ai ns, ai us, ar sla, ar ena, ar cda]), (cda, cn 0 100 cd), (sla, cn 0 10 sl), (ena, cn 0 10 en)] : aW)) (fun _ => True) (fun _ => some (ai (qTold f what))) (fun _ => []) := by
  refine ct_I RX11 [(0, ar mo), (1, ai what)] (by decide) rfl (Nat.le_of_ble_eq_true rfl) rfl (fun x hgS hro hret => ?_)
  subst hgS
  have r0 := hro _ (mem_at 0 rfl)
  have r1 := hro _ (mem_at 1 rfl)
  have r2 := hro _ (mem_at 2 rfl)
  have r3 := hro _ (mem_at 3 rfl)
  have r4 := hro _ (mem_at 4 rfl)
  have r5 := hro _ (mem_at 5 rfl)
  have r6 := hro _ (mem_at 6 rfl)
  obtain ⟨⟨hg0, hg1, hg2, hg3, hg4, hg5, hg6, hg7⟩, hSp, hSh, hSs, hSb, hSt, hSw⟩ := id hS
  show V x cX11_told RX11 2 (rmU 1 21 0 0) [] 0 [(0, ar mo), (1, ai what)] [] 0 0
  refine v_iload_n (pc := 0) 1 rfl dX11_told_0 ?_
  rcases Classical.em (what < 0 ∨ 2 < what) with c_1 | c_1
  · refine v_sw_out (pc := 1) 58 dX11_told_1 (by decide) (by unfold iB; omega) c_1 ?_
    refine v_iconst (pc := 58) dX11_told_58 ?_
    exact hret () _ _ _ _ _ _ trivial (congrArg (fun z => some (ai z)) (by unfold qTold; (repeat' split) <;> first | rfl | (exfalso; omega) | omega)) rfl (Nat.le_of_ble_eq_true rfl) (Nat.le_of_ble_eq_true rfl) dX11_told_59
  · rcases (show what = 0 ∨ what = 1 ∨ what = 2 by omega) with c_1e | c_1e | c_1e
    · refine v_sw_in (pc := 1) 28 0 dX11_told_1 (by unfold iB; omega) (by omega) (by omega) (by rw [c_1e]; rfl) rfl (by decide) ?_
      refine v_aload_n (pc := 28) 0 rfl dX11_told_28 ?_
      refine v_get (pc := 29) (v := ar nw) 0 (Or.inl r0) fl_11_12_11 rfl dX11_told_29 ?_
      refine v_get (pc := 32) (v := ai (f 6)) 14 (Or.inl r1) fl_11_121_10 rfl dX11_told_32 ?_
      exact hret () _ _ _ _ _ _ trivial (congrArg (fun z => some (ai z)) (by unfold qTold; (repeat' split) <;> first | rfl | (exfalso; omega) | omega)) rfl (Nat.le_of_ble_eq_true rfl) (Nat.le_of_ble_eq_true rfl) dX11_told_35
    · refine v_sw_in (pc := 1) 36 1 dX11_told_1 (by unfold iB; omega) (by omega) (by omega) (by rw [c_1e]; rfl) rfl (by decide) ?_
      refine v_aload_n (pc := 36) 0 rfl dX11_told_36 ?_
      refine v_get (pc := 37) (v := ar nw) 0 (Or.inl r0) fl_11_12_11 rfl dX11_told_37 ?_
      refine v_callV (pc := 40) [] [] [] (As := []) (rest := []) (c_X10_holding nw pls ins tap e3 e4 e5 e6 e7 e8 (f 0) (f 1) (f 4) (f 2) (f 3) (f 6) bar iv hq (by exact hI.1)) (c := 10) rfl (Or.inl r1) wl_X11_124 wi_X10_holding wv_X10_X10_holding_X10_holding wk_X10_holding wz_X10 md_X10_holding rfl (Nat.le_of_ble_eq_true rfl) ⟨Nat.le_of_ble_eq_true rfl, Nat.le_of_ble_eq_true rfl, Nat.le_of_ble_eq_true rfl, Nat.le_of_ble_eq_true rfl⟩ rfl rfl rfl rfl (by decide) (ro_cons (Or.inl r1) (ro_cons (Or.inl r2) ro_nil)) dX11_told_40 (fun u hu => ?_)
      show V x cX11_told RX11 2 (rmU 1 21 0 0) [] 43 [(0, ar mo), (1, ai what)] [ar hq] 0 0
      refine v_get (pc := 43) (v := ai (kWide f)) 0 (Or.inl r3) fl_11_127_3 rfl dX11_told_43 ?_
      exact hret () _ _ _ _ _ _ trivial (congrArg (fun z => some (ai z)) (by unfold qTold; (repeat' split) <;> first | rfl | (exfalso; omega) | omega)) rfl (Nat.le_of_ble_eq_true rfl) (Nat.le_of_ble_eq_true rfl) dX11_told_46
    · refine v_sw_in (pc := 1) 47 2 dX11_told_1 (by unfold iB; omega) (by omega) (by omega) (by rw [c_1e]; rfl) rfl (by decide) ?_
      refine v_aload_n (pc := 47) 0 rfl dX11_told_47 ?_
      refine v_get (pc := 48) (v := ar nw) 0 (Or.inl r0) fl_11_12_11 rfl dX11_told_48 ?_
      refine v_callV (pc := 51) [] [] [] (As := []) (rest := []) (c_X10_holding nw pls ins tap e3 e4 e5 e6 e7 e8 (f 0) (f 1) (f 4) (f 2) (f 3) (f 6) bar iv hq (by exact hI.1)) (c := 10) rfl (Or.inl r1) wl_X11_124 wi_X10_holding wv_X10_X10_holding_X10_holding wk_X10_holding wz_X10 md_X10_holding rfl (Nat.le_of_ble_eq_true rfl) ⟨Nat.le_of_ble_eq_true rfl, Nat.le_of_ble_eq_true rfl, Nat.le_of_ble_eq_true rfl, Nat.le_of_ble_eq_true rfl⟩ rfl rfl rfl rfl (by decide) (ro_cons (Or.inl r1) (ro_cons (Or.inl r2) ro_nil)) dX11_told_51 (fun u hu => ?_)
      show V x cX11_told RX11 2 (rmU 1 21 0 0) [] 54 [(0, ar mo), (1, ai what)] [ar hq] 0 0
      refine v_get (pc := 54) (v := ai (kPay f)) 1 (Or.inl r3) fl_11_132_3 rfl dX11_told_54 ?_
      exact hret () _ _ _ _ _ _ trivial (congrArg (fun z => some (ai z)) (by unfold qTold; (repeat' split) <;> first | rfl | (exfalso; omega) | omega)) rfl (Nat.le_of_ble_eq_true rfl) (Nat.le_of_ble_eq_true rfl) dX11_told_57
set_option maxHeartbeats 4000000 in
set_option maxRecDepth 100000 in
theorem c_X11_count {gS : sG} (mo : Nat) (kw : Nat) (pi : Nat) (ta : Nat) (ms : Nat) (pt : Nat) (po : Nat) (hi : Int) (nw : Nat) (pls : Nat) (ins : Nat) (tap : Nat) (e3 : Nat) (e4 : Nat) (e5 : Nat) (e6 : Nat) (e7 : Nat) (e8 : Nat) (bar : Nat) (f : Int → Int) (tr : Int → Int) (what : Int) (hS : SOK f) (hb_what : -2147483648 ≤ what ∧ what < 2147483648) : Ct gS (S := Unit) yX11_count cX11_count 2 (some .int) 0 0 0 0 [ar mo, ai what] [] (fun q => q ∈ ([(mo, co 11 [ar nw, ar kw, ar pi, ar ta, ar ms, ar pt, ar po, ai hi]), (nw, co 10 [ar pls, ar ins, ar tap, ar e3, ar e4, ar e5, ar e6, ar e7, ar e8, ai (f 0), ai (f 1), ai (f 4), ai (f 2), ai (f 3), ai (f 6), ar bar]), (ta, cn 0 21 tr)] : aW)) (fun _ => True) (fun _ => some (ai (if what = 5 then tr 0 else if 0 ≤ what ∧ what ≤ 4 then f what else -1))) (fun _ => []) := by
  refine ct_I RX11 [(0, ar mo), (1, ai what)] (by decide) rfl (Nat.le_of_ble_eq_true rfl) rfl (fun x hgS hro hret => ?_)
  subst hgS
  have r0 := hro _ (mem_at 0 rfl)
  have r1 := hro _ (mem_at 1 rfl)
  have r2 := hro _ (mem_at 2 rfl)
  obtain ⟨⟨hg0, hg1, hg2, hg3, hg4, hg5, hg6, hg7⟩, hSp, hSh, hSs, hSb, hSt, hSw⟩ := id hS
  show V x cX11_count RX11 2 (rmU 0 0 0 0) [] 0 [(0, ar mo), (1, ai what)] [] 0 0
  refine v_iload_n (pc := 0) 1 rfl dX11_count_0 ?_
  rcases Classical.em (what < 0 ∨ 5 < what) with c_1 | c_1
  · refine v_sw_out (pc := 1) 87 dX11_count_1 (by decide) (by unfold iB; omega) c_1 ?_
    refine v_iconst (pc := 87) dX11_count_87 ?_
    exact hret () _ _ _ _ _ _ trivial (congrArg (fun z => some (ai z)) (by (repeat' split) <;> first | rfl | (exfalso; omega) | (congr 1; done) | (congr 1; omega))) rfl (Nat.le_of_ble_eq_true rfl) (Nat.le_of_ble_eq_true rfl) dX11_count_88
  · rcases (show what = 0 ∨ what = 1 ∨ what = 2 ∨ what = 3 ∨ what = 4 ∨ what = 5 by omega) with c_1e | c_1e | c_1e | c_1e | c_1e | c_1e
    · refine v_sw_in (pc := 1) 40 0 dX11_count_1 (by unfold iB; omega) (by omega) (by omega) (by rw [c_1e]; rfl) rfl (by decide) ?_
      refine v_aload_n (pc := 40) 0 rfl dX11_count_40 ?_
      refine v_get (pc := 41) (v := ar nw) 0 (Or.inl r0) fl_11_12_11 rfl dX11_count_41 ?_
      refine v_get (pc := 44) (v := ai (f 0)) 9 (Or.inl r1) fl_11_71_10 rfl dX11_count_44 ?_
      exact hret () _ _ _ _ _ _ trivial (congrArg (fun z => some (ai z)) (by (repeat' split) <;> first | rfl | (exfalso; omega) | (congr 1; done) | (congr 1; omega))) rfl (Nat.le_of_ble_eq_true rfl) (Nat.le_of_ble_eq_true rfl) dX11_count_47
    · refine v_sw_in (pc := 1) 48 1 dX11_count_1 (by unfold iB; omega) (by omega) (by omega) (by rw [c_1e]; rfl) rfl (by decide) ?_
      refine v_aload_n (pc := 48) 0 rfl dX11_count_48 ?_
      refine v_get (pc := 49) (v := ar nw) 0 (Or.inl r0) fl_11_12_11 rfl dX11_count_49 ?_
      refine v_get (pc := 52) (v := ai (f 1)) 10 (Or.inl r1) fl_11_52_10 rfl dX11_count_52 ?_
      exact hret () _ _ _ _ _ _ trivial (congrArg (fun z => some (ai z)) (by (repeat' split) <;> first | rfl | (exfalso; omega) | (congr 1; done) | (congr 1; omega))) rfl (Nat.le_of_ble_eq_true rfl) (Nat.le_of_ble_eq_true rfl) dX11_count_55
    · refine v_sw_in (pc := 1) 56 2 dX11_count_1 (by unfold iB; omega) (by omega) (by omega) (by rw [c_1e]; rfl) rfl (by decide) ?_
      refine v_aload_n (pc := 56) 0 rfl dX11_count_56 ?_
      refine v_get (pc := 57) (v := ar nw) 0 (Or.inl r0) fl_11_12_11 rfl dX11_count_57 ?_
      refine v_get (pc := 60) (v := ai (f 2)) 12 (Or.inl r1) fl_11_238_10 rfl dX11_count_60 ?_
      exact hret () _ _ _ _ _ _ trivial (congrArg (fun z => some (ai z)) (by (repeat' split) <;> first | rfl | (exfalso; omega) | (congr 1; done) | (congr 1; omega))) rfl (Nat.le_of_ble_eq_true rfl) (Nat.le_of_ble_eq_true rfl) dX11_count_63
    · refine v_sw_in (pc := 1) 64 3 dX11_count_1 (by unfold iB; omega) (by omega) (by omega) (by rw [c_1e]; rfl) rfl (by decide) ?_
      refine v_aload_n (pc := 64) 0 rfl dX11_count_64 ?_
      refine v_get (pc := 65) (v := ar nw) 0 (Or.inl r0) fl_11_12_11 rfl dX11_count_65 ?_
      refine v_get (pc := 68) (v := ai (f 3)) 13 (Or.inl r1) fl_11_261_10 rfl dX11_count_68 ?_
      exact hret () _ _ _ _ _ _ trivial (congrArg (fun z => some (ai z)) (by (repeat' split) <;> first | rfl | (exfalso; omega) | (congr 1; done) | (congr 1; omega))) rfl (Nat.le_of_ble_eq_true rfl) (Nat.le_of_ble_eq_true rfl) dX11_count_71
    · refine v_sw_in (pc := 1) 72 4 dX11_count_1 (by unfold iB; omega) (by omega) (by omega) (by rw [c_1e]; rfl) rfl (by decide) ?_
      refine v_aload_n (pc := 72) 0 rfl dX11_count_72 ?_
      refine v_get (pc := 73) (v := ar nw) 0 (Or.inl r0) fl_11_12_11 rfl dX11_count_73 ?_
      refine v_get (pc := 76) (v := ai (f 4)) 11 (Or.inl r1) fl_11_45_10 rfl dX11_count_76 ?_
      exact hret () _ _ _ _ _ _ trivial (congrArg (fun z => some (ai z)) (by (repeat' split) <;> first | rfl | (exfalso; omega) | (congr 1; done) | (congr 1; omega))) rfl (Nat.le_of_ble_eq_true rfl) (Nat.le_of_ble_eq_true rfl) dX11_count_79
    · refine v_sw_in (pc := 1) 80 5 dX11_count_1 (by unfold iB; omega) (by omega) (by omega) (by rw [c_1e]; rfl) rfl (by decide) ?_
      refine v_aload_n (pc := 80) 0 rfl dX11_count_80 ?_
      refine v_get (pc := 81) (v := ar ta) 3 (Or.inl r0) fl_11_28_11 rfl dX11_count_81 ?_
      refine v_iconst (pc := 84) dX11_count_84 ?_
      refine v_iald (pc := 85) (Or.inl r2) (by omega) (by omega) (by decide) dX11_count_85 ?_
      exact hret () _ _ _ _ _ _ trivial (congrArg (fun z => some (ai z)) (by (repeat' split) <;> first | rfl | (exfalso; omega) | (congr 1; done) | (congr 1; omega))) rfl (Nat.le_of_ble_eq_true rfl) (Nat.le_of_ble_eq_true rfl) dX11_count_86
set_option maxHeartbeats 4000000 in
set_option maxRecDepth 100000 in
theorem c_X11_trace {gS : sG} (mo : Nat) (kw : Nat) (pi : Nat) (ta : Nat) (ms : Nat) (pt : Nat) (po : Nat) (hi : Int) (nw : Nat) (tr : Int → Int) (i : Int) (htr : trB tr 1000) (hb_i : -2147483648 ≤ i ∧ i < 2147483648) : Ct gS (S := Unit) yX11_trace cX11_trace 2 (some .int) 1 32 0 0 [ar mo, ai i] [] (fun q => q ∈ ([(mo, co 11 [ar nw, ar kw, ar pi, ar ta, ar ms, ar pt, ar po, ai hi]), (ta, cn 0 21 tr)] : aW)) (fun _ => True) (fun _ => some (ai (if 0 ≤ i ∧ i < tr 0 ∧ i < 20 then tr (1 + i) else -1))) (fun _ => []) := by
  refine ct_I RX11 [(0, ar mo), (1, ai i)] (by decide) rfl (Nat.le_of_ble_eq_true rfl) rfl (fun x hgS hro hret => ?_)
  subst hgS
  have r0 := hro _ (mem_at 0 rfl)
  have r1 := hro _ (mem_at 1 rfl)
  have ht0 : 0 ≤ tr 0 ∧ tr 0 ≤ 1000 := htr
  show V x cX11_trace RX11 2 (rmU 1 32 0 0) [] 0 [(0, ar mo), (1, ai i)] [] 0 0
  refine v_iload_n (pc := 0) 1 rfl dX11_trace_0 ?_
  refine v_iconst (pc := 1) dX11_trace_1 ?_
  refine v_aload_n (pc := 2) 0 rfl dX11_trace_2 ?_
  refine v_get (pc := 3) (v := ar ta) 3 (Or.inl r0) fl_11_28_11 rfl dX11_trace_3 ?_
  refine v_iconst (pc := 6) dX11_trace_6 ?_
  refine v_iald (pc := 7) (Or.inl r1) (by omega) (by omega) (by decide) dX11_trace_7 ?_
  refine v_bipush (pc := 8) dX11_trace_8 (by decide) ?_
  refine v_callS (pc := 10) [] [] [] (As := [ai (tr 0), ai 20]) (rest := [ai 0, ai i]) (c_J9_min_7cf53 (tr 0) 20 (by first | omega | assumption) (by first | omega | assumption)) wl_X11_196 ws_J9_min_7cf53 wk_J9_min_7cf53 wz_J9 md_J9_min_7cf53 rfl (Nat.le_of_ble_eq_true rfl) ⟨Nat.le_of_ble_eq_true rfl, Nat.le_of_ble_eq_true rfl, Nat.le_of_ble_eq_true rfl, Nat.le_of_ble_eq_true rfl⟩ rfl rfl rfl rfl (by decide) ro_nil dX11_trace_10 (fun u hu => ?_)
  show V x cX11_trace RX11 2 (rmU 1 32 0 0) [] 13 [(0, ar mo), (1, ai i)] [ai (if 20 < (tr 0) then 20 else (tr 0)), ai 0, ai i] 0 0
  refine v_iconst (pc := 13) dX11_trace_13 ?_
  refine v_isub (pc := 14) dX11_trace_14 ?_
  refine v_callS (pc := 15) [] [] [] (As := [ai i, ai 0, ai ((if 20 < (tr 0) then 20 else (tr 0)) - 1)]) (rest := []) (c_X11_isOut i 0 ((if 20 < (tr 0) then 20 else (tr 0)) - 1) (by first | omega | assumption) (by first | omega | assumption) (by first | omega | assumption)) wl_X11_41 ws_X11_isOut wk_X11_isOut wz_X11 md_X11_isOut rfl (Nat.le_of_ble_eq_true rfl) ⟨Nat.le_of_ble_eq_true rfl, Nat.le_of_ble_eq_true rfl, Nat.le_of_ble_eq_true rfl, Nat.le_of_ble_eq_true rfl⟩ rfl rfl rfl rfl (by decide) ro_nil dX11_trace_15 (fun u hu => ?_)
  show V x cX11_trace RX11 2 (rmU 1 32 0 0) [] 18 [(0, ar mo), (1, ai i)] [ai (if i < 0 ∨ ((if 20 < (tr 0) then 20 else (tr 0)) - 1) < i then 1 else 0)] 0 0
  refine v_ifb_eq (pc := 18) 23 dX11_trace_18 (by decide) (fun c_1 => ?_) (fun c_1 => ?_)
  · skip
    refine v_aload_n (pc := 23) 0 rfl dX11_trace_23 ?_
    refine v_get (pc := 24) (v := ar ta) 3 (Or.inl r0) fl_11_28_11 rfl dX11_trace_24 ?_
    refine v_iconst (pc := 27) dX11_trace_27 ?_
    refine v_iload_n (pc := 28) 1 rfl dX11_trace_28 ?_
    refine v_iadd (pc := 29) dX11_trace_29 ?_
    refine v_iald (pc := 30) (Or.inl r1) (by omega) (by omega) (by decide) dX11_trace_30 ?_
    exact hret () _ _ _ _ _ _ trivial (congrArg (fun z => some (ai z)) (by (repeat' split) <;> first | rfl | (exfalso; omega))) rfl (Nat.le_of_ble_eq_true rfl) (Nat.le_of_ble_eq_true rfl) dX11_trace_31
  · skip
    refine v_iconst (pc := 21) dX11_trace_21 ?_
    exact hret () _ _ _ _ _ _ trivial (congrArg (fun z => some (ai z)) (by (repeat' split) <;> first | rfl | (exfalso; omega))) rfl (Nat.le_of_ble_eq_true rfl) (Nat.le_of_ble_eq_true rfl) dX11_trace_22
set_option maxHeartbeats 4000000 in
set_option maxRecDepth 100000 in
theorem c_X11_feed {gS : sG} (mo : Nat) (kw : Nat) (pi : Nat) (ta : Nat) (ms : Nat) (pt : Nat) (po : Nat) (hi : Int) (nw : Nat) (pls : Nat) (ins : Nat) (tap : Nat) (e3 : Nat) (e4 : Nat) (e5 : Nat) (e6 : Nat) (e7 : Nat) (e8 : Nat) (bar : Nat) (f : Int → Int) (tp0 : Int → Int) (sign : Int) (hS : SOK f) (htp : ∀ j : Int, 0 ≤ j → j < 100 → tp0 j = f (121 + j)) (hb_sign : -2147483648 ≤ sign ∧ sign < 2147483648) : Ct gS (S := Int × (Int → Int) × (Int → Int)) yX11_feed cX11_feed 2 (some .int) 1 22 0 0 [ar mo, ai sign] [(nw, co 10 [ar pls, ar ins, ar tap, ar e3, ar e4, ar e5, ar e6, ar e7, ar e8, ai (f 0), ai (f 1), ai (f 4), ai (f 2), ai (f 3), ai (f 6), ar bar]), (tap, cn 0 100 tp0)] (fun q => q ∈ ([(mo, co 11 [ar nw, ar kw, ar pi, ar ta, ar ms, ar pt, ar po, ai hi])] : aW)) (fun u => (u.1, u.2.1) = qFeed f sign ∧ ∀ j : Int, 0 ≤ j → j < 100 → u.2.2 j = u.2.1 (121 + j)) (fun u => some (ai u.1)) (fun u => [(nw, co 10 [ar pls, ar ins, ar tap, ar e3, ar e4, ar e5, ar e6, ar e7, ar e8, ai (u.2.1 0), ai (u.2.1 1), ai (u.2.1 4), ai (u.2.1 2), ai (u.2.1 3), ai (u.2.1 6), ar bar]), (tap, cn 0 100 u.2.2)]) := by
  refine ct_I RX11 [(0, ar mo), (1, ai sign)] (by decide) rfl (Nat.le_of_ble_eq_true rfl) rfl (fun x hgS hro hret => ?_)
  subst hgS
  have r0 := hro _ (mem_at 0 rfl)
  obtain ⟨⟨hg0, hg1, hg2, hg3, hg4, hg5, hg6, hg7⟩, hSp, hSh, hSs, hSb, hSt, hSw⟩ := id hS
  show V x cX11_feed RX11 2 (rmU 1 22 0 0) [(nw, co 10 [ar pls, ar ins, ar tap, ar e3, ar e4, ar e5, ar e6, ar e7, ar e8, ai (f 0), ai (f 1), ai (f 4), ai (f 2), ai (f 3), ai (f 6), ar bar]), (tap, cn 0 100 tp0)] 0 [(0, ar mo), (1, ai sign)] [] 0 0
  refine v_iload_n (pc := 0) 1 rfl dX11_feed_0 ?_
  refine v_iconst (pc := 1) dX11_feed_1 ?_
  refine v_bipush (pc := 2) dX11_feed_2 (by decide) ?_
  refine v_callS (pc := 4) [] [0, 1] [(nw, co 10 [ar pls, ar ins, ar tap, ar e3, ar e4, ar e5, ar e6, ar e7, ar e8, ai (f 0), ai (f 1), ai (f 4), ai (f 2), ai (f 3), ai (f 6), ar bar]), (tap, cn 0 100 tp0)] (As := [ai sign, ai 0, ai 127]) (rest := []) (c_X11_isOut sign 0 127 (by first | omega | assumption) (by first | omega | assumption) (by first | omega | assumption)) wl_X11_41 ws_X11_isOut wk_X11_isOut wz_X11 md_X11_isOut rfl (Nat.le_of_ble_eq_true rfl) ⟨Nat.le_of_ble_eq_true rfl, Nat.le_of_ble_eq_true rfl, Nat.le_of_ble_eq_true rfl, Nat.le_of_ble_eq_true rfl⟩ rfl rfl rfl rfl (by decide) ro_nil dX11_feed_4 (fun u hu => ?_)
  show V x cX11_feed RX11 2 (rmU 1 22 0 0) [(nw, co 10 [ar pls, ar ins, ar tap, ar e3, ar e4, ar e5, ar e6, ar e7, ar e8, ai (f 0), ai (f 1), ai (f 4), ai (f 2), ai (f 3), ai (f 6), ar bar]), (tap, cn 0 100 tp0)] 7 [(0, ar mo), (1, ai sign)] [ai (if sign < 0 ∨ 127 < sign then 1 else 0)] 0 0
  refine v_ifb_eq (pc := 7) 13 dX11_feed_7 (by decide) (fun c_1 => ?_) (fun c_1 => ?_)
  · skip
    refine v_aload_n (pc := 13) 0 rfl dX11_feed_13 ?_
    refine v_get (pc := 14) (v := ar nw) 0 (Or.inl r0) fl_11_12_11 rfl dX11_feed_14 ?_
    refine v_get (pc := 17) (v := ai (f 4)) 11 (Or.inr ⟨0, rfl⟩) fl_11_45_10 rfl dX11_feed_17 ?_
    refine v_bipush (pc := 20) dX11_feed_20 (by decide) ?_
    refine v_icmp_lt (pc := 22) 28 dX11_feed_22 (by decide) (by unfold iB; omega) (by unfold iB; omega) (fun c_2 => ?_) (fun c_2 => ?_)
    · skip
      refine v_aload_n (pc := 28) 0 rfl dX11_feed_28 ?_
      refine v_get (pc := 29) (v := ar nw) 0 (Or.inl r0) fl_11_12_11 rfl dX11_feed_29 ?_
      refine v_get (pc := 32) (v := ar tap) 2 (Or.inr ⟨0, rfl⟩) fl_11_49_10 rfl dX11_feed_32 ?_
      refine v_aload_n (pc := 35) 0 rfl dX11_feed_35 ?_
      refine v_get (pc := 36) (v := ar nw) 0 (Or.inl r0) fl_11_12_11 rfl dX11_feed_36 ?_
      refine v_get (pc := 39) (v := ai (f 4)) 11 (Or.inr ⟨0, rfl⟩) fl_11_45_10 rfl dX11_feed_39 ?_
      refine v_iload_n (pc := 42) 1 rfl dX11_feed_42 ?_
      refine v_iast (pc := 43) 1 rfl (by omega) (by omega) (by decide) (ws2 := [(nw, co 10 [ar pls, ar ins, ar tap, ar e3, ar e4, ar e5, ar e6, ar e7, ar e8, ai (f 0), ai (f 1), ai (f 4), ai (f 2), ai (f 3), ai (f 6), ar bar]), (tap, cn 0 100 (aup tp0 (f 4) sign))]) rfl dX11_feed_43 ?_
      refine v_aload_n (pc := 44) 0 rfl dX11_feed_44 ?_
      refine v_get (pc := 45) (v := ar nw) 0 (Or.inl r0) fl_11_12_11 rfl dX11_feed_45 ?_
      refine v_dup (pc := 48) rfl dX11_feed_48 ?_
      refine v_get (pc := 49) (v := ai (f 4)) 11 (Or.inr ⟨0, rfl⟩) fl_11_45_10 rfl dX11_feed_49 ?_
      refine v_iconst (pc := 52) dX11_feed_52 ?_
      refine v_iadd (pc := 53) dX11_feed_53 ?_
      refine v_put (pc := 54) 11 0 rfl fl_11_45_10 ck_10 ft_10_11 (okV_i _) (Nat.le_of_ble_eq_true rfl) (ws2 := [(nw, co 10 [ar pls, ar ins, ar tap, ar e3, ar e4, ar e5, ar e6, ar e7, ar e8, ai (f 0), ai (f 1), ai ((f 4) + 1), ai (f 2), ai (f 3), ai (f 6), ar bar]), (tap, cn 0 100 (aup tp0 (f 4) sign))]) rfl dX11_feed_54 ?_
      refine v_aload_n (pc := 57) 0 rfl dX11_feed_57 ?_
      refine v_get (pc := 58) (v := ar nw) 0 (Or.inl r0) fl_11_12_11 rfl dX11_feed_58 ?_
      refine v_get (pc := 61) (v := ai ((f 4) + 1)) 11 (Or.inr ⟨0, rfl⟩) fl_11_45_10 rfl dX11_feed_61 ?_
      have w0 : (aup (aup f (121 + f 4) sign) 4 (f 4 + 1)) 0 = f 0 := by simp only [aup_n _ _ (show (0 : Int) ≠ 4 by decide)]; exact aup_n _ _ (by omega)
      have w1 : (aup (aup f (121 + f 4) sign) 4 (f 4 + 1)) 1 = f 1 := by simp only [aup_n _ _ (show (1 : Int) ≠ 4 by decide)]; exact aup_n _ _ (by omega)
      have w4 : (aup (aup f (121 + f 4) sign) 4 (f 4 + 1)) 4 = f 4 + 1 := by exact aup_s _ _ _
      have w2 : (aup (aup f (121 + f 4) sign) 4 (f 4 + 1)) 2 = f 2 := by simp only [aup_n _ _ (show (2 : Int) ≠ 4 by decide)]; exact aup_n _ _ (by omega)
      have w3 : (aup (aup f (121 + f 4) sign) 4 (f 4 + 1)) 3 = f 3 := by simp only [aup_n _ _ (show (3 : Int) ≠ 4 by decide)]; exact aup_n _ _ (by omega)
      have w6 : (aup (aup f (121 + f 4) sign) 4 (f 4 + 1)) 6 = f 6 := by simp only [aup_n _ _ (show (6 : Int) ≠ 4 by decide)]; exact aup_n _ _ (by omega)
      refine v_ws (ws2 := [(nw, co 10 [ar pls, ar ins, ar tap, ar e3, ar e4, ar e5, ar e6, ar e7, ar e8, ai ((aup (aup f (121 + f 4) sign) 4 (f 4 + 1)) 0), ai ((aup (aup f (121 + f 4) sign) 4 (f 4 + 1)) 1), ai ((aup (aup f (121 + f 4) sign) 4 (f 4 + 1)) 4), ai ((aup (aup f (121 + f 4) sign) 4 (f 4 + 1)) 2), ai ((aup (aup f (121 + f 4) sign) 4 (f 4 + 1)) 3), ai ((aup (aup f (121 + f 4) sign) 4 (f 4 + 1)) 6), ar bar]), (tap, cn 0 100 (aup tp0 (f 4) sign))]) (by first | rfl | rw [w0, w1, w4, w2, w3, w6]) ?_
      exact hret (f 4 + 1, (aup (aup f (121 + f 4) sign) 4 (f 4 + 1)), (aup tp0 (f 4) sign)) _ _ _ _ _ _ (by refine ⟨by show (_, _) = _; unfold qFeed; (repeat' split) <;> first | rfl | (exfalso; omega), ?_⟩; intro j j0 j1; show aup tp0 (f 4) sign j = (aup (aup f (121 + f 4) sign) 4 (f 4 + 1)) (121 + j); rw [aup_n _ _ (show (121 + j : Int) ≠ 4 by omega)]; by_cases e : j = f 4; subst e; rw [aup_s, aup_s]; rw [aup_n _ _ e, aup_n _ _ (by omega)]; exact htp j j0 j1) (congrArg (fun z => some (ai z)) (by rfl)) rfl (Nat.le_of_ble_eq_true rfl) (Nat.le_of_ble_eq_true rfl) dX11_feed_64
    · skip
      refine v_bipush (pc := 25) dX11_feed_25 (by decide) ?_
      exact hret ((-4), f, tp0) _ _ _ _ _ _ (by refine ⟨by show (_, _) = _; unfold qFeed; (repeat' split) <;> first | rfl | (exfalso; omega), ?_⟩; exact htp) (congrArg (fun z => some (ai z)) (by rfl)) rfl (Nat.le_of_ble_eq_true rfl) (Nat.le_of_ble_eq_true rfl) dX11_feed_27
  · skip
    refine v_bipush (pc := 10) dX11_feed_10 (by decide) ?_
    exact hret ((-2), f, tp0) _ _ _ _ _ _ (by refine ⟨by show (_, _) = _; unfold qFeed; (repeat' split) <;> first | rfl | (exfalso; omega), ?_⟩; exact htp) (congrArg (fun z => some (ai z)) (by rfl)) rfl (Nat.le_of_ble_eq_true rfl) (Nat.le_of_ble_eq_true rfl) dX11_feed_12
set_option maxHeartbeats 4000000 in
set_option maxRecDepth 100000 in
theorem c_X11_see {gS : sG} (mo : Nat) (kw : Nat) (pi : Nat) (ta : Nat) (ms : Nat) (pt : Nat) (po : Nat) (hi : Int) (nw : Nat) (pls : Nat) (ins : Nat) (tap : Nat) (e3 : Nat) (e4 : Nat) (e5 : Nat) (e6 : Nat) (e7 : Nat) (e8 : Nat) (bar : Nat) (pv : Int → Option Nat) (pl : Int → Nat) (f : Int → Int) (sp : Int → Int) (sm : Int → Int) (sf : Int → Int) (sc : Int → Int) (player : Int) (n : Int) (force : Int) (caught : Int) (hS : SOK f) (hpv : ∀ i : Int, 0 ≤ i → i ≤ f 0 - 1 → pv i = some (pl i)) (hsp : ∀ j : Int, 0 ≤ j → j < 8 → sp j = f (73 + j)) (hsm : ∀ j : Int, 0 ≤ j → j < 8 → sm j = f (81 + j)) (hsf : ∀ j : Int, 0 ≤ j → j < 8 → sf j = f (89 + j)) (hsc : ∀ j : Int, 0 ≤ j → j < 8 → sc j = f (97 + j)) (hb_player : -2147483648 ≤ player ∧ player < 2147483648) (hb_n : -2147483648 ≤ n ∧ n < 2147483648) (hb_force : -2147483648 ≤ force ∧ force < 2147483648) (hb_caught : -2147483648 ≤ caught ∧ caught < 2147483648) : Ct gS (S := Int × (Int → Int) × (Int → Int) × (Int → Int) × (Int → Int) × (Int → Int)) yX11_see cX11_see 6 (some .int) 2 43 0 0 [ar mo, ai player, ai n, ai force, ai caught] [(nw, co 10 [ar pls, ar ins, ar tap, ar e3, ar e4, ar e5, ar e6, ar e7, ar e8, ai (f 0), ai (f 1), ai (f 4), ai (f 2), ai (f 3), ai (f 6), ar bar]), (e3, cn 0 8 sp), (e4, cn 0 8 sm), (e5, cn 0 8 sf), (e6, cn 0 8 sc)] (fun q => q ∈ ([(mo, co 11 [ar nw, ar kw, ar pi, ar ta, ar ms, ar pt, ar po, ai hi]), (pls, cq 3 6 pv)] : aW)) (fun u => (u.1, u.2.1) = qSee f player n force caught ∧ (∀ j : Int, 0 ≤ j → j < 8 → u.2.2.1 j = u.2.1 (73 + j)) ∧ (∀ j : Int, 0 ≤ j → j < 8 → u.2.2.2.1 j = u.2.1 (81 + j)) ∧ (∀ j : Int, 0 ≤ j → j < 8 → u.2.2.2.2.1 j = u.2.1 (89 + j)) ∧ (∀ j : Int, 0 ≤ j → j < 8 → u.2.2.2.2.2 j = u.2.1 (97 + j))) (fun u => some (ai u.1)) (fun u => [(nw, co 10 [ar pls, ar ins, ar tap, ar e3, ar e4, ar e5, ar e6, ar e7, ar e8, ai (u.2.1 0), ai (u.2.1 1), ai (u.2.1 4), ai (u.2.1 2), ai (u.2.1 3), ai (u.2.1 6), ar bar]), (e3, cn 0 8 u.2.2.1), (e4, cn 0 8 u.2.2.2.1), (e5, cn 0 8 u.2.2.2.2.1), (e6, cn 0 8 u.2.2.2.2.2)]) := by
  refine ct_I RX11 [(0, ar mo), (1, ai player), (2, ai n), (3, ai force), (4, ai caught)] (by decide) rfl (Nat.le_of_ble_eq_true rfl) rfl (fun x hgS hro hret => ?_)
  subst hgS
  have r0 := hro _ (mem_at 0 rfl)
  have r1 := hro _ (mem_at 1 rfl)
  obtain ⟨⟨hg0, hg1, hg2, hg3, hg4, hg5, hg6, hg7⟩, hSp, hSh, hSs, hSb, hSt, hSw⟩ := id hS
  show V x cX11_see RX11 6 (rmU 2 43 0 0) [(nw, co 10 [ar pls, ar ins, ar tap, ar e3, ar e4, ar e5, ar e6, ar e7, ar e8, ai (f 0), ai (f 1), ai (f 4), ai (f 2), ai (f 3), ai (f 6), ar bar]), (e3, cn 0 8 sp), (e4, cn 0 8 sm), (e5, cn 0 8 sf), (e6, cn 0 8 sc)] 0 [(0, ar mo), (1, ai player), (2, ai n), (3, ai force), (4, ai caught)] [] 0 0
  refine v_iload_n (pc := 0) 1 rfl dX11_see_0 ?_
  refine v_iconst (pc := 1) dX11_see_1 ?_
  refine v_icmp_ne (pc := 2) 15 dX11_see_2 (by decide) (by unfold iB; omega) (by unfold iB; omega) (fun c_1 => ?_) (fun c_1 => ?_)
  · skip
    refine v_aload_n (pc := 15) 0 rfl dX11_see_15 ?_
    refine v_iload_n (pc := 16) 1 rfl dX11_see_16 ?_
    rcases Classical.em (0 ≤ player ∧ player ≤ f 0 - 1) with hp | hp
    · skip
      refine v_callV (pc := 17) [] [0, 1, 2, 3, 4] [(nw, co 10 [ar pls, ar ins, ar tap, ar e3, ar e4, ar e5, ar e6, ar e7, ar e8, ai (f 0), ai (f 1), ai (f 4), ai (f 2), ai (f 3), ai (f 6), ar bar]), (e3, cn 0 8 sp), (e4, cn 0 8 sm), (e5, cn 0 8 sf), (e6, cn 0 8 sc)] (As := [ai player]) (rest := []) (c_X11_find_y mo kw pi ta ms pt po hi nw pls ins tap e3 e4 e5 e6 e7 e8 bar pv (pl player) f player (by assumption) (by exact hpv player hp.1 hp.2) (by exact hp)) (c := 11) rfl (Or.inl r0) wl_X11_99 wi_X11_find wv_X11_X11_find_X11_find wk_X11_find wz_X11 md_X11_find rfl (Nat.le_of_ble_eq_true rfl) ⟨Nat.le_of_ble_eq_true rfl, Nat.le_of_ble_eq_true rfl, Nat.le_of_ble_eq_true rfl, Nat.le_of_ble_eq_true rfl⟩ rfl rfl rfl rfl (by decide) (ro_cons (Or.inl r0) (ro_cons (Or.inr ⟨0, rfl, by decide⟩) (ro_cons (Or.inl r1) ro_nil))) dX11_see_17 (fun u hu => ?_)
      show V x cX11_see RX11 6 (rmU 2 43 0 0) [(nw, co 10 [ar pls, ar ins, ar tap, ar e3, ar e4, ar e5, ar e6, ar e7, ar e8, ai (f 0), ai (f 1), ai (f 4), ai (f 2), ai (f 3), ai (f 6), ar bar]), (e3, cn 0 8 sp), (e4, cn 0 8 sm), (e5, cn 0 8 sf), (e6, cn 0 8 sc)] 20 [(0, ar mo), (1, ai player), (2, ai n), (3, ai force), (4, ai caught)] [ar (pl player)] 0 0
      refine v_ifnonnull_r (pc := 20) 25 dX11_see_20 (by decide) ?_
      refine v_iload_n (pc := 25) 2 rfl dX11_see_25 ?_
      refine v_callS (pc := 26) [] [0, 1, 2, 3, 4] [(nw, co 10 [ar pls, ar ins, ar tap, ar e3, ar e4, ar e5, ar e6, ar e7, ar e8, ai (f 0), ai (f 1), ai (f 4), ai (f 2), ai (f 3), ai (f 6), ar bar]), (e3, cn 0 8 sp), (e4, cn 0 8 sm), (e5, cn 0 8 sf), (e6, cn 0 8 sc)] (As := [ai n]) (rest := []) (c_X11_isNoPile n (by first | omega | assumption)) wl_X11_135 ws_X11_isNoPile wk_X11_isNoPile wz_X11 md_X11_isNoPile rfl (Nat.le_of_ble_eq_true rfl) ⟨Nat.le_of_ble_eq_true rfl, Nat.le_of_ble_eq_true rfl, Nat.le_of_ble_eq_true rfl, Nat.le_of_ble_eq_true rfl⟩ rfl rfl rfl rfl (by decide) ro_nil dX11_see_26 (fun u hu => ?_)
      show V x cX11_see RX11 6 (rmU 2 43 0 0) [(nw, co 10 [ar pls, ar ins, ar tap, ar e3, ar e4, ar e5, ar e6, ar e7, ar e8, ai (f 0), ai (f 1), ai (f 4), ai (f 2), ai (f 3), ai (f 6), ar bar]), (e3, cn 0 8 sp), (e4, cn 0 8 sm), (e5, cn 0 8 sf), (e6, cn 0 8 sc)] 29 [(0, ar mo), (1, ai player), (2, ai n), (3, ai force), (4, ai caught)] [ai (if n < 1 ∨ 99 < n then 1 else 0)] 0 0
      refine v_ifb_ne (pc := 29) 50 dX11_see_29 (by decide) (fun c_2 => ?_) (fun c_2 => ?_)
      · skip
        refine v_bipush (pc := 50) dX11_see_50 (by decide) ?_
        exact hret ((-2), f, sp, sm, sf, sc) _ _ _ _ _ _ (by refine ⟨by show (_, _) = _; unfold qSee; (repeat' split) <;> first | rfl | (exfalso; omega), (by exact hsp), (by exact hsm), (by exact hsf), (by exact hsc)⟩) (congrArg (fun z => some (ai z)) (by rfl)) rfl (Nat.le_of_ble_eq_true rfl) (Nat.le_of_ble_eq_true rfl) dX11_see_52
      · skip
        refine v_iload_n (pc := 32) 3 rfl dX11_see_32 ?_
        refine v_callS (pc := 33) [] [0, 1, 2, 3, 4] [(nw, co 10 [ar pls, ar ins, ar tap, ar e3, ar e4, ar e5, ar e6, ar e7, ar e8, ai (f 0), ai (f 1), ai (f 4), ai (f 2), ai (f 3), ai (f 6), ar bar]), (e3, cn 0 8 sp), (e4, cn 0 8 sm), (e5, cn 0 8 sf), (e6, cn 0 8 sc)] (As := [ai force]) (rest := []) (c_X11_isNoForce force (by first | omega | assumption)) wl_X11_139 ws_X11_isNoForce wk_X11_isNoForce wz_X11 md_X11_isNoForce rfl (Nat.le_of_ble_eq_true rfl) ⟨Nat.le_of_ble_eq_true rfl, Nat.le_of_ble_eq_true rfl, Nat.le_of_ble_eq_true rfl, Nat.le_of_ble_eq_true rfl⟩ rfl rfl rfl rfl (by decide) ro_nil dX11_see_33 (fun u hu => ?_)
        show V x cX11_see RX11 6 (rmU 2 43 0 0) [(nw, co 10 [ar pls, ar ins, ar tap, ar e3, ar e4, ar e5, ar e6, ar e7, ar e8, ai (f 0), ai (f 1), ai (f 4), ai (f 2), ai (f 3), ai (f 6), ar bar]), (e3, cn 0 8 sp), (e4, cn 0 8 sm), (e5, cn 0 8 sf), (e6, cn 0 8 sc)] 36 [(0, ar mo), (1, ai player), (2, ai n), (3, ai force), (4, ai caught)] [ai (if force < 0 ∨ 20 < force then 1 else 0)] 0 0
        refine v_ifb_ne (pc := 36) 50 dX11_see_36 (by decide) (fun c_3 => ?_) (fun c_3 => ?_)
        · skip
          refine v_bipush (pc := 50) dX11_see_50 (by decide) ?_
          exact hret ((-2), f, sp, sm, sf, sc) _ _ _ _ _ _ (by refine ⟨by show (_, _) = _; unfold qSee; (repeat' split) <;> first | rfl | (exfalso; omega), (by exact hsp), (by exact hsm), (by exact hsf), (by exact hsc)⟩) (congrArg (fun z => some (ai z)) (by rfl)) rfl (Nat.le_of_ble_eq_true rfl) (Nat.le_of_ble_eq_true rfl) dX11_see_52
        · skip
          refine v_iload (pc := 39) 4 rfl dX11_see_39 ?_
          refine v_iconst (pc := 41) dX11_see_41 ?_
          refine v_bipush (pc := 42) dX11_see_42 (by decide) ?_
          refine v_callS (pc := 44) [] [0, 1, 2, 3, 4] [(nw, co 10 [ar pls, ar ins, ar tap, ar e3, ar e4, ar e5, ar e6, ar e7, ar e8, ai (f 0), ai (f 1), ai (f 4), ai (f 2), ai (f 3), ai (f 6), ar bar]), (e3, cn 0 8 sp), (e4, cn 0 8 sm), (e5, cn 0 8 sf), (e6, cn 0 8 sc)] (As := [ai caught, ai 0, ai 99]) (rest := []) (c_X11_isOut caught 0 99 (by first | omega | assumption) (by first | omega | assumption) (by first | omega | assumption)) wl_X11_41 ws_X11_isOut wk_X11_isOut wz_X11 md_X11_isOut rfl (Nat.le_of_ble_eq_true rfl) ⟨Nat.le_of_ble_eq_true rfl, Nat.le_of_ble_eq_true rfl, Nat.le_of_ble_eq_true rfl, Nat.le_of_ble_eq_true rfl⟩ rfl rfl rfl rfl (by decide) ro_nil dX11_see_44 (fun u hu => ?_)
          show V x cX11_see RX11 6 (rmU 2 43 0 0) [(nw, co 10 [ar pls, ar ins, ar tap, ar e3, ar e4, ar e5, ar e6, ar e7, ar e8, ai (f 0), ai (f 1), ai (f 4), ai (f 2), ai (f 3), ai (f 6), ar bar]), (e3, cn 0 8 sp), (e4, cn 0 8 sm), (e5, cn 0 8 sf), (e6, cn 0 8 sc)] 47 [(0, ar mo), (1, ai player), (2, ai n), (3, ai force), (4, ai caught)] [ai (if caught < 0 ∨ 99 < caught then 1 else 0)] 0 0
          refine v_ifb_eq (pc := 47) 53 dX11_see_47 (by decide) (fun c_4 => ?_) (fun c_4 => ?_)
          · skip
            refine v_aload_n (pc := 53) 0 rfl dX11_see_53 ?_
            refine v_get (pc := 54) (v := ar nw) 0 (Or.inl r0) fl_11_12_11 rfl dX11_see_54 ?_
            refine v_get (pc := 57) (v := ai (f 2)) 12 (Or.inr ⟨0, rfl⟩) fl_11_238_10 rfl dX11_see_57 ?_
            refine v_bipush (pc := 60) dX11_see_60 (by decide) ?_
            refine v_icmp_lt (pc := 62) 68 dX11_see_62 (by decide) (by unfold iB; omega) (by unfold iB; omega) (fun c_5 => ?_) (fun c_5 => ?_)
            · skip
              refine v_aload_n (pc := 68) 0 rfl dX11_see_68 ?_
              refine v_get (pc := 69) (v := ar nw) 0 (Or.inl r0) fl_11_12_11 rfl dX11_see_69 ?_
              refine v_get (pc := 72) (v := ai (f 2)) 12 (Or.inr ⟨0, rfl⟩) fl_11_238_10 rfl dX11_see_72 ?_
              refine v_istore (pc := 75) (L2 := [(5, ai (f 2)), (0, ar mo), (1, ai player), (2, ai n), (3, ai force), (4, ai caught)]) rfl (by decide) dX11_see_75 ?_
              refine v_aload_n (pc := 77) 1 rfl dX11_see_77 ?_
              refine v_get (pc := 78) (v := ar nw) 0 (Or.inl r0) fl_11_12_11 rfl dX11_see_78 ?_
              refine v_get (pc := 81) (v := ar e3) 3 (Or.inr ⟨0, rfl⟩) fl_11_241_10 rfl dX11_see_81 ?_
              refine v_iload (pc := 84) 0 rfl dX11_see_84 ?_
              refine v_iload_n (pc := 86) 2 rfl dX11_see_86 ?_
              refine v_iast (pc := 87) 1 rfl (by omega) (by omega) (by decide) (ws2 := [(nw, co 10 [ar pls, ar ins, ar tap, ar e3, ar e4, ar e5, ar e6, ar e7, ar e8, ai (f 0), ai (f 1), ai (f 4), ai (f 2), ai (f 3), ai (f 6), ar bar]), (e3, cn 0 8 (aup sp (f 2) player)), (e4, cn 0 8 sm), (e5, cn 0 8 sf), (e6, cn 0 8 sc)]) rfl dX11_see_87 ?_
              refine v_aload_n (pc := 88) 1 rfl dX11_see_88 ?_
              refine v_get (pc := 89) (v := ar nw) 0 (Or.inl r0) fl_11_12_11 rfl dX11_see_89 ?_
              refine v_get (pc := 92) (v := ar e4) 4 (Or.inr ⟨0, rfl⟩) fl_11_244_10 rfl dX11_see_92 ?_
              refine v_iload (pc := 95) 0 rfl dX11_see_95 ?_
              refine v_iload_n (pc := 97) 3 rfl dX11_see_97 ?_
              refine v_iast (pc := 98) 2 rfl (by omega) (by omega) (by decide) (ws2 := [(nw, co 10 [ar pls, ar ins, ar tap, ar e3, ar e4, ar e5, ar e6, ar e7, ar e8, ai (f 0), ai (f 1), ai (f 4), ai (f 2), ai (f 3), ai (f 6), ar bar]), (e3, cn 0 8 (aup sp (f 2) player)), (e4, cn 0 8 (aup sm (f 2) n)), (e5, cn 0 8 sf), (e6, cn 0 8 sc)]) rfl dX11_see_98 ?_
              refine v_aload_n (pc := 99) 1 rfl dX11_see_99 ?_
              refine v_get (pc := 100) (v := ar nw) 0 (Or.inl r0) fl_11_12_11 rfl dX11_see_100 ?_
              refine v_get (pc := 103) (v := ar e5) 5 (Or.inr ⟨0, rfl⟩) fl_11_247_10 rfl dX11_see_103 ?_
              refine v_iload (pc := 106) 0 rfl dX11_see_106 ?_
              refine v_iload_n (pc := 108) 4 rfl dX11_see_108 ?_
              refine v_iast (pc := 109) 3 rfl (by omega) (by omega) (by decide) (ws2 := [(nw, co 10 [ar pls, ar ins, ar tap, ar e3, ar e4, ar e5, ar e6, ar e7, ar e8, ai (f 0), ai (f 1), ai (f 4), ai (f 2), ai (f 3), ai (f 6), ar bar]), (e3, cn 0 8 (aup sp (f 2) player)), (e4, cn 0 8 (aup sm (f 2) n)), (e5, cn 0 8 (aup sf (f 2) force)), (e6, cn 0 8 sc)]) rfl dX11_see_109 ?_
              refine v_aload_n (pc := 110) 1 rfl dX11_see_110 ?_
              refine v_get (pc := 111) (v := ar nw) 0 (Or.inl r0) fl_11_12_11 rfl dX11_see_111 ?_
              refine v_get (pc := 114) (v := ar e6) 6 (Or.inr ⟨0, rfl⟩) fl_11_250_10 rfl dX11_see_114 ?_
              refine v_iload (pc := 117) 0 rfl dX11_see_117 ?_
              refine v_iload (pc := 119) 5 rfl dX11_see_119 ?_
              refine v_iast (pc := 121) 4 rfl (by omega) (by omega) (by decide) (ws2 := [(nw, co 10 [ar pls, ar ins, ar tap, ar e3, ar e4, ar e5, ar e6, ar e7, ar e8, ai (f 0), ai (f 1), ai (f 4), ai (f 2), ai (f 3), ai (f 6), ar bar]), (e3, cn 0 8 (aup sp (f 2) player)), (e4, cn 0 8 (aup sm (f 2) n)), (e5, cn 0 8 (aup sf (f 2) force)), (e6, cn 0 8 (aup sc (f 2) caught))]) rfl dX11_see_121 ?_
              refine v_aload_n (pc := 122) 1 rfl dX11_see_122 ?_
              refine v_get (pc := 123) (v := ar nw) 0 (Or.inl r0) fl_11_12_11 rfl dX11_see_123 ?_
              refine v_dup (pc := 126) rfl dX11_see_126 ?_
              refine v_get (pc := 127) (v := ai (f 2)) 12 (Or.inr ⟨0, rfl⟩) fl_11_238_10 rfl dX11_see_127 ?_
              refine v_iconst (pc := 130) dX11_see_130 ?_
              refine v_iadd (pc := 131) dX11_see_131 ?_
              refine v_put (pc := 132) 12 0 rfl fl_11_238_10 ck_10 ft_10_12 (okV_i _) (Nat.le_of_ble_eq_true rfl) (ws2 := [(nw, co 10 [ar pls, ar ins, ar tap, ar e3, ar e4, ar e5, ar e6, ar e7, ar e8, ai (f 0), ai (f 1), ai (f 4), ai ((f 2) + 1), ai (f 3), ai (f 6), ar bar]), (e3, cn 0 8 (aup sp (f 2) player)), (e4, cn 0 8 (aup sm (f 2) n)), (e5, cn 0 8 (aup sf (f 2) force)), (e6, cn 0 8 (aup sc (f 2) caught))]) rfl dX11_see_132 ?_
              refine v_aload_n (pc := 135) 1 rfl dX11_see_135 ?_
              refine v_get (pc := 136) (v := ar nw) 0 (Or.inl r0) fl_11_12_11 rfl dX11_see_136 ?_
              refine v_get (pc := 139) (v := ai ((f 2) + 1)) 12 (Or.inr ⟨0, rfl⟩) fl_11_238_10 rfl dX11_see_139 ?_
              have w0 : (aup (aup (aup (aup (aup f (73 + f 2) player) (81 + f 2) n) (89 + f 2) force) (97 + f 2) caught) 2 (f 2 + 1)) 0 = f 0 := by rw [aup_n _ _ (show (0 : Int) ≠ 2 by decide), aup_n _ _ (by omega), aup_n _ _ (by omega), aup_n _ _ (by omega), aup_n _ _ (by omega)]
              have w1 : (aup (aup (aup (aup (aup f (73 + f 2) player) (81 + f 2) n) (89 + f 2) force) (97 + f 2) caught) 2 (f 2 + 1)) 1 = f 1 := by rw [aup_n _ _ (show (1 : Int) ≠ 2 by decide), aup_n _ _ (by omega), aup_n _ _ (by omega), aup_n _ _ (by omega), aup_n _ _ (by omega)]
              have w4 : (aup (aup (aup (aup (aup f (73 + f 2) player) (81 + f 2) n) (89 + f 2) force) (97 + f 2) caught) 2 (f 2 + 1)) 4 = f 4 := by rw [aup_n _ _ (show (4 : Int) ≠ 2 by decide), aup_n _ _ (by omega), aup_n _ _ (by omega), aup_n _ _ (by omega), aup_n _ _ (by omega)]
              have w2 : (aup (aup (aup (aup (aup f (73 + f 2) player) (81 + f 2) n) (89 + f 2) force) (97 + f 2) caught) 2 (f 2 + 1)) 2 = f 2 + 1 := by exact aup_s _ _ _
              have w3 : (aup (aup (aup (aup (aup f (73 + f 2) player) (81 + f 2) n) (89 + f 2) force) (97 + f 2) caught) 2 (f 2 + 1)) 3 = f 3 := by rw [aup_n _ _ (show (3 : Int) ≠ 2 by decide), aup_n _ _ (by omega), aup_n _ _ (by omega), aup_n _ _ (by omega), aup_n _ _ (by omega)]
              have w6 : (aup (aup (aup (aup (aup f (73 + f 2) player) (81 + f 2) n) (89 + f 2) force) (97 + f 2) caught) 2 (f 2 + 1)) 6 = f 6 := by rw [aup_n _ _ (show (6 : Int) ≠ 2 by decide), aup_n _ _ (by omega), aup_n _ _ (by omega), aup_n _ _ (by omega), aup_n _ _ (by omega)]
              refine v_ws (ws2 := [(nw, co 10 [ar pls, ar ins, ar tap, ar e3, ar e4, ar e5, ar e6, ar e7, ar e8, ai ((aup (aup (aup (aup (aup f (73 + f 2) player) (81 + f 2) n) (89 + f 2) force) (97 + f 2) caught) 2 (f 2 + 1)) 0), ai ((aup (aup (aup (aup (aup f (73 + f 2) player) (81 + f 2) n) (89 + f 2) force) (97 + f 2) caught) 2 (f 2 + 1)) 1), ai ((aup (aup (aup (aup (aup f (73 + f 2) player) (81 + f 2) n) (89 + f 2) force) (97 + f 2) caught) 2 (f 2 + 1)) 4), ai ((aup (aup (aup (aup (aup f (73 + f 2) player) (81 + f 2) n) (89 + f 2) force) (97 + f 2) caught) 2 (f 2 + 1)) 2), ai ((aup (aup (aup (aup (aup f (73 + f 2) player) (81 + f 2) n) (89 + f 2) force) (97 + f 2) caught) 2 (f 2 + 1)) 3), ai ((aup (aup (aup (aup (aup f (73 + f 2) player) (81 + f 2) n) (89 + f 2) force) (97 + f 2) caught) 2 (f 2 + 1)) 6), ar bar]), (e3, cn 0 8 (aup sp (f 2) player)), (e4, cn 0 8 (aup sm (f 2) n)), (e5, cn 0 8 (aup sf (f 2) force)), (e6, cn 0 8 (aup sc (f 2) caught))]) (by first | rfl | rw [w0, w1, w4, w2, w3, w6]) ?_
              exact hret (f 2 + 1, (aup (aup (aup (aup (aup f (73 + f 2) player) (81 + f 2) n) (89 + f 2) force) (97 + f 2) caught) 2 (f 2 + 1)), (aup sp (f 2) player), (aup sm (f 2) n), (aup sf (f 2) force), (aup sc (f 2) caught)) _ _ _ _ _ _ (by refine ⟨by show (_, _) = _; unfold qSee; (repeat' split) <;> first | rfl | (exfalso; omega), (by intro j j0 j1; show aup sp (f 2) player j = (aup (aup (aup (aup (aup f (73 + f 2) player) (81 + f 2) n) (89 + f 2) force) (97 + f 2) caught) 2 (f 2 + 1)) (73 + j); unfold aup; (repeat' split) <;> first | rfl | (exfalso; omega) | exact hsp j j0 j1), (by intro j j0 j1; show aup sm (f 2) n j = (aup (aup (aup (aup (aup f (73 + f 2) player) (81 + f 2) n) (89 + f 2) force) (97 + f 2) caught) 2 (f 2 + 1)) (81 + j); unfold aup; (repeat' split) <;> first | rfl | (exfalso; omega) | exact hsm j j0 j1), (by intro j j0 j1; show aup sf (f 2) force j = (aup (aup (aup (aup (aup f (73 + f 2) player) (81 + f 2) n) (89 + f 2) force) (97 + f 2) caught) 2 (f 2 + 1)) (89 + j); unfold aup; (repeat' split) <;> first | rfl | (exfalso; omega) | exact hsf j j0 j1), (by intro j j0 j1; show aup sc (f 2) caught j = (aup (aup (aup (aup (aup f (73 + f 2) player) (81 + f 2) n) (89 + f 2) force) (97 + f 2) caught) 2 (f 2 + 1)) (97 + j); unfold aup; (repeat' split) <;> first | rfl | (exfalso; omega) | exact hsc j j0 j1)⟩) (congrArg (fun z => some (ai z)) (by rfl)) rfl (Nat.le_of_ble_eq_true rfl) (Nat.le_of_ble_eq_true rfl) dX11_see_142
            · skip
              refine v_bipush (pc := 65) dX11_see_65 (by decide) ?_
              exact hret ((-4), f, sp, sm, sf, sc) _ _ _ _ _ _ (by refine ⟨by show (_, _) = _; unfold qSee; (repeat' split) <;> first | rfl | (exfalso; omega), (by exact hsp), (by exact hsm), (by exact hsf), (by exact hsc)⟩) (congrArg (fun z => some (ai z)) (by rfl)) rfl (Nat.le_of_ble_eq_true rfl) (Nat.le_of_ble_eq_true rfl) dX11_see_67
          · skip
            refine v_bipush (pc := 50) dX11_see_50 (by decide) ?_
            exact hret ((-2), f, sp, sm, sf, sc) _ _ _ _ _ _ (by refine ⟨by show (_, _) = _; unfold qSee; (repeat' split) <;> first | rfl | (exfalso; omega), (by exact hsp), (by exact hsm), (by exact hsf), (by exact hsc)⟩) (congrArg (fun z => some (ai z)) (by rfl)) rfl (Nat.le_of_ble_eq_true rfl) (Nat.le_of_ble_eq_true rfl) dX11_see_52
    · skip
      refine v_callV (pc := 17) [] [0, 1, 2, 3, 4] [(nw, co 10 [ar pls, ar ins, ar tap, ar e3, ar e4, ar e5, ar e6, ar e7, ar e8, ai (f 0), ai (f 1), ai (f 4), ai (f 2), ai (f 3), ai (f 6), ar bar]), (e3, cn 0 8 sp), (e4, cn 0 8 sm), (e5, cn 0 8 sf), (e6, cn 0 8 sc)] (As := [ai player]) (rest := []) (c_X11_find_n mo kw pi ta ms pt po hi nw pls ins tap e3 e4 e5 e6 e7 e8 bar pv f player (by assumption) (by exact hp) (by first | omega | assumption)) (c := 11) rfl (Or.inl r0) wl_X11_99 wi_X11_find wv_X11_X11_find_X11_find wk_X11_find wz_X11 md_X11_find rfl (Nat.le_of_ble_eq_true rfl) ⟨Nat.le_of_ble_eq_true rfl, Nat.le_of_ble_eq_true rfl, Nat.le_of_ble_eq_true rfl, Nat.le_of_ble_eq_true rfl⟩ rfl rfl rfl rfl (by decide) (ro_cons (Or.inl r0) (ro_cons (Or.inr ⟨0, rfl, by decide⟩) (ro_cons (Or.inl r1) ro_nil))) dX11_see_17 (fun u hu => ?_)
      show V x cX11_see RX11 6 (rmU 2 43 0 0) [(nw, co 10 [ar pls, ar ins, ar tap, ar e3, ar e4, ar e5, ar e6, ar e7, ar e8, ai (f 0), ai (f 1), ai (f 4), ai (f 2), ai (f 3), ai (f 6), ar bar]), (e3, cn 0 8 sp), (e4, cn 0 8 sm), (e5, cn 0 8 sf), (e6, cn 0 8 sc)] 20 [(0, ar mo), (1, ai player), (2, ai n), (3, ai force), (4, ai caught)] [an] 0 0
      refine v_ifnonnull_n (pc := 20) dX11_see_20 ?_
      refine v_iconst (pc := 23) dX11_see_23 ?_
      exact hret ((-1), f, sp, sm, sf, sc) _ _ _ _ _ _ (by refine ⟨by show (_, _) = _; unfold qSee; (repeat' split) <;> first | rfl | (exfalso; omega), (by exact hsp), (by exact hsm), (by exact hsf), (by exact hsc)⟩) (congrArg (fun z => some (ai z)) (by rfl)) rfl (Nat.le_of_ble_eq_true rfl) (Nat.le_of_ble_eq_true rfl) dX11_see_24
  · skip
    refine v_aload_n (pc := 5) 0 rfl dX11_see_5 ?_
    refine v_get (pc := 6) (v := ar nw) 0 (Or.inl r0) fl_11_12_11 rfl dX11_see_6 ?_
    refine v_iconst (pc := 9) dX11_see_9 ?_
    refine v_put (pc := 10) 12 0 rfl fl_11_238_10 ck_10 ft_10_12 (okV_i _) (Nat.le_of_ble_eq_true rfl) (ws2 := [(nw, co 10 [ar pls, ar ins, ar tap, ar e3, ar e4, ar e5, ar e6, ar e7, ar e8, ai (f 0), ai (f 1), ai (f 4), ai 0, ai (f 3), ai (f 6), ar bar]), (e3, cn 0 8 sp), (e4, cn 0 8 sm), (e5, cn 0 8 sf), (e6, cn 0 8 sc)]) rfl dX11_see_10 ?_
    refine v_iconst (pc := 13) dX11_see_13 ?_
    have w0 : (aup f 2 0) 0 = f 0 := aup_n _ _ (by omega)
    have w1 : (aup f 2 0) 1 = f 1 := aup_n _ _ (by omega)
    have w4 : (aup f 2 0) 4 = f 4 := aup_n _ _ (by omega)
    have w2 : (aup f 2 0) 2 = 0 := aup_s _ _ _
    have w3 : (aup f 2 0) 3 = f 3 := aup_n _ _ (by omega)
    have w6 : (aup f 2 0) 6 = f 6 := aup_n _ _ (by omega)
    refine v_ws (ws2 := [(nw, co 10 [ar pls, ar ins, ar tap, ar e3, ar e4, ar e5, ar e6, ar e7, ar e8, ai ((aup f 2 0) 0), ai ((aup f 2 0) 1), ai ((aup f 2 0) 4), ai ((aup f 2 0) 2), ai ((aup f 2 0) 3), ai ((aup f 2 0) 6), ar bar]), (e3, cn 0 8 sp), (e4, cn 0 8 sm), (e5, cn 0 8 sf), (e6, cn 0 8 sc)]) (by first | rfl | rw [w0, w1, w4, w2, w3, w6]) ?_
    exact hret (0, (aup f 2 0), sp, sm, sf, sc) _ _ _ _ _ _ (by refine ⟨by show (_, _) = _; unfold qSee; (repeat' split) <;> first | rfl | (exfalso; omega), (by intro j j0 j1; show sp j = (aup f 2 0) (73 + j); rw [aup_n _ _ (by omega)]; exact hsp j j0 j1), (by intro j j0 j1; show sm j = (aup f 2 0) (81 + j); rw [aup_n _ _ (by omega)]; exact hsm j j0 j1), (by intro j j0 j1; show sf j = (aup f 2 0) (89 + j); rw [aup_n _ _ (by omega)]; exact hsf j j0 j1), (by intro j j0 j1; show sc j = (aup f 2 0) (97 + j); rw [aup_n _ _ (by omega)]; exact hsc j j0 j1)⟩) (congrArg (fun z => some (ai z)) (by rfl)) rfl (Nat.le_of_ble_eq_true rfl) (Nat.le_of_ble_eq_true rfl) dX11_see_14
set_option maxHeartbeats 4000000 in
set_option maxRecDepth 100000 in
theorem c_X11_book {gS : sG} (mo : Nat) (kw : Nat) (pi : Nat) (ta : Nat) (ms : Nat) (pt : Nat) (po : Nat) (hi : Int) (nw : Nat) (pls : Nat) (ins : Nat) (tap : Nat) (e3 : Nat) (e4 : Nat) (e5 : Nat) (e6 : Nat) (e7 : Nat) (e8 : Nat) (bar : Nat) (pv : Int → Option Nat) (pl : Int → Nat) (f : Int → Int) (bp : Int → Int) (bm : Int → Int) (player : Int) (most : Int) (hS : SOK f) (hpv : ∀ i : Int, 0 ≤ i → i ≤ f 0 - 1 → pv i = some (pl i)) (hbp : ∀ j : Int, 0 ≤ j → j < 8 → bp j = f (105 + j)) (hbm : ∀ j : Int, 0 ≤ j → j < 8 → bm j = f (113 + j)) (hb_player : -2147483648 ≤ player ∧ player < 2147483648) (hb_most : -2147483648 ≤ most ∧ most < 2147483648) : Ct gS (S := Int × (Int → Int) × (Int → Int) × (Int → Int)) yX11_book cX11_book 3 (some .int) 2 43 0 0 [ar mo, ai player, ai most] [(nw, co 10 [ar pls, ar ins, ar tap, ar e3, ar e4, ar e5, ar e6, ar e7, ar e8, ai (f 0), ai (f 1), ai (f 4), ai (f 2), ai (f 3), ai (f 6), ar bar]), (e7, cn 0 8 bp), (e8, cn 0 8 bm)] (fun q => q ∈ ([(mo, co 11 [ar nw, ar kw, ar pi, ar ta, ar ms, ar pt, ar po, ai hi]), (pls, cq 3 6 pv)] : aW)) (fun u => (u.1, u.2.1) = qBook f player most ∧ (∀ j : Int, 0 ≤ j → j < 8 → u.2.2.1 j = u.2.1 (105 + j)) ∧ (∀ j : Int, 0 ≤ j → j < 8 → u.2.2.2 j = u.2.1 (113 + j))) (fun u => some (ai u.1)) (fun u => [(nw, co 10 [ar pls, ar ins, ar tap, ar e3, ar e4, ar e5, ar e6, ar e7, ar e8, ai (u.2.1 0), ai (u.2.1 1), ai (u.2.1 4), ai (u.2.1 2), ai (u.2.1 3), ai (u.2.1 6), ar bar]), (e7, cn 0 8 u.2.2.1), (e8, cn 0 8 u.2.2.2)]) := by
  refine ct_I RX11 [(0, ar mo), (1, ai player), (2, ai most)] (by decide) rfl (Nat.le_of_ble_eq_true rfl) rfl (fun x hgS hro hret => ?_)
  subst hgS
  have r0 := hro _ (mem_at 0 rfl)
  have r1 := hro _ (mem_at 1 rfl)
  obtain ⟨⟨hg0, hg1, hg2, hg3, hg4, hg5, hg6, hg7⟩, hSp, hSh, hSs, hSb, hSt, hSw⟩ := id hS
  show V x cX11_book RX11 3 (rmU 2 43 0 0) [(nw, co 10 [ar pls, ar ins, ar tap, ar e3, ar e4, ar e5, ar e6, ar e7, ar e8, ai (f 0), ai (f 1), ai (f 4), ai (f 2), ai (f 3), ai (f 6), ar bar]), (e7, cn 0 8 bp), (e8, cn 0 8 bm)] 0 [(0, ar mo), (1, ai player), (2, ai most)] [] 0 0
  refine v_iload_n (pc := 0) 1 rfl dX11_book_0 ?_
  refine v_iconst (pc := 1) dX11_book_1 ?_
  refine v_icmp_ne (pc := 2) 15 dX11_book_2 (by decide) (by unfold iB; omega) (by unfold iB; omega) (fun c_1 => ?_) (fun c_1 => ?_)
  · skip
    refine v_aload_n (pc := 15) 0 rfl dX11_book_15 ?_
    refine v_iload_n (pc := 16) 1 rfl dX11_book_16 ?_
    rcases Classical.em (0 ≤ player ∧ player ≤ f 0 - 1) with hp | hp
    · skip
      refine v_callV (pc := 17) [] [0, 1, 2] [(nw, co 10 [ar pls, ar ins, ar tap, ar e3, ar e4, ar e5, ar e6, ar e7, ar e8, ai (f 0), ai (f 1), ai (f 4), ai (f 2), ai (f 3), ai (f 6), ar bar]), (e7, cn 0 8 bp), (e8, cn 0 8 bm)] (As := [ai player]) (rest := []) (c_X11_find_y mo kw pi ta ms pt po hi nw pls ins tap e3 e4 e5 e6 e7 e8 bar pv (pl player) f player (by assumption) (by exact hpv player hp.1 hp.2) (by exact hp)) (c := 11) rfl (Or.inl r0) wl_X11_99 wi_X11_find wv_X11_X11_find_X11_find wk_X11_find wz_X11 md_X11_find rfl (Nat.le_of_ble_eq_true rfl) ⟨Nat.le_of_ble_eq_true rfl, Nat.le_of_ble_eq_true rfl, Nat.le_of_ble_eq_true rfl, Nat.le_of_ble_eq_true rfl⟩ rfl rfl rfl rfl (by decide) (ro_cons (Or.inl r0) (ro_cons (Or.inr ⟨0, rfl, by decide⟩) (ro_cons (Or.inl r1) ro_nil))) dX11_book_17 (fun u hu => ?_)
      show V x cX11_book RX11 3 (rmU 2 43 0 0) [(nw, co 10 [ar pls, ar ins, ar tap, ar e3, ar e4, ar e5, ar e6, ar e7, ar e8, ai (f 0), ai (f 1), ai (f 4), ai (f 2), ai (f 3), ai (f 6), ar bar]), (e7, cn 0 8 bp), (e8, cn 0 8 bm)] 20 [(0, ar mo), (1, ai player), (2, ai most)] [ar (pl player)] 0 0
      refine v_ifnonnull_r (pc := 20) 25 dX11_book_20 (by decide) ?_
      refine v_iload_n (pc := 25) 2 rfl dX11_book_25 ?_
      refine v_iconst (pc := 26) dX11_book_26 ?_
      refine v_bipush (pc := 27) dX11_book_27 (by decide) ?_
      refine v_callS (pc := 29) [] [0, 1, 2] [(nw, co 10 [ar pls, ar ins, ar tap, ar e3, ar e4, ar e5, ar e6, ar e7, ar e8, ai (f 0), ai (f 1), ai (f 4), ai (f 2), ai (f 3), ai (f 6), ar bar]), (e7, cn 0 8 bp), (e8, cn 0 8 bm)] (As := [ai most, ai 0, ai 99]) (rest := []) (c_X11_isOut most 0 99 (by first | omega | assumption) (by first | omega | assumption) (by first | omega | assumption)) wl_X11_41 ws_X11_isOut wk_X11_isOut wz_X11 md_X11_isOut rfl (Nat.le_of_ble_eq_true rfl) ⟨Nat.le_of_ble_eq_true rfl, Nat.le_of_ble_eq_true rfl, Nat.le_of_ble_eq_true rfl, Nat.le_of_ble_eq_true rfl⟩ rfl rfl rfl rfl (by decide) ro_nil dX11_book_29 (fun u hu => ?_)
      show V x cX11_book RX11 3 (rmU 2 43 0 0) [(nw, co 10 [ar pls, ar ins, ar tap, ar e3, ar e4, ar e5, ar e6, ar e7, ar e8, ai (f 0), ai (f 1), ai (f 4), ai (f 2), ai (f 3), ai (f 6), ar bar]), (e7, cn 0 8 bp), (e8, cn 0 8 bm)] 32 [(0, ar mo), (1, ai player), (2, ai most)] [ai (if most < 0 ∨ 99 < most then 1 else 0)] 0 0
      refine v_ifb_eq (pc := 32) 38 dX11_book_32 (by decide) (fun c_2 => ?_) (fun c_2 => ?_)
      · skip
        refine v_aload_n (pc := 38) 0 rfl dX11_book_38 ?_
        refine v_get (pc := 39) (v := ar nw) 0 (Or.inl r0) fl_11_12_11 rfl dX11_book_39 ?_
        refine v_get (pc := 42) (v := ai (f 3)) 13 (Or.inr ⟨0, rfl⟩) fl_11_261_10 rfl dX11_book_42 ?_
        refine v_bipush (pc := 45) dX11_book_45 (by decide) ?_
        refine v_icmp_lt (pc := 47) 53 dX11_book_47 (by decide) (by unfold iB; omega) (by unfold iB; omega) (fun c_3 => ?_) (fun c_3 => ?_)
        · skip
          refine v_aload_n (pc := 53) 0 rfl dX11_book_53 ?_
          refine v_get (pc := 54) (v := ar nw) 0 (Or.inl r0) fl_11_12_11 rfl dX11_book_54 ?_
          refine v_get (pc := 57) (v := ar e7) 7 (Or.inr ⟨0, rfl⟩) fl_11_264_10 rfl dX11_book_57 ?_
          refine v_aload_n (pc := 60) 0 rfl dX11_book_60 ?_
          refine v_get (pc := 61) (v := ar nw) 0 (Or.inl r0) fl_11_12_11 rfl dX11_book_61 ?_
          refine v_get (pc := 64) (v := ai (f 3)) 13 (Or.inr ⟨0, rfl⟩) fl_11_261_10 rfl dX11_book_64 ?_
          refine v_iload_n (pc := 67) 1 rfl dX11_book_67 ?_
          refine v_iast (pc := 68) 1 rfl (by omega) (by omega) (by decide) (ws2 := [(nw, co 10 [ar pls, ar ins, ar tap, ar e3, ar e4, ar e5, ar e6, ar e7, ar e8, ai (f 0), ai (f 1), ai (f 4), ai (f 2), ai (f 3), ai (f 6), ar bar]), (e7, cn 0 8 (aup bp (f 3) player)), (e8, cn 0 8 bm)]) rfl dX11_book_68 ?_
          refine v_aload_n (pc := 69) 0 rfl dX11_book_69 ?_
          refine v_get (pc := 70) (v := ar nw) 0 (Or.inl r0) fl_11_12_11 rfl dX11_book_70 ?_
          refine v_get (pc := 73) (v := ar e8) 8 (Or.inr ⟨0, rfl⟩) fl_11_267_10 rfl dX11_book_73 ?_
          refine v_aload_n (pc := 76) 0 rfl dX11_book_76 ?_
          refine v_get (pc := 77) (v := ar nw) 0 (Or.inl r0) fl_11_12_11 rfl dX11_book_77 ?_
          refine v_get (pc := 80) (v := ai (f 3)) 13 (Or.inr ⟨0, rfl⟩) fl_11_261_10 rfl dX11_book_80 ?_
          refine v_iload_n (pc := 83) 2 rfl dX11_book_83 ?_
          refine v_iast (pc := 84) 2 rfl (by omega) (by omega) (by decide) (ws2 := [(nw, co 10 [ar pls, ar ins, ar tap, ar e3, ar e4, ar e5, ar e6, ar e7, ar e8, ai (f 0), ai (f 1), ai (f 4), ai (f 2), ai (f 3), ai (f 6), ar bar]), (e7, cn 0 8 (aup bp (f 3) player)), (e8, cn 0 8 (aup bm (f 3) most))]) rfl dX11_book_84 ?_
          refine v_aload_n (pc := 85) 0 rfl dX11_book_85 ?_
          refine v_get (pc := 86) (v := ar nw) 0 (Or.inl r0) fl_11_12_11 rfl dX11_book_86 ?_
          refine v_dup (pc := 89) rfl dX11_book_89 ?_
          refine v_get (pc := 90) (v := ai (f 3)) 13 (Or.inr ⟨0, rfl⟩) fl_11_261_10 rfl dX11_book_90 ?_
          refine v_iconst (pc := 93) dX11_book_93 ?_
          refine v_iadd (pc := 94) dX11_book_94 ?_
          refine v_put (pc := 95) 13 0 rfl fl_11_261_10 ck_10 ft_10_13 (okV_i _) (Nat.le_of_ble_eq_true rfl) (ws2 := [(nw, co 10 [ar pls, ar ins, ar tap, ar e3, ar e4, ar e5, ar e6, ar e7, ar e8, ai (f 0), ai (f 1), ai (f 4), ai (f 2), ai ((f 3) + 1), ai (f 6), ar bar]), (e7, cn 0 8 (aup bp (f 3) player)), (e8, cn 0 8 (aup bm (f 3) most))]) rfl dX11_book_95 ?_
          refine v_aload_n (pc := 98) 0 rfl dX11_book_98 ?_
          refine v_get (pc := 99) (v := ar nw) 0 (Or.inl r0) fl_11_12_11 rfl dX11_book_99 ?_
          refine v_get (pc := 102) (v := ai ((f 3) + 1)) 13 (Or.inr ⟨0, rfl⟩) fl_11_261_10 rfl dX11_book_102 ?_
          have w0 : (aup (aup (aup f (105 + f 3) player) (113 + f 3) most) 3 (f 3 + 1)) 0 = f 0 := by rw [aup_n _ _ (show (0 : Int) ≠ 3 by decide), aup_n _ _ (by omega), aup_n _ _ (by omega)]
          have w1 : (aup (aup (aup f (105 + f 3) player) (113 + f 3) most) 3 (f 3 + 1)) 1 = f 1 := by rw [aup_n _ _ (show (1 : Int) ≠ 3 by decide), aup_n _ _ (by omega), aup_n _ _ (by omega)]
          have w4 : (aup (aup (aup f (105 + f 3) player) (113 + f 3) most) 3 (f 3 + 1)) 4 = f 4 := by rw [aup_n _ _ (show (4 : Int) ≠ 3 by decide), aup_n _ _ (by omega), aup_n _ _ (by omega)]
          have w2 : (aup (aup (aup f (105 + f 3) player) (113 + f 3) most) 3 (f 3 + 1)) 2 = f 2 := by rw [aup_n _ _ (show (2 : Int) ≠ 3 by decide), aup_n _ _ (by omega), aup_n _ _ (by omega)]
          have w3 : (aup (aup (aup f (105 + f 3) player) (113 + f 3) most) 3 (f 3 + 1)) 3 = f 3 + 1 := by exact aup_s _ _ _
          have w6 : (aup (aup (aup f (105 + f 3) player) (113 + f 3) most) 3 (f 3 + 1)) 6 = f 6 := by rw [aup_n _ _ (show (6 : Int) ≠ 3 by decide), aup_n _ _ (by omega), aup_n _ _ (by omega)]
          refine v_ws (ws2 := [(nw, co 10 [ar pls, ar ins, ar tap, ar e3, ar e4, ar e5, ar e6, ar e7, ar e8, ai ((aup (aup (aup f (105 + f 3) player) (113 + f 3) most) 3 (f 3 + 1)) 0), ai ((aup (aup (aup f (105 + f 3) player) (113 + f 3) most) 3 (f 3 + 1)) 1), ai ((aup (aup (aup f (105 + f 3) player) (113 + f 3) most) 3 (f 3 + 1)) 4), ai ((aup (aup (aup f (105 + f 3) player) (113 + f 3) most) 3 (f 3 + 1)) 2), ai ((aup (aup (aup f (105 + f 3) player) (113 + f 3) most) 3 (f 3 + 1)) 3), ai ((aup (aup (aup f (105 + f 3) player) (113 + f 3) most) 3 (f 3 + 1)) 6), ar bar]), (e7, cn 0 8 (aup bp (f 3) player)), (e8, cn 0 8 (aup bm (f 3) most))]) (by first | rfl | rw [w0, w1, w4, w2, w3, w6]) ?_
          exact hret (f 3 + 1, (aup (aup (aup f (105 + f 3) player) (113 + f 3) most) 3 (f 3 + 1)), (aup bp (f 3) player), (aup bm (f 3) most)) _ _ _ _ _ _ (by refine ⟨by show (_, _) = _; unfold qBook; (repeat' split) <;> first | rfl | (exfalso; omega), (by intro j j0 j1; show aup bp (f 3) player j = (aup (aup (aup f (105 + f 3) player) (113 + f 3) most) 3 (f 3 + 1)) (105 + j); unfold aup; (repeat' split) <;> first | rfl | (exfalso; omega) | exact hbp j j0 j1), (by intro j j0 j1; show aup bm (f 3) most j = (aup (aup (aup f (105 + f 3) player) (113 + f 3) most) 3 (f 3 + 1)) (113 + j); unfold aup; (repeat' split) <;> first | rfl | (exfalso; omega) | exact hbm j j0 j1)⟩) (congrArg (fun z => some (ai z)) (by rfl)) rfl (Nat.le_of_ble_eq_true rfl) (Nat.le_of_ble_eq_true rfl) dX11_book_105
        · skip
          refine v_bipush (pc := 50) dX11_book_50 (by decide) ?_
          exact hret ((-4), f, bp, bm) _ _ _ _ _ _ (by refine ⟨by show (_, _) = _; unfold qBook; (repeat' split) <;> first | rfl | (exfalso; omega), (by exact hbp), (by exact hbm)⟩) (congrArg (fun z => some (ai z)) (by rfl)) rfl (Nat.le_of_ble_eq_true rfl) (Nat.le_of_ble_eq_true rfl) dX11_book_52
      · skip
        refine v_bipush (pc := 35) dX11_book_35 (by decide) ?_
        exact hret ((-2), f, bp, bm) _ _ _ _ _ _ (by refine ⟨by show (_, _) = _; unfold qBook; (repeat' split) <;> first | rfl | (exfalso; omega), (by exact hbp), (by exact hbm)⟩) (congrArg (fun z => some (ai z)) (by rfl)) rfl (Nat.le_of_ble_eq_true rfl) (Nat.le_of_ble_eq_true rfl) dX11_book_37
    · skip
      refine v_callV (pc := 17) [] [0, 1, 2] [(nw, co 10 [ar pls, ar ins, ar tap, ar e3, ar e4, ar e5, ar e6, ar e7, ar e8, ai (f 0), ai (f 1), ai (f 4), ai (f 2), ai (f 3), ai (f 6), ar bar]), (e7, cn 0 8 bp), (e8, cn 0 8 bm)] (As := [ai player]) (rest := []) (c_X11_find_n mo kw pi ta ms pt po hi nw pls ins tap e3 e4 e5 e6 e7 e8 bar pv f player (by assumption) (by exact hp) (by first | omega | assumption)) (c := 11) rfl (Or.inl r0) wl_X11_99 wi_X11_find wv_X11_X11_find_X11_find wk_X11_find wz_X11 md_X11_find rfl (Nat.le_of_ble_eq_true rfl) ⟨Nat.le_of_ble_eq_true rfl, Nat.le_of_ble_eq_true rfl, Nat.le_of_ble_eq_true rfl, Nat.le_of_ble_eq_true rfl⟩ rfl rfl rfl rfl (by decide) (ro_cons (Or.inl r0) (ro_cons (Or.inr ⟨0, rfl, by decide⟩) (ro_cons (Or.inl r1) ro_nil))) dX11_book_17 (fun u hu => ?_)
      show V x cX11_book RX11 3 (rmU 2 43 0 0) [(nw, co 10 [ar pls, ar ins, ar tap, ar e3, ar e4, ar e5, ar e6, ar e7, ar e8, ai (f 0), ai (f 1), ai (f 4), ai (f 2), ai (f 3), ai (f 6), ar bar]), (e7, cn 0 8 bp), (e8, cn 0 8 bm)] 20 [(0, ar mo), (1, ai player), (2, ai most)] [an] 0 0
      refine v_ifnonnull_n (pc := 20) dX11_book_20 ?_
      refine v_iconst (pc := 23) dX11_book_23 ?_
      exact hret ((-1), f, bp, bm) _ _ _ _ _ _ (by refine ⟨by show (_, _) = _; unfold qBook; (repeat' split) <;> first | rfl | (exfalso; omega), (by exact hbp), (by exact hbm)⟩) (congrArg (fun z => some (ai z)) (by rfl)) rfl (Nat.le_of_ble_eq_true rfl) (Nat.le_of_ble_eq_true rfl) dX11_book_24
  · skip
    refine v_aload_n (pc := 5) 0 rfl dX11_book_5 ?_
    refine v_get (pc := 6) (v := ar nw) 0 (Or.inl r0) fl_11_12_11 rfl dX11_book_6 ?_
    refine v_iconst (pc := 9) dX11_book_9 ?_
    refine v_put (pc := 10) 13 0 rfl fl_11_261_10 ck_10 ft_10_13 (okV_i _) (Nat.le_of_ble_eq_true rfl) (ws2 := [(nw, co 10 [ar pls, ar ins, ar tap, ar e3, ar e4, ar e5, ar e6, ar e7, ar e8, ai (f 0), ai (f 1), ai (f 4), ai (f 2), ai 0, ai (f 6), ar bar]), (e7, cn 0 8 bp), (e8, cn 0 8 bm)]) rfl dX11_book_10 ?_
    refine v_iconst (pc := 13) dX11_book_13 ?_
    have w0 : (aup f 3 0) 0 = f 0 := aup_n _ _ (by omega)
    have w1 : (aup f 3 0) 1 = f 1 := aup_n _ _ (by omega)
    have w4 : (aup f 3 0) 4 = f 4 := aup_n _ _ (by omega)
    have w2 : (aup f 3 0) 2 = f 2 := aup_n _ _ (by omega)
    have w3 : (aup f 3 0) 3 = 0 := aup_s _ _ _
    have w6 : (aup f 3 0) 6 = f 6 := aup_n _ _ (by omega)
    refine v_ws (ws2 := [(nw, co 10 [ar pls, ar ins, ar tap, ar e3, ar e4, ar e5, ar e6, ar e7, ar e8, ai ((aup f 3 0) 0), ai ((aup f 3 0) 1), ai ((aup f 3 0) 4), ai ((aup f 3 0) 2), ai ((aup f 3 0) 3), ai ((aup f 3 0) 6), ar bar]), (e7, cn 0 8 bp), (e8, cn 0 8 bm)]) (by first | rfl | rw [w0, w1, w4, w2, w3, w6]) ?_
    exact hret (0, (aup f 3 0), bp, bm) _ _ _ _ _ _ (by refine ⟨by show (_, _) = _; unfold qBook; (repeat' split) <;> first | rfl | (exfalso; omega), (by intro j j0 j1; show bp j = (aup f 3 0) (105 + j); rw [aup_n _ _ (by omega)]; exact hbp j j0 j1), (by intro j j0 j1; show bm j = (aup f 3 0) (113 + j); rw [aup_n _ _ (by omega)]; exact hbm j j0 j1)⟩) (congrArg (fun z => some (ai z)) (by rfl)) rfl (Nat.le_of_ble_eq_true rfl) (Nat.le_of_ble_eq_true rfl) dX11_book_14
set_option maxHeartbeats 4000000 in
set_option maxRecDepth 100000 in
theorem c_X11_act_k5 {gS : sG} (mo : Nat) (kw : Nat) (pi : Nat) (ta : Nat) (ms : Nat) (pt : Nat) (po : Nat) (hi : Int) (nw : Nat) (pls : Nat) (ins : Nat) (tap : Nat) (e3 : Nat) (e4 : Nat) (e5 : Nat) (e6 : Nat) (e7 : Nat) (e8 : Nat) (bar : Nat) (pv : Int → Option Nat) (q1 : Nat) (t1 : Nat) (f : Int → Int) (tr0 : Int → Int) (player : Int) (act : Int) (xx : Int) (hS : SOK f) (hpv : pv player = some q1) (hp : 0 ≤ player ∧ player ≤ f 0 - 1) (hk : f (7 + player) = 0) (hb_player : -2147483648 ≤ player ∧ player < 2147483648) (hb_act : -2147483648 ≤ act ∧ act < 2147483648) (hb_xx : -2147483648 ≤ xx ∧ xx < 2147483648) : Ct gS (S := Int → Int) yX11_act cX11_act 5 (some .int) 7 148 0 0 [ar mo, ai player, ai act, ai xx] [(ta, cn 0 21 tr0)] (fun q => q ∈ ([(mo, co 11 [ar nw, ar kw, ar pi, ar ta, ar ms, ar pt, ar po, ai hi]), (nw, co 10 [ar pls, ar ins, ar tap, ar e3, ar e4, ar e5, ar e6, ar e7, ar e8, ai (f 0), ai (f 1), ai (f 4), ai (f 2), ai (f 3), ai (f 6), ar bar]), (pls, cq 3 6 pv), (q1, co 5 [ar ta, ai (f (7 + player)), ai player, ai (f (13 + player)), ai (f (19 + player)), ai (f (25 + player)), ai (f (31 + player)), ai (f (37 + player)), ai (f (43 + player))])] : aW)) (fun u => u = (lAct f player act).foldl bg (aup tr0 0 0)) (fun u => some (ai (qAct f player act xx))) (fun u => [(ta, cn 0 21 u)]) := by
  refine ct_I RX11 [(0, ar mo), (1, ai player), (2, ai act), (3, ai xx)] (by decide) rfl (Nat.le_of_ble_eq_true rfl) rfl (fun x hgS hro hret => ?_)
  subst hgS
  have r0 := hro _ (mem_at 0 rfl)
  have r1 := hro _ (mem_at 1 rfl)
  have r2 := hro _ (mem_at 2 rfl)
  have r3 := hro _ (mem_at 3 rfl)
  obtain ⟨⟨hg0, hg1, hg2, hg3, hg4, hg5, hg6, hg7⟩, hSp, hSh, hSs, hSb, hSt, hSw⟩ := id hS
  obtain ⟨hpp, hf1, hf2, hf3, hf4, hf5, hf6, hf7, hf8⟩ := hSp player (by omega) (by omega)
  have htr : trB (aup tr0 0 0) 0 := by unfold trB; rw [aup_s]; decide
  show V x cX11_act RX11 5 (rmU 7 148 0 0) [(ta, cn 0 21 tr0)] 0 [(0, ar mo), (1, ai player), (2, ai act), (3, ai xx)] [] 0 0
  refine v_aload_n (pc := 0) 0 rfl dX11_act_0 ?_
  refine v_get (pc := 1) (v := ar ta) 3 (Or.inl r0) fl_11_28_11 rfl dX11_act_1 ?_
  refine v_iconst (pc := 4) dX11_act_4 ?_
  refine v_iconst (pc := 5) dX11_act_5 ?_
  refine v_iast (pc := 6) 0 rfl (by omega) (by omega) (by decide) (ws2 := [(ta, cn 0 21 (aup tr0 0 0))]) rfl dX11_act_6 ?_
  refine v_aload_n (pc := 7) 0 rfl dX11_act_7 ?_
  refine v_iload_n (pc := 8) 1 rfl dX11_act_8 ?_
  refine v_callV (pc := 9) [] [0] [(ta, cn 0 21 (aup tr0 0 0))] (As := [ai player]) (rest := []) (c_X11_find_y mo kw pi ta ms pt po hi nw pls ins tap e3 e4 e5 e6 e7 e8 bar pv q1 f player (by assumption) (by first | omega | assumption) (by first | omega | assumption)) (c := 11) rfl (Or.inl r0) wl_X11_99 wi_X11_find wv_X11_X11_find_X11_find wk_X11_find wz_X11 md_X11_find rfl (Nat.le_of_ble_eq_true rfl) ⟨Nat.le_of_ble_eq_true rfl, Nat.le_of_ble_eq_true rfl, Nat.le_of_ble_eq_true rfl, Nat.le_of_ble_eq_true rfl⟩ rfl rfl rfl rfl (by decide) (ro_cons (Or.inl r0) (ro_cons (Or.inl r1) (ro_cons (Or.inl r2) ro_nil))) dX11_act_9 (fun u hu => ?_)
  show V x cX11_act RX11 5 (rmU 7 148 0 0) [(ta, cn 0 21 (aup tr0 0 0))] 12 [(0, ar mo), (1, ai player), (2, ai act), (3, ai xx)] [ar q1] 0 0
  refine v_astore (pc := 12) (L2 := [(4, ar q1), (0, ar mo), (1, ai player), (2, ai act), (3, ai xx)]) rfl (by decide) dX11_act_12 ?_
  refine v_aload (pc := 14) 0 rfl dX11_act_14 ?_
  refine v_ifnonnull_r (pc := 16) 21 dX11_act_16 (by decide) ?_
  refine v_iload_n (pc := 21) 3 rfl dX11_act_21 ?_
  rcases Classical.em (act < 0 ∨ 2 < act) with c_1 | c_1
  · refine v_sw_out (pc := 22) 69 dX11_act_22 (by decide) (by unfold iB; omega) c_1 ?_
    refine v_iconst (pc := 69) dX11_act_69 ?_
    exact hret (aup tr0 0 0) _ _ _ _ _ _ (by show _ = (lAct f player act).foldl bg (aup tr0 0 0); unfold lAct; rw [if_pos (by omega)]; rfl) (congrArg (fun z => some (ai z)) (by unfold qAct; rw [if_pos (by omega)])) rfl (Nat.le_of_ble_eq_true rfl) (Nat.le_of_ble_eq_true rfl) dX11_act_70
  · rcases (show act = 0 ∨ act = 1 ∨ act = 2 by omega) with c_1e | c_1e | c_1e
    · refine v_sw_in (pc := 22) 48 0 dX11_act_22 (by unfold iB; omega) (by omega) (by omega) (by rw [c_1e]; rfl) rfl (by decide) ?_
      refine v_aload (pc := 48) 0 rfl dX11_act_48 ?_
      refine v_iload_n (pc := 50) 4 rfl dX11_act_50 ?_
      refine v_callU (pc := 51) [0] [] [] (z := yX5_strikes) (As := [ai xx]) (rest := []) (c_X5_strikes_k5 q1 ta (f (7 + player)) player (f (13 + player)) (f (19 + player)) (f (25 + player)) (f (31 + player)) (f (37 + player)) (f (43 + player)) xx (aup tr0 0 0) (by exact trB_le htr (by decide))) (c := 5) rfl (Or.inl r3) wl_X11_270 wsm_4 wi_X5_strikes wk_X5_strikes wv_X5_X5_strikes_X5_strikes wi_X5_strikes wk_X5_strikes wz_X5 mdo_X5_strikes rfl (Nat.le_of_ble_eq_true rfl) ⟨Nat.le_of_ble_eq_true rfl, Nat.le_of_ble_eq_true rfl, Nat.le_of_ble_eq_true rfl, Nat.le_of_ble_eq_true rfl⟩ rfl rfl rfl rfl (by decide) (ro_cons (Or.inl r3) ro_nil) dX11_act_51 (fun u hu => ?_)
      show V x cX11_act RX11 5 (rmU 7 148 0 0) [(ta, cn 0 21 (bg (aup tr0 0 0) 1))] 54 [(4, ar q1), (0, ar mo), (1, ai player), (2, ai act), (3, ai xx)] [ai (xx + player)] 0 0
      exact hret (bg (aup tr0 0 0) 1) _ _ _ _ _ _ (by show _ = (lAct f player act).foldl bg (aup tr0 0 0); unfold lAct; rw [if_neg (by omega), if_pos (by omega)]; unfold bS; rw [hk]; rfl) (congrArg (fun z => some (ai z)) (by unfold qAct; rw [if_neg (by omega), if_pos (by omega)]; unfold aStr; rw [hk]; rfl)) rfl (Nat.le_of_ble_eq_true rfl) (Nat.le_of_ble_eq_true rfl) dX11_act_54
    · refine v_sw_in (pc := 22) 55 1 dX11_act_22 (by unfold iB; omega) (by omega) (by omega) (by rw [c_1e]; rfl) rfl (by decide) ?_
      refine v_aload (pc := 55) 0 rfl dX11_act_55 ?_
      refine v_iload_n (pc := 57) 4 rfl dX11_act_57 ?_
      refine v_callU (pc := 58) [0] [] [] (z := yX5_catches) (As := [ai xx]) (rest := []) (c_X5_catches_k5 q1 ta (f (7 + player)) player (f (13 + player)) (f (19 + player)) (f (25 + player)) (f (31 + player)) (f (37 + player)) (f (43 + player)) xx (aup tr0 0 0) (by exact trB_le htr (by decide))) (c := 5) rfl (Or.inl r3) wl_X11_273 wsm_8 wi_X5_catches wk_X5_catches wv_X5_X5_catches_X5_catches wi_X5_catches wk_X5_catches wz_X5 mdo_X5_catches rfl (Nat.le_of_ble_eq_true rfl) ⟨Nat.le_of_ble_eq_true rfl, Nat.le_of_ble_eq_true rfl, Nat.le_of_ble_eq_true rfl, Nat.le_of_ble_eq_true rfl⟩ rfl rfl rfl rfl (by decide) (ro_cons (Or.inl r3) ro_nil) dX11_act_58 (fun u hu => ?_)
      show V x cX11_act RX11 5 (rmU 7 148 0 0) [(ta, cn 0 21 (bg (bg (aup tr0 0 0) 2) 1))] 61 [(4, ar q1), (0, ar mo), (1, ai player), (2, ai act), (3, ai xx)] [ai ((xx + player) - (f (13 + player)))] 0 0
      exact hret (bg (bg (aup tr0 0 0) 2) 1) _ _ _ _ _ _ (by show _ = (lAct f player act).foldl bg (aup tr0 0 0); unfold lAct; rw [if_neg (by omega), if_neg (by omega), if_pos (by omega)]; unfold bC bS; rw [hk]; rfl) (congrArg (fun z => some (ai z)) (by unfold qAct; rw [if_neg (by omega), if_neg (by omega), if_pos (by omega)]; unfold aCt aPC aStr; rw [hk]; rfl)) rfl (Nat.le_of_ble_eq_true rfl) (Nat.le_of_ble_eq_true rfl) dX11_act_61
    · refine v_sw_in (pc := 22) 62 2 dX11_act_22 (by unfold iB; omega) (by omega) (by omega) (by rw [c_1e]; rfl) rfl (by decide) ?_
      refine v_aload (pc := 62) 0 rfl dX11_act_62 ?_
      refine v_iload_n (pc := 64) 4 rfl dX11_act_64 ?_
      refine v_callU (pc := 65) [0] [] [] (z := yX5_tells) (As := [ai xx]) (rest := []) (c_X5_tells_k5 q1 ta (f (7 + player)) player (f (13 + player)) (f (19 + player)) (f (25 + player)) (f (31 + player)) (f (37 + player)) (f (43 + player)) xx (aup tr0 0 0) (by exact trB_le htr (by decide))) (c := 5) rfl (Or.inl r3) wl_X11_276 wsm_12 wi_X5_tells wk_X5_tells wv_X5_X5_tells_X5_tells wi_X5_tells wk_X5_tells wz_X5 mdo_X5_tells rfl (Nat.le_of_ble_eq_true rfl) ⟨Nat.le_of_ble_eq_true rfl, Nat.le_of_ble_eq_true rfl, Nat.le_of_ble_eq_true rfl, Nat.le_of_ble_eq_true rfl⟩ rfl rfl rfl rfl (by decide) (ro_cons (Or.inl r3) ro_nil) dX11_act_65 (fun u hu => ?_)
      show V x cX11_act RX11 5 (rmU 7 148 0 0) [(ta, cn 0 21 (bg (bg (bg (aup tr0 0 0) 3) 2) 1))] 68 [(4, ar q1), (0, ar mo), (1, ai player), (2, ai act), (3, ai xx)] [ai (((xx + player) - (f (13 + player))) * 2)] 0 0
      exact hret (bg (bg (bg (aup tr0 0 0) 3) 2) 1) _ _ _ _ _ _ (by show _ = (lAct f player act).foldl bg (aup tr0 0 0); unfold lAct; rw [if_neg (by omega), if_neg (by omega), if_neg (by omega)]; unfold bT bC bS; rw [hk]; rfl) (congrArg (fun z => some (ai z)) (by unfold qAct; rw [if_neg (by omega), if_neg (by omega), if_neg (by omega)]; unfold aTl aPT aCt aPC aStr; rw [hk]; rfl)) rfl (Nat.le_of_ble_eq_true rfl) (Nat.le_of_ble_eq_true rfl) dX11_act_68
set_option maxHeartbeats 4000000 in
set_option maxRecDepth 100000 in
theorem c_X11_act_k8 {gS : sG} (mo : Nat) (kw : Nat) (pi : Nat) (ta : Nat) (ms : Nat) (pt : Nat) (po : Nat) (hi : Int) (nw : Nat) (pls : Nat) (ins : Nat) (tap : Nat) (e3 : Nat) (e4 : Nat) (e5 : Nat) (e6 : Nat) (e7 : Nat) (e8 : Nat) (bar : Nat) (pv : Int → Option Nat) (q1 : Nat) (t1 : Nat) (f : Int → Int) (tr0 : Int → Int) (player : Int) (act : Int) (xx : Int) (hS : SOK f) (hpv : pv player = some q1) (hp : 0 ≤ player ∧ player ≤ f 0 - 1) (hk : f (7 + player) = 1) (hb_player : -2147483648 ≤ player ∧ player < 2147483648) (hb_act : -2147483648 ≤ act ∧ act < 2147483648) (hb_xx : -2147483648 ≤ xx ∧ xx < 2147483648) : Ct gS (S := Int → Int) yX11_act cX11_act 5 (some .int) 7 148 0 0 [ar mo, ai player, ai act, ai xx] [(ta, cn 0 21 tr0)] (fun q => q ∈ ([(mo, co 11 [ar nw, ar kw, ar pi, ar ta, ar ms, ar pt, ar po, ai hi]), (nw, co 10 [ar pls, ar ins, ar tap, ar e3, ar e4, ar e5, ar e6, ar e7, ar e8, ai (f 0), ai (f 1), ai (f 4), ai (f 2), ai (f 3), ai (f 6), ar bar]), (pls, cq 3 6 pv), (q1, co 8 [ar ta, ai (f (7 + player)), ai player, ai (f (13 + player)), ai (f (19 + player)), ai (f (25 + player)), ai (f (31 + player)), ai (f (37 + player)), ai (f (43 + player))])] : aW)) (fun u => u = (lAct f player act).foldl bg (aup tr0 0 0)) (fun u => some (ai (qAct f player act xx))) (fun u => [(ta, cn 0 21 u)]) := by
  refine ct_I RX11 [(0, ar mo), (1, ai player), (2, ai act), (3, ai xx)] (by decide) rfl (Nat.le_of_ble_eq_true rfl) rfl (fun x hgS hro hret => ?_)
  subst hgS
  have r0 := hro _ (mem_at 0 rfl)
  have r1 := hro _ (mem_at 1 rfl)
  have r2 := hro _ (mem_at 2 rfl)
  have r3 := hro _ (mem_at 3 rfl)
  obtain ⟨⟨hg0, hg1, hg2, hg3, hg4, hg5, hg6, hg7⟩, hSp, hSh, hSs, hSb, hSt, hSw⟩ := id hS
  obtain ⟨hpp, hf1, hf2, hf3, hf4, hf5, hf6, hf7, hf8⟩ := hSp player (by omega) (by omega)
  have htr : trB (aup tr0 0 0) 0 := by unfold trB; rw [aup_s]; decide
  show V x cX11_act RX11 5 (rmU 7 148 0 0) [(ta, cn 0 21 tr0)] 0 [(0, ar mo), (1, ai player), (2, ai act), (3, ai xx)] [] 0 0
  refine v_aload_n (pc := 0) 0 rfl dX11_act_0 ?_
  refine v_get (pc := 1) (v := ar ta) 3 (Or.inl r0) fl_11_28_11 rfl dX11_act_1 ?_
  refine v_iconst (pc := 4) dX11_act_4 ?_
  refine v_iconst (pc := 5) dX11_act_5 ?_
  refine v_iast (pc := 6) 0 rfl (by omega) (by omega) (by decide) (ws2 := [(ta, cn 0 21 (aup tr0 0 0))]) rfl dX11_act_6 ?_
  refine v_aload_n (pc := 7) 0 rfl dX11_act_7 ?_
  refine v_iload_n (pc := 8) 1 rfl dX11_act_8 ?_
  refine v_callV (pc := 9) [] [0] [(ta, cn 0 21 (aup tr0 0 0))] (As := [ai player]) (rest := []) (c_X11_find_y mo kw pi ta ms pt po hi nw pls ins tap e3 e4 e5 e6 e7 e8 bar pv q1 f player (by assumption) (by first | omega | assumption) (by first | omega | assumption)) (c := 11) rfl (Or.inl r0) wl_X11_99 wi_X11_find wv_X11_X11_find_X11_find wk_X11_find wz_X11 md_X11_find rfl (Nat.le_of_ble_eq_true rfl) ⟨Nat.le_of_ble_eq_true rfl, Nat.le_of_ble_eq_true rfl, Nat.le_of_ble_eq_true rfl, Nat.le_of_ble_eq_true rfl⟩ rfl rfl rfl rfl (by decide) (ro_cons (Or.inl r0) (ro_cons (Or.inl r1) (ro_cons (Or.inl r2) ro_nil))) dX11_act_9 (fun u hu => ?_)
  show V x cX11_act RX11 5 (rmU 7 148 0 0) [(ta, cn 0 21 (aup tr0 0 0))] 12 [(0, ar mo), (1, ai player), (2, ai act), (3, ai xx)] [ar q1] 0 0
  refine v_astore (pc := 12) (L2 := [(4, ar q1), (0, ar mo), (1, ai player), (2, ai act), (3, ai xx)]) rfl (by decide) dX11_act_12 ?_
  refine v_aload (pc := 14) 0 rfl dX11_act_14 ?_
  refine v_ifnonnull_r (pc := 16) 21 dX11_act_16 (by decide) ?_
  refine v_iload_n (pc := 21) 3 rfl dX11_act_21 ?_
  rcases Classical.em (act < 0 ∨ 2 < act) with c_1 | c_1
  · refine v_sw_out (pc := 22) 69 dX11_act_22 (by decide) (by unfold iB; omega) c_1 ?_
    refine v_iconst (pc := 69) dX11_act_69 ?_
    exact hret (aup tr0 0 0) _ _ _ _ _ _ (by show _ = (lAct f player act).foldl bg (aup tr0 0 0); unfold lAct; rw [if_pos (by omega)]; rfl) (congrArg (fun z => some (ai z)) (by unfold qAct; rw [if_pos (by omega)])) rfl (Nat.le_of_ble_eq_true rfl) (Nat.le_of_ble_eq_true rfl) dX11_act_70
  · rcases (show act = 0 ∨ act = 1 ∨ act = 2 by omega) with c_1e | c_1e | c_1e
    · refine v_sw_in (pc := 22) 48 0 dX11_act_22 (by unfold iB; omega) (by omega) (by omega) (by rw [c_1e]; rfl) rfl (by decide) ?_
      refine v_aload (pc := 48) 0 rfl dX11_act_48 ?_
      refine v_iload_n (pc := 50) 4 rfl dX11_act_50 ?_
      refine v_callU (pc := 51) [0] [] [] (z := yX5_strikes) (As := [ai xx]) (rest := []) (c_X8_strikes_k8 q1 ta (f (7 + player)) player (f (13 + player)) (f (19 + player)) (f (25 + player)) (f (31 + player)) (f (37 + player)) (f (43 + player)) xx (aup tr0 0 0) (by exact trB_le htr (by decide))) (c := 8) rfl (Or.inl r3) wl_X11_270 wsm_4 wi_X5_strikes wk_X5_strikes wv_X8_X5_strikes_X8_strikes wi_X8_strikes wk_X8_strikes wz_X8 mdo_X5_strikes rfl (Nat.le_of_ble_eq_true rfl) ⟨Nat.le_of_ble_eq_true rfl, Nat.le_of_ble_eq_true rfl, Nat.le_of_ble_eq_true rfl, Nat.le_of_ble_eq_true rfl⟩ rfl rfl rfl rfl (by decide) (ro_cons (Or.inl r3) ro_nil) dX11_act_51 (fun u hu => ?_)
      show V x cX11_act RX11 5 (rmU 7 148 0 0) [(ta, cn 0 21 (bg (bg (aup tr0 0 0) 11) 1))] 54 [(4, ar q1), (0, ar mo), (1, ai player), (2, ai act), (3, ai xx)] [ai ((xx * 3) + player)] 0 0
      exact hret (bg (bg (aup tr0 0 0) 11) 1) _ _ _ _ _ _ (by show _ = (lAct f player act).foldl bg (aup tr0 0 0); unfold lAct; rw [if_neg (by omega), if_pos (by omega)]; unfold bS; rw [hk]; rfl) (congrArg (fun z => some (ai z)) (by unfold qAct; rw [if_neg (by omega), if_pos (by omega)]; unfold aStr; rw [hk]; rfl)) rfl (Nat.le_of_ble_eq_true rfl) (Nat.le_of_ble_eq_true rfl) dX11_act_54
    · refine v_sw_in (pc := 22) 55 1 dX11_act_22 (by unfold iB; omega) (by omega) (by omega) (by rw [c_1e]; rfl) rfl (by decide) ?_
      refine v_aload (pc := 55) 0 rfl dX11_act_55 ?_
      refine v_iload_n (pc := 57) 4 rfl dX11_act_57 ?_
      refine v_callU (pc := 58) [0] [] [] (z := yX5_catches) (As := [ai xx]) (rest := []) (c_X5_catches_k8 q1 ta (f (7 + player)) player (f (13 + player)) (f (19 + player)) (f (25 + player)) (f (31 + player)) (f (37 + player)) (f (43 + player)) xx (aup tr0 0 0) (by exact trB_le htr (by decide))) (c := 8) rfl (Or.inl r3) wl_X11_273 wsm_8 wi_X5_catches wk_X5_catches wv_X8_X5_catches_X5_catches wi_X5_catches wk_X5_catches wz_X5 mdo_X5_catches rfl (Nat.le_of_ble_eq_true rfl) ⟨Nat.le_of_ble_eq_true rfl, Nat.le_of_ble_eq_true rfl, Nat.le_of_ble_eq_true rfl, Nat.le_of_ble_eq_true rfl⟩ rfl rfl rfl rfl (by decide) (ro_cons (Or.inl r3) ro_nil) dX11_act_58 (fun u hu => ?_)
      show V x cX11_act RX11 5 (rmU 7 148 0 0) [(ta, cn 0 21 (bg (bg (bg (aup tr0 0 0) 2) 11) 1))] 61 [(4, ar q1), (0, ar mo), (1, ai player), (2, ai act), (3, ai xx)] [ai (((xx * 3) + player) - (f (13 + player)))] 0 0
      exact hret (bg (bg (bg (aup tr0 0 0) 2) 11) 1) _ _ _ _ _ _ (by show _ = (lAct f player act).foldl bg (aup tr0 0 0); unfold lAct; rw [if_neg (by omega), if_neg (by omega), if_pos (by omega)]; unfold bC bS; rw [hk]; rfl) (congrArg (fun z => some (ai z)) (by unfold qAct; rw [if_neg (by omega), if_neg (by omega), if_pos (by omega)]; unfold aCt aPC aStr; rw [hk]; rfl)) rfl (Nat.le_of_ble_eq_true rfl) (Nat.le_of_ble_eq_true rfl) dX11_act_61
    · refine v_sw_in (pc := 22) 62 2 dX11_act_22 (by unfold iB; omega) (by omega) (by omega) (by rw [c_1e]; rfl) rfl (by decide) ?_
      refine v_aload (pc := 62) 0 rfl dX11_act_62 ?_
      refine v_iload_n (pc := 64) 4 rfl dX11_act_64 ?_
      refine v_callU (pc := 65) [0] [] [] (z := yX5_tells) (As := [ai xx]) (rest := []) (c_X5_tells_k8 q1 ta (f (7 + player)) player (f (13 + player)) (f (19 + player)) (f (25 + player)) (f (31 + player)) (f (37 + player)) (f (43 + player)) xx (aup tr0 0 0) (by exact trB_le htr (by decide))) (c := 8) rfl (Or.inl r3) wl_X11_276 wsm_12 wi_X5_tells wk_X5_tells wv_X8_X5_tells_X5_tells wi_X5_tells wk_X5_tells wz_X5 mdo_X5_tells rfl (Nat.le_of_ble_eq_true rfl) ⟨Nat.le_of_ble_eq_true rfl, Nat.le_of_ble_eq_true rfl, Nat.le_of_ble_eq_true rfl, Nat.le_of_ble_eq_true rfl⟩ rfl rfl rfl rfl (by decide) (ro_cons (Or.inl r3) ro_nil) dX11_act_65 (fun u hu => ?_)
      show V x cX11_act RX11 5 (rmU 7 148 0 0) [(ta, cn 0 21 (bg (bg (bg (bg (aup tr0 0 0) 3) 2) 11) 1))] 68 [(4, ar q1), (0, ar mo), (1, ai player), (2, ai act), (3, ai xx)] [ai ((((xx * 3) + player) - (f (13 + player))) * 2)] 0 0
      exact hret (bg (bg (bg (bg (aup tr0 0 0) 3) 2) 11) 1) _ _ _ _ _ _ (by show _ = (lAct f player act).foldl bg (aup tr0 0 0); unfold lAct; rw [if_neg (by omega), if_neg (by omega), if_neg (by omega)]; unfold bT bC bS; rw [hk]; rfl) (congrArg (fun z => some (ai z)) (by unfold qAct; rw [if_neg (by omega), if_neg (by omega), if_neg (by omega)]; unfold aTl aPT aCt aPC aStr; rw [hk]; rfl)) rfl (Nat.le_of_ble_eq_true rfl) (Nat.le_of_ble_eq_true rfl) dX11_act_68
set_option maxHeartbeats 4000000 in
set_option maxRecDepth 100000 in
theorem c_X11_act_k0 {gS : sG} (mo : Nat) (kw : Nat) (pi : Nat) (ta : Nat) (ms : Nat) (pt : Nat) (po : Nat) (hi : Int) (nw : Nat) (pls : Nat) (ins : Nat) (tap : Nat) (e3 : Nat) (e4 : Nat) (e5 : Nat) (e6 : Nat) (e7 : Nat) (e8 : Nat) (bar : Nat) (pv : Int → Option Nat) (q1 : Nat) (t1 : Nat) (f : Int → Int) (tr0 : Int → Int) (player : Int) (act : Int) (xx : Int) (hS : SOK f) (hpv : pv player = some q1) (hp : 0 ≤ player ∧ player ≤ f 0 - 1) (hk : f (7 + player) = 2) (hb_player : -2147483648 ≤ player ∧ player < 2147483648) (hb_act : -2147483648 ≤ act ∧ act < 2147483648) (hb_xx : -2147483648 ≤ xx ∧ xx < 2147483648) : Ct gS (S := Int → Int) yX11_act cX11_act 5 (some .int) 7 148 0 0 [ar mo, ai player, ai act, ai xx] [(ta, cn 0 21 tr0)] (fun q => q ∈ ([(mo, co 11 [ar nw, ar kw, ar pi, ar ta, ar ms, ar pt, ar po, ai hi]), (nw, co 10 [ar pls, ar ins, ar tap, ar e3, ar e4, ar e5, ar e6, ar e7, ar e8, ai (f 0), ai (f 1), ai (f 4), ai (f 2), ai (f 3), ai (f 6), ar bar]), (pls, cq 3 6 pv), (q1, co 0 [ar ta, ai (f (7 + player)), ai player, ai (f (13 + player)), ai (f (19 + player)), ai (f (25 + player)), ai (f (31 + player)), ai (f (37 + player)), ai (f (43 + player))])] : aW)) (fun u => u = (lAct f player act).foldl bg (aup tr0 0 0)) (fun u => some (ai (qAct f player act xx))) (fun u => [(ta, cn 0 21 u)]) := by
  refine ct_I RX11 [(0, ar mo), (1, ai player), (2, ai act), (3, ai xx)] (by decide) rfl (Nat.le_of_ble_eq_true rfl) rfl (fun x hgS hro hret => ?_)
  subst hgS
  have r0 := hro _ (mem_at 0 rfl)
  have r1 := hro _ (mem_at 1 rfl)
  have r2 := hro _ (mem_at 2 rfl)
  have r3 := hro _ (mem_at 3 rfl)
  obtain ⟨⟨hg0, hg1, hg2, hg3, hg4, hg5, hg6, hg7⟩, hSp, hSh, hSs, hSb, hSt, hSw⟩ := id hS
  obtain ⟨hpp, hf1, hf2, hf3, hf4, hf5, hf6, hf7, hf8⟩ := hSp player (by omega) (by omega)
  have htr : trB (aup tr0 0 0) 0 := by unfold trB; rw [aup_s]; decide
  show V x cX11_act RX11 5 (rmU 7 148 0 0) [(ta, cn 0 21 tr0)] 0 [(0, ar mo), (1, ai player), (2, ai act), (3, ai xx)] [] 0 0
  refine v_aload_n (pc := 0) 0 rfl dX11_act_0 ?_
  refine v_get (pc := 1) (v := ar ta) 3 (Or.inl r0) fl_11_28_11 rfl dX11_act_1 ?_
  refine v_iconst (pc := 4) dX11_act_4 ?_
  refine v_iconst (pc := 5) dX11_act_5 ?_
  refine v_iast (pc := 6) 0 rfl (by omega) (by omega) (by decide) (ws2 := [(ta, cn 0 21 (aup tr0 0 0))]) rfl dX11_act_6 ?_
  refine v_aload_n (pc := 7) 0 rfl dX11_act_7 ?_
  refine v_iload_n (pc := 8) 1 rfl dX11_act_8 ?_
  refine v_callV (pc := 9) [] [0] [(ta, cn 0 21 (aup tr0 0 0))] (As := [ai player]) (rest := []) (c_X11_find_y mo kw pi ta ms pt po hi nw pls ins tap e3 e4 e5 e6 e7 e8 bar pv q1 f player (by assumption) (by first | omega | assumption) (by first | omega | assumption)) (c := 11) rfl (Or.inl r0) wl_X11_99 wi_X11_find wv_X11_X11_find_X11_find wk_X11_find wz_X11 md_X11_find rfl (Nat.le_of_ble_eq_true rfl) ⟨Nat.le_of_ble_eq_true rfl, Nat.le_of_ble_eq_true rfl, Nat.le_of_ble_eq_true rfl, Nat.le_of_ble_eq_true rfl⟩ rfl rfl rfl rfl (by decide) (ro_cons (Or.inl r0) (ro_cons (Or.inl r1) (ro_cons (Or.inl r2) ro_nil))) dX11_act_9 (fun u hu => ?_)
  show V x cX11_act RX11 5 (rmU 7 148 0 0) [(ta, cn 0 21 (aup tr0 0 0))] 12 [(0, ar mo), (1, ai player), (2, ai act), (3, ai xx)] [ar q1] 0 0
  refine v_astore (pc := 12) (L2 := [(4, ar q1), (0, ar mo), (1, ai player), (2, ai act), (3, ai xx)]) rfl (by decide) dX11_act_12 ?_
  refine v_aload (pc := 14) 0 rfl dX11_act_14 ?_
  refine v_ifnonnull_r (pc := 16) 21 dX11_act_16 (by decide) ?_
  refine v_iload_n (pc := 21) 3 rfl dX11_act_21 ?_
  rcases Classical.em (act < 0 ∨ 2 < act) with c_1 | c_1
  · refine v_sw_out (pc := 22) 69 dX11_act_22 (by decide) (by unfold iB; omega) c_1 ?_
    refine v_iconst (pc := 69) dX11_act_69 ?_
    exact hret (aup tr0 0 0) _ _ _ _ _ _ (by show _ = (lAct f player act).foldl bg (aup tr0 0 0); unfold lAct; rw [if_pos (by omega)]; rfl) (congrArg (fun z => some (ai z)) (by unfold qAct; rw [if_pos (by omega)])) rfl (Nat.le_of_ble_eq_true rfl) (Nat.le_of_ble_eq_true rfl) dX11_act_70
  · rcases (show act = 0 ∨ act = 1 ∨ act = 2 by omega) with c_1e | c_1e | c_1e
    · refine v_sw_in (pc := 22) 48 0 dX11_act_22 (by unfold iB; omega) (by omega) (by omega) (by rw [c_1e]; rfl) rfl (by decide) ?_
      refine v_aload (pc := 48) 0 rfl dX11_act_48 ?_
      refine v_iload_n (pc := 50) 4 rfl dX11_act_50 ?_
      refine v_callU (pc := 51) [0] [] [] (z := yX5_strikes) (As := [ai xx]) (rest := []) (c_X5_strikes_k0 q1 ta (f (7 + player)) player (f (13 + player)) (f (19 + player)) (f (25 + player)) (f (31 + player)) (f (37 + player)) (f (43 + player)) xx (aup tr0 0 0) (by exact trB_le htr (by decide))) (c := 0) rfl (Or.inl r3) wl_X11_270 wsm_4 wi_X5_strikes wk_X5_strikes wv_X0_X5_strikes_X5_strikes wi_X5_strikes wk_X5_strikes wz_X5 mdo_X5_strikes rfl (Nat.le_of_ble_eq_true rfl) ⟨Nat.le_of_ble_eq_true rfl, Nat.le_of_ble_eq_true rfl, Nat.le_of_ble_eq_true rfl, Nat.le_of_ble_eq_true rfl⟩ rfl rfl rfl rfl (by decide) (ro_cons (Or.inl r3) ro_nil) dX11_act_51 (fun u hu => ?_)
      show V x cX11_act RX11 5 (rmU 7 148 0 0) [(ta, cn 0 21 (bg (aup tr0 0 0) 1))] 54 [(4, ar q1), (0, ar mo), (1, ai player), (2, ai act), (3, ai xx)] [ai (xx + player)] 0 0
      exact hret (bg (aup tr0 0 0) 1) _ _ _ _ _ _ (by show _ = (lAct f player act).foldl bg (aup tr0 0 0); unfold lAct; rw [if_neg (by omega), if_pos (by omega)]; unfold bS; rw [hk]; rfl) (congrArg (fun z => some (ai z)) (by unfold qAct; rw [if_neg (by omega), if_pos (by omega)]; unfold aStr; rw [hk]; rfl)) rfl (Nat.le_of_ble_eq_true rfl) (Nat.le_of_ble_eq_true rfl) dX11_act_54
    · refine v_sw_in (pc := 22) 55 1 dX11_act_22 (by unfold iB; omega) (by omega) (by omega) (by rw [c_1e]; rfl) rfl (by decide) ?_
      refine v_aload (pc := 55) 0 rfl dX11_act_55 ?_
      refine v_iload_n (pc := 57) 4 rfl dX11_act_57 ?_
      refine v_callU (pc := 58) [0] [] [] (z := yX5_catches) (As := [ai xx]) (rest := []) (c_X0_catches_k0 q1 ta (f (7 + player)) player (f (13 + player)) (f (19 + player)) (f (25 + player)) (f (31 + player)) (f (37 + player)) (f (43 + player)) xx (aup tr0 0 0) (by exact trB_le htr (by decide))) (c := 0) rfl (Or.inl r3) wl_X11_273 wsm_8 wi_X5_catches wk_X5_catches wv_X0_X5_catches_X0_catches wi_X0_catches wk_X0_catches wz_X0 mdo_X5_catches rfl (Nat.le_of_ble_eq_true rfl) ⟨Nat.le_of_ble_eq_true rfl, Nat.le_of_ble_eq_true rfl, Nat.le_of_ble_eq_true rfl, Nat.le_of_ble_eq_true rfl⟩ rfl rfl rfl rfl (by decide) (ro_cons (Or.inl r3) ro_nil) dX11_act_58 (fun u hu => ?_)
      show V x cX11_act RX11 5 (rmU 7 148 0 0) [(ta, cn 0 21 (bg (bg (bg (aup tr0 0 0) 21) 2) 1))] 61 [(4, ar q1), (0, ar mo), (1, ai player), (2, ai act), (3, ai xx)] [ai (-((xx + player) - (f (13 + player))))] 0 0
      exact hret (bg (bg (bg (aup tr0 0 0) 21) 2) 1) _ _ _ _ _ _ (by show _ = (lAct f player act).foldl bg (aup tr0 0 0); unfold lAct; rw [if_neg (by omega), if_neg (by omega), if_pos (by omega)]; unfold bC bS; rw [hk]; rfl) (congrArg (fun z => some (ai z)) (by unfold qAct; rw [if_neg (by omega), if_neg (by omega), if_pos (by omega)]; unfold aCt aPC aStr; rw [hk]; rfl)) rfl (Nat.le_of_ble_eq_true rfl) (Nat.le_of_ble_eq_true rfl) dX11_act_61
    · refine v_sw_in (pc := 22) 62 2 dX11_act_22 (by unfold iB; omega) (by omega) (by omega) (by rw [c_1e]; rfl) rfl (by decide) ?_
      refine v_aload (pc := 62) 0 rfl dX11_act_62 ?_
      refine v_iload_n (pc := 64) 4 rfl dX11_act_64 ?_
      refine v_callU (pc := 65) [0] [] [] (z := yX5_tells) (As := [ai xx]) (rest := []) (c_X5_tells_k0 q1 ta (f (7 + player)) player (f (13 + player)) (f (19 + player)) (f (25 + player)) (f (31 + player)) (f (37 + player)) (f (43 + player)) xx (aup tr0 0 0) (by exact trB_le htr (by decide))) (c := 0) rfl (Or.inl r3) wl_X11_276 wsm_12 wi_X5_tells wk_X5_tells wv_X0_X5_tells_X5_tells wi_X5_tells wk_X5_tells wz_X5 mdo_X5_tells rfl (Nat.le_of_ble_eq_true rfl) ⟨Nat.le_of_ble_eq_true rfl, Nat.le_of_ble_eq_true rfl, Nat.le_of_ble_eq_true rfl, Nat.le_of_ble_eq_true rfl⟩ rfl rfl rfl rfl (by decide) (ro_cons (Or.inl r3) ro_nil) dX11_act_65 (fun u hu => ?_)
      show V x cX11_act RX11 5 (rmU 7 148 0 0) [(ta, cn 0 21 (bg (bg (bg (bg (aup tr0 0 0) 3) 21) 2) 1))] 68 [(4, ar q1), (0, ar mo), (1, ai player), (2, ai act), (3, ai xx)] [ai ((-((xx + player) - (f (13 + player)))) * 2)] 0 0
      exact hret (bg (bg (bg (bg (aup tr0 0 0) 3) 21) 2) 1) _ _ _ _ _ _ (by show _ = (lAct f player act).foldl bg (aup tr0 0 0); unfold lAct; rw [if_neg (by omega), if_neg (by omega), if_neg (by omega)]; unfold bT bC bS; rw [hk]; rfl) (congrArg (fun z => some (ai z)) (by unfold qAct; rw [if_neg (by omega), if_neg (by omega), if_neg (by omega)]; unfold aTl aPT aCt aPC aStr; rw [hk]; rfl)) rfl (Nat.le_of_ble_eq_true rfl) (Nat.le_of_ble_eq_true rfl) dX11_act_68
set_option maxHeartbeats 4000000 in
set_option maxRecDepth 100000 in
theorem c_X11_act_k7 {gS : sG} (mo : Nat) (kw : Nat) (pi : Nat) (ta : Nat) (ms : Nat) (pt : Nat) (po : Nat) (hi : Int) (nw : Nat) (pls : Nat) (ins : Nat) (tap : Nat) (e3 : Nat) (e4 : Nat) (e5 : Nat) (e6 : Nat) (e7 : Nat) (e8 : Nat) (bar : Nat) (pv : Int → Option Nat) (q1 : Nat) (t1 : Nat) (f : Int → Int) (tr0 : Int → Int) (player : Int) (act : Int) (xx : Int) (hS : SOK f) (hpv : pv player = some q1) (hp : 0 ≤ player ∧ player ≤ f 0 - 1) (hk : f (7 + player) = 3) (hb_player : -2147483648 ≤ player ∧ player < 2147483648) (hb_act : -2147483648 ≤ act ∧ act < 2147483648) (hb_xx : -2147483648 ≤ xx ∧ xx < 2147483648) : Ct gS (S := Int → Int) yX11_act cX11_act 5 (some .int) 7 148 0 0 [ar mo, ai player, ai act, ai xx] [(ta, cn 0 21 tr0)] (fun q => q ∈ ([(mo, co 11 [ar nw, ar kw, ar pi, ar ta, ar ms, ar pt, ar po, ai hi]), (nw, co 10 [ar pls, ar ins, ar tap, ar e3, ar e4, ar e5, ar e6, ar e7, ar e8, ai (f 0), ai (f 1), ai (f 4), ai (f 2), ai (f 3), ai (f 6), ar bar]), (pls, cq 3 6 pv), (q1, co 7 [ar ta, ai (f (7 + player)), ai player, ai (f (13 + player)), ai (f (19 + player)), ai (f (25 + player)), ai (f (31 + player)), ai (f (37 + player)), ai (f (43 + player))])] : aW)) (fun u => u = (lAct f player act).foldl bg (aup tr0 0 0)) (fun u => some (ai (qAct f player act xx))) (fun u => [(ta, cn 0 21 u)]) := by
  refine ct_I RX11 [(0, ar mo), (1, ai player), (2, ai act), (3, ai xx)] (by decide) rfl (Nat.le_of_ble_eq_true rfl) rfl (fun x hgS hro hret => ?_)
  subst hgS
  have r0 := hro _ (mem_at 0 rfl)
  have r1 := hro _ (mem_at 1 rfl)
  have r2 := hro _ (mem_at 2 rfl)
  have r3 := hro _ (mem_at 3 rfl)
  obtain ⟨⟨hg0, hg1, hg2, hg3, hg4, hg5, hg6, hg7⟩, hSp, hSh, hSs, hSb, hSt, hSw⟩ := id hS
  obtain ⟨hpp, hf1, hf2, hf3, hf4, hf5, hf6, hf7, hf8⟩ := hSp player (by omega) (by omega)
  have htr : trB (aup tr0 0 0) 0 := by unfold trB; rw [aup_s]; decide
  show V x cX11_act RX11 5 (rmU 7 148 0 0) [(ta, cn 0 21 tr0)] 0 [(0, ar mo), (1, ai player), (2, ai act), (3, ai xx)] [] 0 0
  refine v_aload_n (pc := 0) 0 rfl dX11_act_0 ?_
  refine v_get (pc := 1) (v := ar ta) 3 (Or.inl r0) fl_11_28_11 rfl dX11_act_1 ?_
  refine v_iconst (pc := 4) dX11_act_4 ?_
  refine v_iconst (pc := 5) dX11_act_5 ?_
  refine v_iast (pc := 6) 0 rfl (by omega) (by omega) (by decide) (ws2 := [(ta, cn 0 21 (aup tr0 0 0))]) rfl dX11_act_6 ?_
  refine v_aload_n (pc := 7) 0 rfl dX11_act_7 ?_
  refine v_iload_n (pc := 8) 1 rfl dX11_act_8 ?_
  refine v_callV (pc := 9) [] [0] [(ta, cn 0 21 (aup tr0 0 0))] (As := [ai player]) (rest := []) (c_X11_find_y mo kw pi ta ms pt po hi nw pls ins tap e3 e4 e5 e6 e7 e8 bar pv q1 f player (by assumption) (by first | omega | assumption) (by first | omega | assumption)) (c := 11) rfl (Or.inl r0) wl_X11_99 wi_X11_find wv_X11_X11_find_X11_find wk_X11_find wz_X11 md_X11_find rfl (Nat.le_of_ble_eq_true rfl) ⟨Nat.le_of_ble_eq_true rfl, Nat.le_of_ble_eq_true rfl, Nat.le_of_ble_eq_true rfl, Nat.le_of_ble_eq_true rfl⟩ rfl rfl rfl rfl (by decide) (ro_cons (Or.inl r0) (ro_cons (Or.inl r1) (ro_cons (Or.inl r2) ro_nil))) dX11_act_9 (fun u hu => ?_)
  show V x cX11_act RX11 5 (rmU 7 148 0 0) [(ta, cn 0 21 (aup tr0 0 0))] 12 [(0, ar mo), (1, ai player), (2, ai act), (3, ai xx)] [ar q1] 0 0
  refine v_astore (pc := 12) (L2 := [(4, ar q1), (0, ar mo), (1, ai player), (2, ai act), (3, ai xx)]) rfl (by decide) dX11_act_12 ?_
  refine v_aload (pc := 14) 0 rfl dX11_act_14 ?_
  refine v_ifnonnull_r (pc := 16) 21 dX11_act_16 (by decide) ?_
  refine v_iload_n (pc := 21) 3 rfl dX11_act_21 ?_
  rcases Classical.em (act < 0 ∨ 2 < act) with c_1 | c_1
  · refine v_sw_out (pc := 22) 69 dX11_act_22 (by decide) (by unfold iB; omega) c_1 ?_
    refine v_iconst (pc := 69) dX11_act_69 ?_
    exact hret (aup tr0 0 0) _ _ _ _ _ _ (by show _ = (lAct f player act).foldl bg (aup tr0 0 0); unfold lAct; rw [if_pos (by omega)]; rfl) (congrArg (fun z => some (ai z)) (by unfold qAct; rw [if_pos (by omega)])) rfl (Nat.le_of_ble_eq_true rfl) (Nat.le_of_ble_eq_true rfl) dX11_act_70
  · rcases (show act = 0 ∨ act = 1 ∨ act = 2 by omega) with c_1e | c_1e | c_1e
    · refine v_sw_in (pc := 22) 48 0 dX11_act_22 (by unfold iB; omega) (by omega) (by omega) (by rw [c_1e]; rfl) rfl (by decide) ?_
      refine v_aload (pc := 48) 0 rfl dX11_act_48 ?_
      refine v_iload_n (pc := 50) 4 rfl dX11_act_50 ?_
      refine v_callU (pc := 51) [0] [] [] (z := yX5_strikes) (As := [ai xx]) (rest := []) (c_X5_strikes_k7 q1 ta (f (7 + player)) player (f (13 + player)) (f (19 + player)) (f (25 + player)) (f (31 + player)) (f (37 + player)) (f (43 + player)) xx (aup tr0 0 0) (by exact trB_le htr (by decide))) (c := 7) rfl (Or.inl r3) wl_X11_270 wsm_4 wi_X5_strikes wk_X5_strikes wv_X7_X5_strikes_X5_strikes wi_X5_strikes wk_X5_strikes wz_X5 mdo_X5_strikes rfl (Nat.le_of_ble_eq_true rfl) ⟨Nat.le_of_ble_eq_true rfl, Nat.le_of_ble_eq_true rfl, Nat.le_of_ble_eq_true rfl, Nat.le_of_ble_eq_true rfl⟩ rfl rfl rfl rfl (by decide) (ro_cons (Or.inl r3) ro_nil) dX11_act_51 (fun u hu => ?_)
      show V x cX11_act RX11 5 (rmU 7 148 0 0) [(ta, cn 0 21 (bg (aup tr0 0 0) 1))] 54 [(4, ar q1), (0, ar mo), (1, ai player), (2, ai act), (3, ai xx)] [ai (xx + player)] 0 0
      exact hret (bg (aup tr0 0 0) 1) _ _ _ _ _ _ (by show _ = (lAct f player act).foldl bg (aup tr0 0 0); unfold lAct; rw [if_neg (by omega), if_pos (by omega)]; unfold bS; rw [hk]; rfl) (congrArg (fun z => some (ai z)) (by unfold qAct; rw [if_neg (by omega), if_pos (by omega)]; unfold aStr; rw [hk]; rfl)) rfl (Nat.le_of_ble_eq_true rfl) (Nat.le_of_ble_eq_true rfl) dX11_act_54
    · refine v_sw_in (pc := 22) 55 1 dX11_act_22 (by unfold iB; omega) (by omega) (by omega) (by rw [c_1e]; rfl) rfl (by decide) ?_
      refine v_aload (pc := 55) 0 rfl dX11_act_55 ?_
      refine v_iload_n (pc := 57) 4 rfl dX11_act_57 ?_
      refine v_callU (pc := 58) [0] [] [] (z := yX5_catches) (As := [ai xx]) (rest := []) (c_X5_catches_k7 q1 ta (f (7 + player)) player (f (13 + player)) (f (19 + player)) (f (25 + player)) (f (31 + player)) (f (37 + player)) (f (43 + player)) xx (aup tr0 0 0) (by exact trB_le htr (by decide))) (c := 7) rfl (Or.inl r3) wl_X11_273 wsm_8 wi_X5_catches wk_X5_catches wv_X7_X5_catches_X5_catches wi_X5_catches wk_X5_catches wz_X5 mdo_X5_catches rfl (Nat.le_of_ble_eq_true rfl) ⟨Nat.le_of_ble_eq_true rfl, Nat.le_of_ble_eq_true rfl, Nat.le_of_ble_eq_true rfl, Nat.le_of_ble_eq_true rfl⟩ rfl rfl rfl rfl (by decide) (ro_cons (Or.inl r3) ro_nil) dX11_act_58 (fun u hu => ?_)
      show V x cX11_act RX11 5 (rmU 7 148 0 0) [(ta, cn 0 21 (bg (bg (aup tr0 0 0) 2) 1))] 61 [(4, ar q1), (0, ar mo), (1, ai player), (2, ai act), (3, ai xx)] [ai ((xx + player) - (f (13 + player)))] 0 0
      exact hret (bg (bg (aup tr0 0 0) 2) 1) _ _ _ _ _ _ (by show _ = (lAct f player act).foldl bg (aup tr0 0 0); unfold lAct; rw [if_neg (by omega), if_neg (by omega), if_pos (by omega)]; unfold bC bS; rw [hk]; rfl) (congrArg (fun z => some (ai z)) (by unfold qAct; rw [if_neg (by omega), if_neg (by omega), if_pos (by omega)]; unfold aCt aPC aStr; rw [hk]; rfl)) rfl (Nat.le_of_ble_eq_true rfl) (Nat.le_of_ble_eq_true rfl) dX11_act_61
    · refine v_sw_in (pc := 22) 62 2 dX11_act_22 (by unfold iB; omega) (by omega) (by omega) (by rw [c_1e]; rfl) rfl (by decide) ?_
      refine v_aload (pc := 62) 0 rfl dX11_act_62 ?_
      refine v_iload_n (pc := 64) 4 rfl dX11_act_64 ?_
      refine v_callU (pc := 65) [0] [] [] (z := yX5_tells) (As := [ai xx]) (rest := []) (c_X7_tells_k7 q1 ta (f (7 + player)) player (f (13 + player)) (f (19 + player)) (f (25 + player)) (f (31 + player)) (f (37 + player)) (f (43 + player)) xx (aup tr0 0 0) (by exact trB_le htr (by decide))) (c := 7) rfl (Or.inl r3) wl_X11_276 wsm_12 wi_X5_tells wk_X5_tells wv_X7_X5_tells_X7_tells wi_X7_tells wk_X7_tells wz_X7 mdo_X5_tells rfl (Nat.le_of_ble_eq_true rfl) ⟨Nat.le_of_ble_eq_true rfl, Nat.le_of_ble_eq_true rfl, Nat.le_of_ble_eq_true rfl, Nat.le_of_ble_eq_true rfl⟩ rfl rfl rfl rfl (by decide) (ro_cons (Or.inl r3) ro_nil) dX11_act_65 (fun u hu => ?_)
      show V x cX11_act RX11 5 (rmU 7 148 0 0) [(ta, cn 0 21 (bg (bg (bg (bg (aup tr0 0 0) 31) 3) 2) 1))] 68 [(4, ar q1), (0, ar mo), (1, ai player), (2, ai act), (3, ai xx)] [ai (kXor (((xx + player) - (f (13 + player))) * 2) 7)] 0 0
      exact hret (bg (bg (bg (bg (aup tr0 0 0) 31) 3) 2) 1) _ _ _ _ _ _ (by show _ = (lAct f player act).foldl bg (aup tr0 0 0); unfold lAct; rw [if_neg (by omega), if_neg (by omega), if_neg (by omega)]; unfold bT bC bS; rw [hk]; rfl) (congrArg (fun z => some (ai z)) (by unfold qAct; rw [if_neg (by omega), if_neg (by omega), if_neg (by omega)]; unfold aTl aPT aCt aPC aStr; rw [hk]; rfl)) rfl (Nat.le_of_ble_eq_true rfl) (Nat.le_of_ble_eq_true rfl) dX11_act_68
set_option maxHeartbeats 4000000 in
set_option maxRecDepth 100000 in
theorem c_X11_act_k1 {gS : sG} (mo : Nat) (kw : Nat) (pi : Nat) (ta : Nat) (ms : Nat) (pt : Nat) (po : Nat) (hi : Int) (nw : Nat) (pls : Nat) (ins : Nat) (tap : Nat) (e3 : Nat) (e4 : Nat) (e5 : Nat) (e6 : Nat) (e7 : Nat) (e8 : Nat) (bar : Nat) (pv : Int → Option Nat) (q1 : Nat) (t1 : Nat) (f : Int → Int) (tr0 : Int → Int) (player : Int) (act : Int) (xx : Int) (hS : SOK f) (hpv : pv player = some q1) (hp : 0 ≤ player ∧ player ≤ f 0 - 1) (hk : f (7 + player) = 4) (hb_player : -2147483648 ≤ player ∧ player < 2147483648) (hb_act : -2147483648 ≤ act ∧ act < 2147483648) (hb_xx : -2147483648 ≤ xx ∧ xx < 2147483648) : Ct gS (S := Int → Int) yX11_act cX11_act 5 (some .int) 7 148 0 0 [ar mo, ai player, ai act, ai xx] [(ta, cn 0 21 tr0)] (fun q => q ∈ ([(mo, co 11 [ar nw, ar kw, ar pi, ar ta, ar ms, ar pt, ar po, ai hi]), (nw, co 10 [ar pls, ar ins, ar tap, ar e3, ar e4, ar e5, ar e6, ar e7, ar e8, ai (f 0), ai (f 1), ai (f 4), ai (f 2), ai (f 3), ai (f 6), ar bar]), (pls, cq 3 6 pv), (q1, co 1 [ar ta, ai (f (7 + player)), ai player, ai (f (13 + player)), ai (f (19 + player)), ai (f (25 + player)), ai (f (31 + player)), ai (f (37 + player)), ai (f (43 + player))])] : aW)) (fun u => u = (lAct f player act).foldl bg (aup tr0 0 0)) (fun u => some (ai (qAct f player act xx))) (fun u => [(ta, cn 0 21 u)]) := by
  refine ct_I RX11 [(0, ar mo), (1, ai player), (2, ai act), (3, ai xx)] (by decide) rfl (Nat.le_of_ble_eq_true rfl) rfl (fun x hgS hro hret => ?_)
  subst hgS
  have r0 := hro _ (mem_at 0 rfl)
  have r1 := hro _ (mem_at 1 rfl)
  have r2 := hro _ (mem_at 2 rfl)
  have r3 := hro _ (mem_at 3 rfl)
  obtain ⟨⟨hg0, hg1, hg2, hg3, hg4, hg5, hg6, hg7⟩, hSp, hSh, hSs, hSb, hSt, hSw⟩ := id hS
  obtain ⟨hpp, hf1, hf2, hf3, hf4, hf5, hf6, hf7, hf8⟩ := hSp player (by omega) (by omega)
  have htr : trB (aup tr0 0 0) 0 := by unfold trB; rw [aup_s]; decide
  show V x cX11_act RX11 5 (rmU 7 148 0 0) [(ta, cn 0 21 tr0)] 0 [(0, ar mo), (1, ai player), (2, ai act), (3, ai xx)] [] 0 0
  refine v_aload_n (pc := 0) 0 rfl dX11_act_0 ?_
  refine v_get (pc := 1) (v := ar ta) 3 (Or.inl r0) fl_11_28_11 rfl dX11_act_1 ?_
  refine v_iconst (pc := 4) dX11_act_4 ?_
  refine v_iconst (pc := 5) dX11_act_5 ?_
  refine v_iast (pc := 6) 0 rfl (by omega) (by omega) (by decide) (ws2 := [(ta, cn 0 21 (aup tr0 0 0))]) rfl dX11_act_6 ?_
  refine v_aload_n (pc := 7) 0 rfl dX11_act_7 ?_
  refine v_iload_n (pc := 8) 1 rfl dX11_act_8 ?_
  refine v_callV (pc := 9) [] [0] [(ta, cn 0 21 (aup tr0 0 0))] (As := [ai player]) (rest := []) (c_X11_find_y mo kw pi ta ms pt po hi nw pls ins tap e3 e4 e5 e6 e7 e8 bar pv q1 f player (by assumption) (by first | omega | assumption) (by first | omega | assumption)) (c := 11) rfl (Or.inl r0) wl_X11_99 wi_X11_find wv_X11_X11_find_X11_find wk_X11_find wz_X11 md_X11_find rfl (Nat.le_of_ble_eq_true rfl) ⟨Nat.le_of_ble_eq_true rfl, Nat.le_of_ble_eq_true rfl, Nat.le_of_ble_eq_true rfl, Nat.le_of_ble_eq_true rfl⟩ rfl rfl rfl rfl (by decide) (ro_cons (Or.inl r0) (ro_cons (Or.inl r1) (ro_cons (Or.inl r2) ro_nil))) dX11_act_9 (fun u hu => ?_)
  show V x cX11_act RX11 5 (rmU 7 148 0 0) [(ta, cn 0 21 (aup tr0 0 0))] 12 [(0, ar mo), (1, ai player), (2, ai act), (3, ai xx)] [ar q1] 0 0
  refine v_astore (pc := 12) (L2 := [(4, ar q1), (0, ar mo), (1, ai player), (2, ai act), (3, ai xx)]) rfl (by decide) dX11_act_12 ?_
  refine v_aload (pc := 14) 0 rfl dX11_act_14 ?_
  refine v_ifnonnull_r (pc := 16) 21 dX11_act_16 (by decide) ?_
  refine v_iload_n (pc := 21) 3 rfl dX11_act_21 ?_
  rcases Classical.em (act < 0 ∨ 2 < act) with c_1 | c_1
  · refine v_sw_out (pc := 22) 69 dX11_act_22 (by decide) (by unfold iB; omega) c_1 ?_
    refine v_iconst (pc := 69) dX11_act_69 ?_
    exact hret (aup tr0 0 0) _ _ _ _ _ _ (by show _ = (lAct f player act).foldl bg (aup tr0 0 0); unfold lAct; rw [if_pos (by omega)]; rfl) (congrArg (fun z => some (ai z)) (by unfold qAct; rw [if_pos (by omega)])) rfl (Nat.le_of_ble_eq_true rfl) (Nat.le_of_ble_eq_true rfl) dX11_act_70
  · rcases (show act = 0 ∨ act = 1 ∨ act = 2 by omega) with c_1e | c_1e | c_1e
    · refine v_sw_in (pc := 22) 48 0 dX11_act_22 (by unfold iB; omega) (by omega) (by omega) (by rw [c_1e]; rfl) rfl (by decide) ?_
      refine v_aload (pc := 48) 0 rfl dX11_act_48 ?_
      refine v_iload_n (pc := 50) 4 rfl dX11_act_50 ?_
      refine v_callU (pc := 51) [0] [] [] (z := yX5_strikes) (As := [ai xx]) (rest := []) (c_X8_strikes_k1 q1 ta (f (7 + player)) player (f (13 + player)) (f (19 + player)) (f (25 + player)) (f (31 + player)) (f (37 + player)) (f (43 + player)) xx (aup tr0 0 0) (by exact trB_le htr (by decide))) (c := 1) rfl (Or.inl r3) wl_X11_270 wsm_4 wi_X5_strikes wk_X5_strikes wv_X1_X5_strikes_X8_strikes wi_X8_strikes wk_X8_strikes wz_X8 mdo_X5_strikes rfl (Nat.le_of_ble_eq_true rfl) ⟨Nat.le_of_ble_eq_true rfl, Nat.le_of_ble_eq_true rfl, Nat.le_of_ble_eq_true rfl, Nat.le_of_ble_eq_true rfl⟩ rfl rfl rfl rfl (by decide) (ro_cons (Or.inl r3) ro_nil) dX11_act_51 (fun u hu => ?_)
      show V x cX11_act RX11 5 (rmU 7 148 0 0) [(ta, cn 0 21 (bg (bg (aup tr0 0 0) 11) 1))] 54 [(4, ar q1), (0, ar mo), (1, ai player), (2, ai act), (3, ai xx)] [ai ((xx * 3) + player)] 0 0
      exact hret (bg (bg (aup tr0 0 0) 11) 1) _ _ _ _ _ _ (by show _ = (lAct f player act).foldl bg (aup tr0 0 0); unfold lAct; rw [if_neg (by omega), if_pos (by omega)]; unfold bS; rw [hk]; rfl) (congrArg (fun z => some (ai z)) (by unfold qAct; rw [if_neg (by omega), if_pos (by omega)]; unfold aStr; rw [hk]; rfl)) rfl (Nat.le_of_ble_eq_true rfl) (Nat.le_of_ble_eq_true rfl) dX11_act_54
    · refine v_sw_in (pc := 22) 55 1 dX11_act_22 (by unfold iB; omega) (by omega) (by omega) (by rw [c_1e]; rfl) rfl (by decide) ?_
      refine v_aload (pc := 55) 0 rfl dX11_act_55 ?_
      refine v_iload_n (pc := 57) 4 rfl dX11_act_57 ?_
      refine v_callU (pc := 58) [0] [] [] (z := yX5_catches) (As := [ai xx]) (rest := []) (c_X5_catches_k1 q1 ta (f (7 + player)) player (f (13 + player)) (f (19 + player)) (f (25 + player)) (f (31 + player)) (f (37 + player)) (f (43 + player)) xx (aup tr0 0 0) (by exact trB_le htr (by decide))) (c := 1) rfl (Or.inl r3) wl_X11_273 wsm_8 wi_X5_catches wk_X5_catches wv_X1_X5_catches_X5_catches wi_X5_catches wk_X5_catches wz_X5 mdo_X5_catches rfl (Nat.le_of_ble_eq_true rfl) ⟨Nat.le_of_ble_eq_true rfl, Nat.le_of_ble_eq_true rfl, Nat.le_of_ble_eq_true rfl, Nat.le_of_ble_eq_true rfl⟩ rfl rfl rfl rfl (by decide) (ro_cons (Or.inl r3) ro_nil) dX11_act_58 (fun u hu => ?_)
      show V x cX11_act RX11 5 (rmU 7 148 0 0) [(ta, cn 0 21 (bg (bg (bg (aup tr0 0 0) 2) 11) 1))] 61 [(4, ar q1), (0, ar mo), (1, ai player), (2, ai act), (3, ai xx)] [ai (((xx * 3) + player) - (f (13 + player)))] 0 0
      exact hret (bg (bg (bg (aup tr0 0 0) 2) 11) 1) _ _ _ _ _ _ (by show _ = (lAct f player act).foldl bg (aup tr0 0 0); unfold lAct; rw [if_neg (by omega), if_neg (by omega), if_pos (by omega)]; unfold bC bS; rw [hk]; rfl) (congrArg (fun z => some (ai z)) (by unfold qAct; rw [if_neg (by omega), if_neg (by omega), if_pos (by omega)]; unfold aCt aPC aStr; rw [hk]; rfl)) rfl (Nat.le_of_ble_eq_true rfl) (Nat.le_of_ble_eq_true rfl) dX11_act_61
    · refine v_sw_in (pc := 22) 62 2 dX11_act_22 (by unfold iB; omega) (by omega) (by omega) (by rw [c_1e]; rfl) rfl (by decide) ?_
      refine v_aload (pc := 62) 0 rfl dX11_act_62 ?_
      refine v_iload_n (pc := 64) 4 rfl dX11_act_64 ?_
      refine v_callU (pc := 65) [0] [] [] (z := yX5_tells) (As := [ai xx]) (rest := []) (c_X1_tells_k1 q1 ta (f (7 + player)) player (f (13 + player)) (f (19 + player)) (f (25 + player)) (f (31 + player)) (f (37 + player)) (f (43 + player)) xx (aup tr0 0 0) (by exact trB_le htr (by decide))) (c := 1) rfl (Or.inl r3) wl_X11_276 wsm_12 wi_X5_tells wk_X5_tells wv_X1_X5_tells_X1_tells wi_X1_tells wk_X1_tells wz_X1 mdo_X5_tells rfl (Nat.le_of_ble_eq_true rfl) ⟨Nat.le_of_ble_eq_true rfl, Nat.le_of_ble_eq_true rfl, Nat.le_of_ble_eq_true rfl, Nat.le_of_ble_eq_true rfl⟩ rfl rfl rfl rfl (by decide) (ro_cons (Or.inl r3) ro_nil) dX11_act_65 (fun u hu => ?_)
      show V x cX11_act RX11 5 (rmU 7 148 0 0) [(ta, cn 0 21 (bg (bg (bg (bg (bg (bg (bg (aup tr0 0 0) 41) 3) 2) 11) 1) 11) 1))] 68 [(4, ar q1), (0, ar mo), (1, ai player), (2, ai act), (3, ai xx)] [ai (((((xx - 1) * 3) + player) - (f (13 + player))) * 2 + ((2 * 3) + player))] 0 0
      exact hret (bg (bg (bg (bg (bg (bg (bg (aup tr0 0 0) 41) 3) 2) 11) 1) 11) 1) _ _ _ _ _ _ (by show _ = (lAct f player act).foldl bg (aup tr0 0 0); unfold lAct; rw [if_neg (by omega), if_neg (by omega), if_neg (by omega)]; unfold bT bC bS; rw [hk]; rfl) (congrArg (fun z => some (ai z)) (by unfold qAct; rw [if_neg (by omega), if_neg (by omega), if_neg (by omega)]; unfold aTl aPT aCt aPC aStr; rw [hk]; rfl)) rfl (Nat.le_of_ble_eq_true rfl) (Nat.le_of_ble_eq_true rfl) dX11_act_68
set_option maxHeartbeats 4000000 in
set_option maxRecDepth 100000 in
theorem c_X11_act_k2 {gS : sG} (mo : Nat) (kw : Nat) (pi : Nat) (ta : Nat) (ms : Nat) (pt : Nat) (po : Nat) (hi : Int) (nw : Nat) (pls : Nat) (ins : Nat) (tap : Nat) (e3 : Nat) (e4 : Nat) (e5 : Nat) (e6 : Nat) (e7 : Nat) (e8 : Nat) (bar : Nat) (pv : Int → Option Nat) (q1 : Nat) (t1 : Nat) (f : Int → Int) (tr0 : Int → Int) (player : Int) (act : Int) (xx : Int) (hS : SOK f) (hpv : pv player = some q1) (hp : 0 ≤ player ∧ player ≤ f 0 - 1) (hk : f (7 + player) = 5) (hb_player : -2147483648 ≤ player ∧ player < 2147483648) (hb_act : -2147483648 ≤ act ∧ act < 2147483648) (hb_xx : -2147483648 ≤ xx ∧ xx < 2147483648) : Ct gS (S := Int → Int) yX11_act cX11_act 5 (some .int) 7 148 0 0 [ar mo, ai player, ai act, ai xx] [(ta, cn 0 21 tr0)] (fun q => q ∈ ([(mo, co 11 [ar nw, ar kw, ar pi, ar ta, ar ms, ar pt, ar po, ai hi]), (nw, co 10 [ar pls, ar ins, ar tap, ar e3, ar e4, ar e5, ar e6, ar e7, ar e8, ai (f 0), ai (f 1), ai (f 4), ai (f 2), ai (f 3), ai (f 6), ar bar]), (pls, cq 3 6 pv), (q1, co 2 [ar ta, ai (f (7 + player)), ai player, ai (f (13 + player)), ai (f (19 + player)), ai (f (25 + player)), ai (f (31 + player)), ai (f (37 + player)), ai (f (43 + player))])] : aW)) (fun u => u = (lAct f player act).foldl bg (aup tr0 0 0)) (fun u => some (ai (qAct f player act xx))) (fun u => [(ta, cn 0 21 u)]) := by
  refine ct_I RX11 [(0, ar mo), (1, ai player), (2, ai act), (3, ai xx)] (by decide) rfl (Nat.le_of_ble_eq_true rfl) rfl (fun x hgS hro hret => ?_)
  subst hgS
  have r0 := hro _ (mem_at 0 rfl)
  have r1 := hro _ (mem_at 1 rfl)
  have r2 := hro _ (mem_at 2 rfl)
  have r3 := hro _ (mem_at 3 rfl)
  obtain ⟨⟨hg0, hg1, hg2, hg3, hg4, hg5, hg6, hg7⟩, hSp, hSh, hSs, hSb, hSt, hSw⟩ := id hS
  obtain ⟨hpp, hf1, hf2, hf3, hf4, hf5, hf6, hf7, hf8⟩ := hSp player (by omega) (by omega)
  have htr : trB (aup tr0 0 0) 0 := by unfold trB; rw [aup_s]; decide
  show V x cX11_act RX11 5 (rmU 7 148 0 0) [(ta, cn 0 21 tr0)] 0 [(0, ar mo), (1, ai player), (2, ai act), (3, ai xx)] [] 0 0
  refine v_aload_n (pc := 0) 0 rfl dX11_act_0 ?_
  refine v_get (pc := 1) (v := ar ta) 3 (Or.inl r0) fl_11_28_11 rfl dX11_act_1 ?_
  refine v_iconst (pc := 4) dX11_act_4 ?_
  refine v_iconst (pc := 5) dX11_act_5 ?_
  refine v_iast (pc := 6) 0 rfl (by omega) (by omega) (by decide) (ws2 := [(ta, cn 0 21 (aup tr0 0 0))]) rfl dX11_act_6 ?_
  refine v_aload_n (pc := 7) 0 rfl dX11_act_7 ?_
  refine v_iload_n (pc := 8) 1 rfl dX11_act_8 ?_
  refine v_callV (pc := 9) [] [0] [(ta, cn 0 21 (aup tr0 0 0))] (As := [ai player]) (rest := []) (c_X11_find_y mo kw pi ta ms pt po hi nw pls ins tap e3 e4 e5 e6 e7 e8 bar pv q1 f player (by assumption) (by first | omega | assumption) (by first | omega | assumption)) (c := 11) rfl (Or.inl r0) wl_X11_99 wi_X11_find wv_X11_X11_find_X11_find wk_X11_find wz_X11 md_X11_find rfl (Nat.le_of_ble_eq_true rfl) ⟨Nat.le_of_ble_eq_true rfl, Nat.le_of_ble_eq_true rfl, Nat.le_of_ble_eq_true rfl, Nat.le_of_ble_eq_true rfl⟩ rfl rfl rfl rfl (by decide) (ro_cons (Or.inl r0) (ro_cons (Or.inl r1) (ro_cons (Or.inl r2) ro_nil))) dX11_act_9 (fun u hu => ?_)
  show V x cX11_act RX11 5 (rmU 7 148 0 0) [(ta, cn 0 21 (aup tr0 0 0))] 12 [(0, ar mo), (1, ai player), (2, ai act), (3, ai xx)] [ar q1] 0 0
  refine v_astore (pc := 12) (L2 := [(4, ar q1), (0, ar mo), (1, ai player), (2, ai act), (3, ai xx)]) rfl (by decide) dX11_act_12 ?_
  refine v_aload (pc := 14) 0 rfl dX11_act_14 ?_
  refine v_ifnonnull_r (pc := 16) 21 dX11_act_16 (by decide) ?_
  refine v_iload_n (pc := 21) 3 rfl dX11_act_21 ?_
  rcases Classical.em (act < 0 ∨ 2 < act) with c_1 | c_1
  · refine v_sw_out (pc := 22) 69 dX11_act_22 (by decide) (by unfold iB; omega) c_1 ?_
    refine v_iconst (pc := 69) dX11_act_69 ?_
    exact hret (aup tr0 0 0) _ _ _ _ _ _ (by show _ = (lAct f player act).foldl bg (aup tr0 0 0); unfold lAct; rw [if_pos (by omega)]; rfl) (congrArg (fun z => some (ai z)) (by unfold qAct; rw [if_pos (by omega)])) rfl (Nat.le_of_ble_eq_true rfl) (Nat.le_of_ble_eq_true rfl) dX11_act_70
  · rcases (show act = 0 ∨ act = 1 ∨ act = 2 by omega) with c_1e | c_1e | c_1e
    · refine v_sw_in (pc := 22) 48 0 dX11_act_22 (by unfold iB; omega) (by omega) (by omega) (by rw [c_1e]; rfl) rfl (by decide) ?_
      refine v_aload (pc := 48) 0 rfl dX11_act_48 ?_
      refine v_iload_n (pc := 50) 4 rfl dX11_act_50 ?_
      refine v_callU (pc := 51) [0] [] [] (z := yX5_strikes) (As := [ai xx]) (rest := []) (c_X2_strikes_k2 q1 ta (f (7 + player)) player (f (13 + player)) (f (19 + player)) (f (25 + player)) (f (31 + player)) (f (37 + player)) (f (43 + player)) xx (aup tr0 0 0) (by exact trB_le htr (by decide))) (c := 2) rfl (Or.inl r3) wl_X11_270 wsm_4 wi_X5_strikes wk_X5_strikes wv_X2_X5_strikes_X2_strikes wi_X2_strikes wk_X2_strikes wz_X2 mdo_X5_strikes rfl (Nat.le_of_ble_eq_true rfl) ⟨Nat.le_of_ble_eq_true rfl, Nat.le_of_ble_eq_true rfl, Nat.le_of_ble_eq_true rfl, Nat.le_of_ble_eq_true rfl⟩ rfl rfl rfl rfl (by decide) (ro_cons (Or.inl r3) ro_nil) dX11_act_51 (fun u hu => ?_)
      show V x cX11_act RX11 5 (rmU 7 148 0 0) [(ta, cn 0 21 (bg (bg (aup tr0 0 0) 51) 1))] 54 [(4, ar q1), (0, ar mo), (1, ai player), (2, ai act), (3, ai xx)] [ai (kXor (xx + player) player)] 0 0
      exact hret (bg (bg (aup tr0 0 0) 51) 1) _ _ _ _ _ _ (by show _ = (lAct f player act).foldl bg (aup tr0 0 0); unfold lAct; rw [if_neg (by omega), if_pos (by omega)]; unfold bS; rw [hk]; rfl) (congrArg (fun z => some (ai z)) (by unfold qAct; rw [if_neg (by omega), if_pos (by omega)]; unfold aStr; rw [hk]; rfl)) rfl (Nat.le_of_ble_eq_true rfl) (Nat.le_of_ble_eq_true rfl) dX11_act_54
    · refine v_sw_in (pc := 22) 55 1 dX11_act_22 (by unfold iB; omega) (by omega) (by omega) (by rw [c_1e]; rfl) rfl (by decide) ?_
      refine v_aload (pc := 55) 0 rfl dX11_act_55 ?_
      refine v_iload_n (pc := 57) 4 rfl dX11_act_57 ?_
      refine v_callU (pc := 58) [0] [] [] (z := yX5_catches) (As := [ai xx]) (rest := []) (c_X0_catches_k2 q1 ta (f (7 + player)) player (f (13 + player)) (f (19 + player)) (f (25 + player)) (f (31 + player)) (f (37 + player)) (f (43 + player)) xx (aup tr0 0 0) (by exact trB_le htr (by decide))) (c := 2) rfl (Or.inl r3) wl_X11_273 wsm_8 wi_X5_catches wk_X5_catches wv_X2_X5_catches_X0_catches wi_X0_catches wk_X0_catches wz_X0 mdo_X5_catches rfl (Nat.le_of_ble_eq_true rfl) ⟨Nat.le_of_ble_eq_true rfl, Nat.le_of_ble_eq_true rfl, Nat.le_of_ble_eq_true rfl, Nat.le_of_ble_eq_true rfl⟩ rfl rfl rfl rfl (by decide) (ro_cons (Or.inl r3) ro_nil) dX11_act_58 (fun u hu => ?_)
      show V x cX11_act RX11 5 (rmU 7 148 0 0) [(ta, cn 0 21 (bg (bg (bg (bg (aup tr0 0 0) 21) 2) 51) 1))] 61 [(4, ar q1), (0, ar mo), (1, ai player), (2, ai act), (3, ai xx)] [ai (-((kXor (xx + player) player) - (f (13 + player))))] 0 0
      exact hret (bg (bg (bg (bg (aup tr0 0 0) 21) 2) 51) 1) _ _ _ _ _ _ (by show _ = (lAct f player act).foldl bg (aup tr0 0 0); unfold lAct; rw [if_neg (by omega), if_neg (by omega), if_pos (by omega)]; unfold bC bS; rw [hk]; rfl) (congrArg (fun z => some (ai z)) (by unfold qAct; rw [if_neg (by omega), if_neg (by omega), if_pos (by omega)]; unfold aCt aPC aStr; rw [hk]; rfl)) rfl (Nat.le_of_ble_eq_true rfl) (Nat.le_of_ble_eq_true rfl) dX11_act_61
    · refine v_sw_in (pc := 22) 62 2 dX11_act_22 (by unfold iB; omega) (by omega) (by omega) (by rw [c_1e]; rfl) rfl (by decide) ?_
      refine v_aload (pc := 62) 0 rfl dX11_act_62 ?_
      refine v_iload_n (pc := 64) 4 rfl dX11_act_64 ?_
      refine v_callU (pc := 65) [0] [] [] (z := yX5_tells) (As := [ai xx]) (rest := []) (c_X5_tells_k2 q1 ta (f (7 + player)) player (f (13 + player)) (f (19 + player)) (f (25 + player)) (f (31 + player)) (f (37 + player)) (f (43 + player)) xx (aup tr0 0 0) (by exact trB_le htr (by decide))) (c := 2) rfl (Or.inl r3) wl_X11_276 wsm_12 wi_X5_tells wk_X5_tells wv_X2_X5_tells_X5_tells wi_X5_tells wk_X5_tells wz_X5 mdo_X5_tells rfl (Nat.le_of_ble_eq_true rfl) ⟨Nat.le_of_ble_eq_true rfl, Nat.le_of_ble_eq_true rfl, Nat.le_of_ble_eq_true rfl, Nat.le_of_ble_eq_true rfl⟩ rfl rfl rfl rfl (by decide) (ro_cons (Or.inl r3) ro_nil) dX11_act_65 (fun u hu => ?_)
      show V x cX11_act RX11 5 (rmU 7 148 0 0) [(ta, cn 0 21 (bg (bg (bg (bg (bg (aup tr0 0 0) 3) 21) 2) 51) 1))] 68 [(4, ar q1), (0, ar mo), (1, ai player), (2, ai act), (3, ai xx)] [ai ((-((kXor (xx + player) player) - (f (13 + player)))) * 2)] 0 0
      exact hret (bg (bg (bg (bg (bg (aup tr0 0 0) 3) 21) 2) 51) 1) _ _ _ _ _ _ (by show _ = (lAct f player act).foldl bg (aup tr0 0 0); unfold lAct; rw [if_neg (by omega), if_neg (by omega), if_neg (by omega)]; unfold bT bC bS; rw [hk]; rfl) (congrArg (fun z => some (ai z)) (by unfold qAct; rw [if_neg (by omega), if_neg (by omega), if_neg (by omega)]; unfold aTl aPT aCt aPC aStr; rw [hk]; rfl)) rfl (Nat.le_of_ble_eq_true rfl) (Nat.le_of_ble_eq_true rfl) dX11_act_68
set_option maxHeartbeats 4000000 in
set_option maxRecDepth 100000 in
theorem c_X11_act_k9 {gS : sG} (mo : Nat) (kw : Nat) (pi : Nat) (ta : Nat) (ms : Nat) (pt : Nat) (po : Nat) (hi : Int) (nw : Nat) (pls : Nat) (ins : Nat) (tap : Nat) (e3 : Nat) (e4 : Nat) (e5 : Nat) (e6 : Nat) (e7 : Nat) (e8 : Nat) (bar : Nat) (pv : Int → Option Nat) (q1 : Nat) (t1 : Nat) (f : Int → Int) (tr0 : Int → Int) (player : Int) (act : Int) (xx : Int) (hS : SOK f) (hpv : pv player = some q1) (hp : 0 ≤ player ∧ player ≤ f 0 - 1) (hk : f (7 + player) = 6) (hb_player : -2147483648 ≤ player ∧ player < 2147483648) (hb_act : -2147483648 ≤ act ∧ act < 2147483648) (hb_xx : -2147483648 ≤ xx ∧ xx < 2147483648) : Ct gS (S := Int → Int) yX11_act cX11_act 5 (some .int) 7 148 0 0 [ar mo, ai player, ai act, ai xx] [(ta, cn 0 21 tr0)] (fun q => q ∈ ([(mo, co 11 [ar nw, ar kw, ar pi, ar ta, ar ms, ar pt, ar po, ai hi]), (nw, co 10 [ar pls, ar ins, ar tap, ar e3, ar e4, ar e5, ar e6, ar e7, ar e8, ai (f 0), ai (f 1), ai (f 4), ai (f 2), ai (f 3), ai (f 6), ar bar]), (pls, cq 3 6 pv), (q1, co 9 [ar ta, ai (f (7 + player)), ai player, ai (f (13 + player)), ai (f (19 + player)), ai (f (25 + player)), ai (f (31 + player)), ai (f (37 + player)), ai (f (43 + player)), ar t1])] : aW)) (fun u => u = (lAct f player act).foldl bg (aup tr0 0 0)) (fun u => some (ai (qAct f player act xx))) (fun u => [(ta, cn 0 21 u)]) := by
  refine ct_I RX11 [(0, ar mo), (1, ai player), (2, ai act), (3, ai xx)] (by decide) rfl (Nat.le_of_ble_eq_true rfl) rfl (fun x hgS hro hret => ?_)
  subst hgS
  have r0 := hro _ (mem_at 0 rfl)
  have r1 := hro _ (mem_at 1 rfl)
  have r2 := hro _ (mem_at 2 rfl)
  have r3 := hro _ (mem_at 3 rfl)
  obtain ⟨⟨hg0, hg1, hg2, hg3, hg4, hg5, hg6, hg7⟩, hSp, hSh, hSs, hSb, hSt, hSw⟩ := id hS
  obtain ⟨hpp, hf1, hf2, hf3, hf4, hf5, hf6, hf7, hf8⟩ := hSp player (by omega) (by omega)
  have htr : trB (aup tr0 0 0) 0 := by unfold trB; rw [aup_s]; decide
  show V x cX11_act RX11 5 (rmU 7 148 0 0) [(ta, cn 0 21 tr0)] 0 [(0, ar mo), (1, ai player), (2, ai act), (3, ai xx)] [] 0 0
  refine v_aload_n (pc := 0) 0 rfl dX11_act_0 ?_
  refine v_get (pc := 1) (v := ar ta) 3 (Or.inl r0) fl_11_28_11 rfl dX11_act_1 ?_
  refine v_iconst (pc := 4) dX11_act_4 ?_
  refine v_iconst (pc := 5) dX11_act_5 ?_
  refine v_iast (pc := 6) 0 rfl (by omega) (by omega) (by decide) (ws2 := [(ta, cn 0 21 (aup tr0 0 0))]) rfl dX11_act_6 ?_
  refine v_aload_n (pc := 7) 0 rfl dX11_act_7 ?_
  refine v_iload_n (pc := 8) 1 rfl dX11_act_8 ?_
  refine v_callV (pc := 9) [] [0] [(ta, cn 0 21 (aup tr0 0 0))] (As := [ai player]) (rest := []) (c_X11_find_y mo kw pi ta ms pt po hi nw pls ins tap e3 e4 e5 e6 e7 e8 bar pv q1 f player (by assumption) (by first | omega | assumption) (by first | omega | assumption)) (c := 11) rfl (Or.inl r0) wl_X11_99 wi_X11_find wv_X11_X11_find_X11_find wk_X11_find wz_X11 md_X11_find rfl (Nat.le_of_ble_eq_true rfl) ⟨Nat.le_of_ble_eq_true rfl, Nat.le_of_ble_eq_true rfl, Nat.le_of_ble_eq_true rfl, Nat.le_of_ble_eq_true rfl⟩ rfl rfl rfl rfl (by decide) (ro_cons (Or.inl r0) (ro_cons (Or.inl r1) (ro_cons (Or.inl r2) ro_nil))) dX11_act_9 (fun u hu => ?_)
  show V x cX11_act RX11 5 (rmU 7 148 0 0) [(ta, cn 0 21 (aup tr0 0 0))] 12 [(0, ar mo), (1, ai player), (2, ai act), (3, ai xx)] [ar q1] 0 0
  refine v_astore (pc := 12) (L2 := [(4, ar q1), (0, ar mo), (1, ai player), (2, ai act), (3, ai xx)]) rfl (by decide) dX11_act_12 ?_
  refine v_aload (pc := 14) 0 rfl dX11_act_14 ?_
  refine v_ifnonnull_r (pc := 16) 21 dX11_act_16 (by decide) ?_
  refine v_iload_n (pc := 21) 3 rfl dX11_act_21 ?_
  rcases Classical.em (act < 0 ∨ 2 < act) with c_1 | c_1
  · refine v_sw_out (pc := 22) 69 dX11_act_22 (by decide) (by unfold iB; omega) c_1 ?_
    refine v_iconst (pc := 69) dX11_act_69 ?_
    exact hret (aup tr0 0 0) _ _ _ _ _ _ (by show _ = (lAct f player act).foldl bg (aup tr0 0 0); unfold lAct; rw [if_pos (by omega)]; rfl) (congrArg (fun z => some (ai z)) (by unfold qAct; rw [if_pos (by omega)])) rfl (Nat.le_of_ble_eq_true rfl) (Nat.le_of_ble_eq_true rfl) dX11_act_70
  · rcases (show act = 0 ∨ act = 1 ∨ act = 2 by omega) with c_1e | c_1e | c_1e
    · refine v_sw_in (pc := 22) 48 0 dX11_act_22 (by unfold iB; omega) (by omega) (by omega) (by rw [c_1e]; rfl) rfl (by decide) ?_
      refine v_aload (pc := 48) 0 rfl dX11_act_48 ?_
      refine v_iload_n (pc := 50) 4 rfl dX11_act_50 ?_
      refine v_callU (pc := 51) [0] [] [] (z := yX5_strikes) (As := [ai xx]) (rest := []) (c_X5_strikes_k9 q1 ta (f (7 + player)) player (f (13 + player)) (f (19 + player)) (f (25 + player)) (f (31 + player)) (f (37 + player)) (f (43 + player)) t1 xx (aup tr0 0 0) (by exact trB_le htr (by decide))) (c := 9) rfl (Or.inl r3) wl_X11_270 wsm_4 wi_X5_strikes wk_X5_strikes wv_X9_X5_strikes_X5_strikes wi_X5_strikes wk_X5_strikes wz_X5 mdo_X5_strikes rfl (Nat.le_of_ble_eq_true rfl) ⟨Nat.le_of_ble_eq_true rfl, Nat.le_of_ble_eq_true rfl, Nat.le_of_ble_eq_true rfl, Nat.le_of_ble_eq_true rfl⟩ rfl rfl rfl rfl (by decide) (ro_cons (Or.inl r3) ro_nil) dX11_act_51 (fun u hu => ?_)
      show V x cX11_act RX11 5 (rmU 7 148 0 0) [(ta, cn 0 21 (bg (aup tr0 0 0) 1))] 54 [(4, ar q1), (0, ar mo), (1, ai player), (2, ai act), (3, ai xx)] [ai (xx + player)] 0 0
      exact hret (bg (aup tr0 0 0) 1) _ _ _ _ _ _ (by show _ = (lAct f player act).foldl bg (aup tr0 0 0); unfold lAct; rw [if_neg (by omega), if_pos (by omega)]; unfold bS; rw [hk]; rfl) (congrArg (fun z => some (ai z)) (by unfold qAct; rw [if_neg (by omega), if_pos (by omega)]; unfold aStr; rw [hk]; rfl)) rfl (Nat.le_of_ble_eq_true rfl) (Nat.le_of_ble_eq_true rfl) dX11_act_54
    · refine v_sw_in (pc := 22) 55 1 dX11_act_22 (by unfold iB; omega) (by omega) (by omega) (by rw [c_1e]; rfl) rfl (by decide) ?_
      refine v_aload (pc := 55) 0 rfl dX11_act_55 ?_
      refine v_iload_n (pc := 57) 4 rfl dX11_act_57 ?_
      refine v_callU (pc := 58) [0] [] [] (z := yX5_catches) (As := [ai xx]) (rest := []) (c_X9_catches_k9 q1 ta (f (7 + player)) player (f (13 + player)) (f (19 + player)) (f (25 + player)) (f (31 + player)) (f (37 + player)) (f (43 + player)) t1 xx (aup tr0 0 0) (by exact trB_le htr (by decide))) (c := 9) rfl (Or.inl r3) wl_X11_273 wsm_8 wi_X5_catches wk_X5_catches wv_X9_X5_catches_X9_catches wi_X9_catches wk_X9_catches wz_X9 mdo_X5_catches rfl (Nat.le_of_ble_eq_true rfl) ⟨Nat.le_of_ble_eq_true rfl, Nat.le_of_ble_eq_true rfl, Nat.le_of_ble_eq_true rfl, Nat.le_of_ble_eq_true rfl⟩ rfl rfl rfl rfl (by decide) (ro_cons (Or.inl r3) ro_nil) dX11_act_58 (fun u hu => ?_)
      show V x cX11_act RX11 5 (rmU 7 148 0 0) [(ta, cn 0 21 (bg (bg (bg (aup tr0 0 0) 61) 2) 1))] 61 [(4, ar q1), (0, ar mo), (1, ai player), (2, ai act), (3, ai xx)] [ai (((xx + player) - (f (13 + player))) + (f (13 + player)))] 0 0
      exact hret (bg (bg (bg (aup tr0 0 0) 61) 2) 1) _ _ _ _ _ _ (by show _ = (lAct f player act).foldl bg (aup tr0 0 0); unfold lAct; rw [if_neg (by omega), if_neg (by omega), if_pos (by omega)]; unfold bC bS; rw [hk]; rfl) (congrArg (fun z => some (ai z)) (by unfold qAct; rw [if_neg (by omega), if_neg (by omega), if_pos (by omega)]; unfold aCt aPC aStr; rw [hk]; rfl)) rfl (Nat.le_of_ble_eq_true rfl) (Nat.le_of_ble_eq_true rfl) dX11_act_61
    · refine v_sw_in (pc := 22) 62 2 dX11_act_22 (by unfold iB; omega) (by omega) (by omega) (by rw [c_1e]; rfl) rfl (by decide) ?_
      refine v_aload (pc := 62) 0 rfl dX11_act_62 ?_
      refine v_iload_n (pc := 64) 4 rfl dX11_act_64 ?_
      refine v_callU (pc := 65) [0] [] [] (z := yX5_tells) (As := [ai xx]) (rest := []) (c_X7_tells_k9 q1 ta (f (7 + player)) player (f (13 + player)) (f (19 + player)) (f (25 + player)) (f (31 + player)) (f (37 + player)) (f (43 + player)) t1 xx (aup tr0 0 0) (by exact trB_le htr (by decide))) (c := 9) rfl (Or.inl r3) wl_X11_276 wsm_12 wi_X5_tells wk_X5_tells wv_X9_X5_tells_X7_tells wi_X7_tells wk_X7_tells wz_X7 mdo_X5_tells rfl (Nat.le_of_ble_eq_true rfl) ⟨Nat.le_of_ble_eq_true rfl, Nat.le_of_ble_eq_true rfl, Nat.le_of_ble_eq_true rfl, Nat.le_of_ble_eq_true rfl⟩ rfl rfl rfl rfl (by decide) (ro_cons (Or.inl r3) ro_nil) dX11_act_65 (fun u hu => ?_)
      show V x cX11_act RX11 5 (rmU 7 148 0 0) [(ta, cn 0 21 (bg (bg (bg (bg (bg (aup tr0 0 0) 31) 3) 61) 2) 1))] 68 [(4, ar q1), (0, ar mo), (1, ai player), (2, ai act), (3, ai xx)] [ai (kXor ((((xx + player) - (f (13 + player))) + (f (13 + player))) * 2) 7)] 0 0
      exact hret (bg (bg (bg (bg (bg (aup tr0 0 0) 31) 3) 61) 2) 1) _ _ _ _ _ _ (by show _ = (lAct f player act).foldl bg (aup tr0 0 0); unfold lAct; rw [if_neg (by omega), if_neg (by omega), if_neg (by omega)]; unfold bT bC bS; rw [hk]; rfl) (congrArg (fun z => some (ai z)) (by unfold qAct; rw [if_neg (by omega), if_neg (by omega), if_neg (by omega)]; unfold aTl aPT aCt aPC aStr; rw [hk]; rfl)) rfl (Nat.le_of_ble_eq_true rfl) (Nat.le_of_ble_eq_true rfl) dX11_act_68
set_option maxHeartbeats 4000000 in
set_option maxRecDepth 100000 in
theorem c_X11_act_n {gS : sG} (mo : Nat) (kw : Nat) (pi : Nat) (ta : Nat) (ms : Nat) (pt : Nat) (po : Nat) (hi : Int) (nw : Nat) (pls : Nat) (ins : Nat) (tap : Nat) (e3 : Nat) (e4 : Nat) (e5 : Nat) (e6 : Nat) (e7 : Nat) (e8 : Nat) (bar : Nat) (pv : Int → Option Nat) (f : Int → Int) (tr0 : Int → Int) (player : Int) (act : Int) (xx : Int) (hS : SOK f) (hp : ¬ (0 ≤ player ∧ player ≤ f 0 - 1)) (hb_player : -2147483648 ≤ player ∧ player < 2147483648) (hb_act : -2147483648 ≤ act ∧ act < 2147483648) (hb_xx : -2147483648 ≤ xx ∧ xx < 2147483648) : Ct gS (S := Int → Int) yX11_act cX11_act 5 (some .int) 7 148 0 0 [ar mo, ai player, ai act, ai xx] [(ta, cn 0 21 tr0)] (fun q => q ∈ ([(mo, co 11 [ar nw, ar kw, ar pi, ar ta, ar ms, ar pt, ar po, ai hi]), (nw, co 10 [ar pls, ar ins, ar tap, ar e3, ar e4, ar e5, ar e6, ar e7, ar e8, ai (f 0), ai (f 1), ai (f 4), ai (f 2), ai (f 3), ai (f 6), ar bar]), (pls, cq 3 6 pv)] : aW)) (fun u => u = (lAct f player act).foldl bg (aup tr0 0 0)) (fun u => some (ai (qAct f player act xx))) (fun u => [(ta, cn 0 21 u)]) := by
  refine ct_I RX11 [(0, ar mo), (1, ai player), (2, ai act), (3, ai xx)] (by decide) rfl (Nat.le_of_ble_eq_true rfl) rfl (fun x hgS hro hret => ?_)
  subst hgS
  have r0 := hro _ (mem_at 0 rfl)
  have r1 := hro _ (mem_at 1 rfl)
  have r2 := hro _ (mem_at 2 rfl)
  obtain ⟨⟨hg0, hg1, hg2, hg3, hg4, hg5, hg6, hg7⟩, hSp, hSh, hSs, hSb, hSt, hSw⟩ := id hS
  show V x cX11_act RX11 5 (rmU 7 148 0 0) [(ta, cn 0 21 tr0)] 0 [(0, ar mo), (1, ai player), (2, ai act), (3, ai xx)] [] 0 0
  refine v_aload_n (pc := 0) 0 rfl dX11_act_0 ?_
  refine v_get (pc := 1) (v := ar ta) 3 (Or.inl r0) fl_11_28_11 rfl dX11_act_1 ?_
  refine v_iconst (pc := 4) dX11_act_4 ?_
  refine v_iconst (pc := 5) dX11_act_5 ?_
  refine v_iast (pc := 6) 0 rfl (by omega) (by omega) (by decide) (ws2 := [(ta, cn 0 21 (aup tr0 0 0))]) rfl dX11_act_6 ?_
  refine v_aload_n (pc := 7) 0 rfl dX11_act_7 ?_
  refine v_iload_n (pc := 8) 1 rfl dX11_act_8 ?_
  refine v_callV (pc := 9) [] [0] [(ta, cn 0 21 (aup tr0 0 0))] (As := [ai player]) (rest := []) (c_X11_find_n mo kw pi ta ms pt po hi nw pls ins tap e3 e4 e5 e6 e7 e8 bar pv f player (by assumption) (by first | omega | assumption) (by first | omega | assumption)) (c := 11) rfl (Or.inl r0) wl_X11_99 wi_X11_find wv_X11_X11_find_X11_find wk_X11_find wz_X11 md_X11_find rfl (Nat.le_of_ble_eq_true rfl) ⟨Nat.le_of_ble_eq_true rfl, Nat.le_of_ble_eq_true rfl, Nat.le_of_ble_eq_true rfl, Nat.le_of_ble_eq_true rfl⟩ rfl rfl rfl rfl (by decide) (ro_cons (Or.inl r0) (ro_cons (Or.inl r1) (ro_cons (Or.inl r2) ro_nil))) dX11_act_9 (fun u hu => ?_)
  show V x cX11_act RX11 5 (rmU 7 148 0 0) [(ta, cn 0 21 (aup tr0 0 0))] 12 [(0, ar mo), (1, ai player), (2, ai act), (3, ai xx)] [an] 0 0
  refine v_astore (pc := 12) (L2 := [(4, an), (0, ar mo), (1, ai player), (2, ai act), (3, ai xx)]) rfl (by decide) dX11_act_12 ?_
  refine v_aload (pc := 14) 0 rfl dX11_act_14 ?_
  refine v_ifnonnull_n (pc := 16) dX11_act_16 ?_
  refine v_iconst (pc := 19) dX11_act_19 ?_
  exact hret (aup tr0 0 0) _ _ _ _ _ _ (by show _ = (lAct f player act).foldl bg (aup tr0 0 0); unfold lAct; rw [if_pos (by omega)]; rfl) (congrArg (fun z => some (ai z)) (by unfold qAct; rw [if_pos (by omega)])) rfl (Nat.le_of_ble_eq_true rfl) (Nat.le_of_ble_eq_true rfl) dX11_act_20
set_option maxHeartbeats 4000000 in
theorem c_X11_act_y {gS : sG} (mo : Nat) (kw : Nat) (pi : Nat) (ta : Nat) (ms : Nat) (pt : Nat) (po : Nat) (hi : Int) (nw : Nat) (pls : Nat) (ins : Nat) (tap : Nat) (e3 : Nat) (e4 : Nat) (e5 : Nat) (e6 : Nat) (e7 : Nat) (e8 : Nat) (bar : Nat) (pv : Int → Option Nat) (q1 : Nat) (t1 : Nat) (f : Int → Int) (tr0 : Int → Int) (player : Int) (act : Int) (xx : Int) (hS : SOK f) (hpv : pv player = some q1) (hp : 0 ≤ player ∧ player ≤ f 0 - 1) (hb_player : -2147483648 ≤ player ∧ player < 2147483648) (hb_act : -2147483648 ≤ act ∧ act < 2147483648) (hb_xx : -2147483648 ≤ xx ∧ xx < 2147483648) : Ct gS (S := Int → Int) yX11_act cX11_act 5 (some .int) 7 148 0 0 [ar mo, ai player, ai act, ai xx] [(ta, cn 0 21 tr0)] (fun q => q ∈ ([(mo, co 11 [ar nw, ar kw, ar pi, ar ta, ar ms, ar pt, ar po, ai hi]), (nw, co 10 [ar pls, ar ins, ar tap, ar e3, ar e4, ar e5, ar e6, ar e7, ar e8, ai (f 0), ai (f 1), ai (f 4), ai (f 2), ai (f 3), ai (f 6), ar bar]), (pls, cq 3 6 pv), (q1, zpO ta f player t1)] : aW)) (fun u => u = (lAct f player act).foldl bg (aup tr0 0 0)) (fun u => some (ai (qAct f player act xx))) (fun u => [(ta, cn 0 21 u)]) := by
  have hkd := (hS.2.1 player (by omega) (by have := hS.1.1; omega)).2.1
  rcases (show f (7 + player) = 0 ∨ f (7 + player) = 1 ∨ f (7 + player) = 2 ∨ f (7 + player) = 3 ∨ f (7 + player) = 4 ∨ f (7 + player) = 5 ∨ f (7 + player) = 6 by omega) with hk | hk | hk | hk | hk | hk | hk
  · have e : zpO ta f player t1 = co 5 (zpL ta f player []) := zpO_k hk rfl rfl
    have H := c_X11_act_k5 (gS := gS) mo kw pi ta ms pt po hi nw pls ins tap e3 e4 e5 e6 e7 e8 bar pv q1 t1 f tr0 player act xx hS hpv hp hk hb_player hb_act hb_xx
    rw [e]
    exact H
  · have e : zpO ta f player t1 = co 8 (zpL ta f player []) := zpO_k hk rfl rfl
    have H := c_X11_act_k8 (gS := gS) mo kw pi ta ms pt po hi nw pls ins tap e3 e4 e5 e6 e7 e8 bar pv q1 t1 f tr0 player act xx hS hpv hp hk hb_player hb_act hb_xx
    rw [e]
    exact H
  · have e : zpO ta f player t1 = co 0 (zpL ta f player []) := zpO_k hk rfl rfl
    have H := c_X11_act_k0 (gS := gS) mo kw pi ta ms pt po hi nw pls ins tap e3 e4 e5 e6 e7 e8 bar pv q1 t1 f tr0 player act xx hS hpv hp hk hb_player hb_act hb_xx
    rw [e]
    exact H
  · have e : zpO ta f player t1 = co 7 (zpL ta f player []) := zpO_k hk rfl rfl
    have H := c_X11_act_k7 (gS := gS) mo kw pi ta ms pt po hi nw pls ins tap e3 e4 e5 e6 e7 e8 bar pv q1 t1 f tr0 player act xx hS hpv hp hk hb_player hb_act hb_xx
    rw [e]
    exact H
  · have e : zpO ta f player t1 = co 1 (zpL ta f player []) := zpO_k hk rfl rfl
    have H := c_X11_act_k1 (gS := gS) mo kw pi ta ms pt po hi nw pls ins tap e3 e4 e5 e6 e7 e8 bar pv q1 t1 f tr0 player act xx hS hpv hp hk hb_player hb_act hb_xx
    rw [e]
    exact H
  · have e : zpO ta f player t1 = co 2 (zpL ta f player []) := zpO_k hk rfl rfl
    have H := c_X11_act_k2 (gS := gS) mo kw pi ta ms pt po hi nw pls ins tap e3 e4 e5 e6 e7 e8 bar pv q1 t1 f tr0 player act xx hS hpv hp hk hb_player hb_act hb_xx
    rw [e]
    exact H
  · have e : zpO ta f player t1 = co 9 (zpL ta f player [ar t1]) := zpO_k hk rfl rfl
    have H := c_X11_act_k9 (gS := gS) mo kw pi ta ms pt po hi nw pls ins tap e3 e4 e5 e6 e7 e8 bar pv q1 t1 f tr0 player act xx hS hpv hp hk hb_player hb_act hb_xx
    rw [e]
    exact H
