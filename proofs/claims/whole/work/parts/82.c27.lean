theorem clN_pb {t : Int → Int} {e : Int} : ∀ (m : Nat) (c : CS), PB e c.1 → PB e (clN t e m c).1
  | 0, _, h => h
  | m + 1, c, h => by
    unfold clN
    split
    · rename_i q
      exact clN_pb m _ (PB_cls (c := (adv c.1, c.2)) (adv_k h (hr_lt q.2 (by decide))).1)
    · exact h
theorem clF_pb {f : Int → Int} (h : 0 ≤ f 4) : PB (f 4) (clF f).1 := clN_pb 9 _ (PB_cls (c := ((0, 0, []), 6, 1)) ⟨Int.le_refl _, h, Or.inl rfl⟩)
theorem enS_0 {e : Int} {s : PS} : (enS e s).2.1 = 0 ↔ (s.2.1 = 0 ∧ s.1 = e) := by
  unfold enS
  split
  · rename_i q
    constructor
    · intro z
      exact absurd z (by show ¬ (1 : Int) = 0; decide)
    · intro z
      exact absurd z.2 q.2
  · rename_i q
    constructor
    · intro z
      exact ⟨z, Classical.byContradiction (fun w => q ⟨z, w⟩)⟩
    · intro z
      exact z.1
theorem enS_f {e : Int} {s : PS} (h : ¬ (s.2.1 = 0 ∧ s.1 = e)) : flt (enS e s) = s.1 := by
  unfold enS
  split
  · exact flt_bad
  · rename_i q
    exact if_neg (fun z => q ⟨z, fun w => h ⟨z, w⟩⟩)
theorem innF_lo {f : Int → Int} {j : Int} (h1 : 0 ≤ f 1) (h : j < 221) (h4 : j ≠ 4) : innF f j = f j := by
  unfold innF
  rw [wrS_lo h1 (by omega), aup_n _ _ (by omega), aup_n _ _ (by omega), aup_n _ _ h4]
theorem innF_4 {f : Int → Int} (h1 : 0 ≤ f 1) : innF f 4 = 0 := by
  unfold innF
  rw [wrS_lo h1 (by omega), aup_n _ _ (by omega), aup_n _ _ (by omega), aup_s]
def inP (f : Int → Int) : Prop := (clF f).1.2.1 = 0 ∧ (clF f).1.1 = f 4
theorem qInn_p {f : Int → Int} (h5 : f 1 ≠ 5) (h : inP f) : qInn f = (f 1, aup (aup (innF f) 1 (f 1 + 1)) 5 (f 1)) := by
  unfold qInn
  rw [if_neg h5]
  exact if_pos h
theorem qInn_m {f : Int → Int} (h5 : f 1 ≠ 5) (h : ¬ inP f) : qInn f = (-10 - (clF f).1.1, innF f) := by
  unfold qInn
  rw [if_neg h5]
  exact if_neg h
abbrev innC (a : Nat) (wi pa ns us : Int) (sla ena cda : Nat) (sl en cd : Int → Int) : aW := [(a, co 3 [ai wi, ai pa, ai ns, ai us, ar sla, ar ena, ar cda]), (sla, cn 0 10 sl), (ena, cn 0 10 en), (cda, cn 0 100 cd)]
/-- the inns' row and the new cells behind the call -/
def inG (f : Int → Int) (iv iv2 : Int → Option Nat) (nl : aW) : Prop := (iv2 = iv ∧ nl = [] ∧ ¬ (f 1 ≠ 5 ∧ inP f)) ∨ (f 1 ≠ 5 ∧ inP f ∧ ∃ (a : Nat) (ns us : Int) (sla ena cda : Nat) (sl en cd : Int → Int), iv2 = aupq iv (f 1) (some a) ∧ nl = innC a (clF f).2.1 (clF f).2.2 ns us sla ena cda sl en cd ∧ EIn (clF f).1.2.2 ns us sl en cd ∧ us ≤ 100 ∧ ns ≤ 10)
theorem EIn_0 {sl en cd : Int → Int} : EIn [] 0 0 sl en cd := ⟨rfl, rfl, fun i c h => by simp [cdL] at h, fun i q h => by simp [slF] at h⟩
set_option maxHeartbeats 4000000 in
set_option maxRecDepth 100000 in
theorem c_X6_init {gS : sG} (h : Nat) (tap : Nat) (n : Int) (t : Int → Int) (hn : 0 ≤ n ∧ n ≤ 100) : Ct gS (S := Nat × Nat × Nat × Nat) yX6_init cX6_init 3 none 2 32 4 127 [ar h, ar tap, ai n] [(h, co 6 [an, ai 0, an, ai 0, ai 0])] (fun q => q ∈ ([(tap, cn 0 100 t)] : aW)) (fun u => True) (fun u => none) (fun u => [(h, co 6 (rdL tap n u.1 (0, 0, []))), (u.1, co 3 [ai 6, ai 1, ai 0, ai 0, ar u.2.1, ar u.2.2.1, ar u.2.2.2]), (u.2.1, cn 0 10 (fun _ => 0)), (u.2.2.1, cn 0 10 (fun _ => 0)), (u.2.2.2, cn 0 100 (fun _ => 0))]) := by
  refine ct_V RX6 [(0, ar h), (1, ar tap), (2, ai n)] (by decide) rfl (Nat.le_of_ble_eq_true rfl) rfl (fun x hgS hnm hro hret => ?_)
  subst hgS
  have r0 := hro _ (mem_at 0 rfl)
  show V x cX6_init RX6 3 (rmU 2 32 4 127) [(h, co 6 [an, ai 0, an, ai 0, ai 0])] 0 [(0, ar h), (1, ar tap), (2, ai n)] [] 0 0
  refine v_aload_n (pc := 0) 0 rfl dX6_init_0 ?_
  refine v_objInit (pc := 1) wlo_X6_3 wio wko ⟨Nat.le_of_ble_eq_true rfl, Nat.le_of_ble_eq_true rfl⟩ dX6_init_1 ?_
  refine v_aload_n (pc := 4) 0 rfl dX6_init_4 ?_
  refine v_new (pc := 5) (c := 3) (fs := [ai 0, ai 0, ai 0, ai 0, an, an, an]) (r := (RX3, TX3, 7)) tyX3 rfl tyX3_ok inX3 wc_X6_9 wn_X3 wz_X3 nf_X3 ⟨Nat.le_of_ble_eq_true rfl, Nat.le_of_ble_eq_true rfl⟩ dX6_init_5 (fun q_1 => ?_)
  show V x cX6_init RX6 3 (rmU 2 32 4 127) [(h, co 6 [an, ai 0, an, ai 0, ai 0]), (q_1, co 3 [ai 0, ai 0, ai 0, ai 0, an, an, an])] 8 [(0, ar h), (1, ar tap), (2, ai n)] [ar q_1, ar h] 1 7
  refine v_dup (pc := 8) rfl dX6_init_8 ?_
  refine v_callIN (pc := 9) [1] [0] [(h, co 6 [an, ai 0, an, ai 0, ai 0])] (As := []) (rest := [ar q_1, ar h]) (c_X3_init q_1 ) (mem_at 3 rfl) wi_X3_init wk_X3_init wz_X3 rfl md_X3_init rfl (Nat.le_of_ble_eq_true rfl) ⟨Nat.le_of_ble_eq_true rfl, Nat.le_of_ble_eq_true rfl, Nat.le_of_ble_eq_true rfl, Nat.le_of_ble_eq_true rfl⟩ rfl rfl rfl rfl (by decide) ro_nil dX6_init_9 (fun u hu => ?_)
  obtain ⟨q1_2, q2_3, q3_4⟩ := u
  show V x cX6_init RX6 3 (rmU 2 32 4 127) [(h, co 6 [an, ai 0, an, ai 0, ai 0]), (q_1, co 3 [ai 6, ai 1, ai 0, ai 0, ar q1_2, ar q2_3, ar q3_4]), (q1_2, cn 0 10 (fun _ => 0)), (q2_3, cn 0 10 (fun _ => 0)), (q3_4, cn 0 100 (fun _ => 0))] 12 [(0, ar h), (1, ar tap), (2, ai n)] [ar q_1, ar h] 4 127
  refine v_putF (pc := 12) 2 0 hnm ⟨_, rfl, rfl⟩ rfl fl_6_12_6 ck_6 ft_6_2 (okV_q _ _) (Nat.le_of_ble_eq_true rfl) (ws2 := [(h, co 6 [an, ai 0, ar q_1, ai 0, ai 0]), (q_1, co 3 [ai 6, ai 1, ai 0, ai 0, ar q1_2, ar q2_3, ar q3_4]), (q1_2, cn 0 10 (fun _ => 0)), (q2_3, cn 0 10 (fun _ => 0)), (q3_4, cn 0 100 (fun _ => 0))]) rfl dX6_init_12 ?_
  refine v_aload_n (pc := 15) 0 rfl dX6_init_15 ?_
  refine v_iconst (pc := 16) dX6_init_16 ?_
  refine v_put (pc := 17) 4 0 rfl fl_6_18_6 ck_6 ft_6_4 (okV_i _) (Nat.le_of_ble_eq_true rfl) (ws2 := [(h, co 6 [an, ai 0, ar q_1, ai 0, ai (-1)]), (q_1, co 3 [ai 6, ai 1, ai 0, ai 0, ar q1_2, ar q2_3, ar q3_4]), (q1_2, cn 0 10 (fun _ => 0)), (q2_3, cn 0 10 (fun _ => 0)), (q3_4, cn 0 100 (fun _ => 0))]) rfl dX6_init_17 ?_
  refine v_aload_n (pc := 20) 0 rfl dX6_init_20 ?_
  refine v_aload_n (pc := 21) 1 rfl dX6_init_21 ?_
  refine v_putF (pc := 22) 0 0 hnm ⟨_, rfl, rfl⟩ rfl fl_6_22_6 ck_6 ft_6_0 (okV_a _ _) (Nat.le_of_ble_eq_true rfl) (ws2 := [(h, co 6 [ar tap, ai 0, ar q_1, ai 0, ai (-1)]), (q_1, co 3 [ai 6, ai 1, ai 0, ai 0, ar q1_2, ar q2_3, ar q3_4]), (q1_2, cn 0 10 (fun _ => 0)), (q2_3, cn 0 10 (fun _ => 0)), (q3_4, cn 0 100 (fun _ => 0))]) rfl dX6_init_22 ?_
  refine v_aload_n (pc := 25) 0 rfl dX6_init_25 ?_
  refine v_iload_n (pc := 26) 2 rfl dX6_init_26 ?_
  refine v_aload_n (pc := 27) 1 rfl dX6_init_27 ?_
  refine v_alen (pc := 28) (by decide) (Or.inl r0) dX6_init_28 ?_
  refine v_callS (pc := 29) [] [0, 1, 2, 3, 4] [(h, co 6 [ar tap, ai 0, ar q_1, ai 0, ai (-1)]), (q_1, co 3 [ai 6, ai 1, ai 0, ai 0, ar q1_2, ar q2_3, ar q3_4]), (q1_2, cn 0 10 (fun _ => 0)), (q2_3, cn 0 10 (fun _ => 0)), (q3_4, cn 0 100 (fun _ => 0))] (As := [ai n, ai 100]) (rest := [ar h]) (c_J9_min_7cf53 n 100 (by first | omega | assumption) (by first | omega | assumption)) wl_X6_26 ws_J9_min_7cf53 wk_J9_min_7cf53 wz_J9 md_J9_min_7cf53 rfl (Nat.le_of_ble_eq_true rfl) ⟨Nat.le_of_ble_eq_true rfl, Nat.le_of_ble_eq_true rfl, Nat.le_of_ble_eq_true rfl, Nat.le_of_ble_eq_true rfl⟩ rfl rfl rfl rfl (by decide) ro_nil dX6_init_29 (fun u hu => ?_)
  show V x cX6_init RX6 3 (rmU 2 32 4 127) [(h, co 6 [ar tap, ai 0, ar q_1, ai 0, ai (-1)]), (q_1, co 3 [ai 6, ai 1, ai 0, ai 0, ar q1_2, ar q2_3, ar q3_4]), (q1_2, cn 0 10 (fun _ => 0)), (q2_3, cn 0 10 (fun _ => 0)), (q3_4, cn 0 100 (fun _ => 0))] 32 [(0, ar h), (1, ar tap), (2, ai n)] [ai (if 100 < n then 100 else n), ar h] 4 127
  refine v_eqi (y := n) (by omega) ?_
  refine v_putF (pc := 32) 1 0 hnm ⟨_, rfl, rfl⟩ rfl fl_6_32_6 ck_6 ft_6_1 (okV_i _) (Nat.le_of_ble_eq_true rfl) (ws2 := [(h, co 6 [ar tap, ai n, ar q_1, ai 0, ai (-1)]), (q_1, co 3 [ai 6, ai 1, ai 0, ai 0, ar q1_2, ar q2_3, ar q3_4]), (q1_2, cn 0 10 (fun _ => 0)), (q2_3, cn 0 10 (fun _ => 0)), (q3_4, cn 0 100 (fun _ => 0))]) rfl dX6_init_32 ?_
  refine v_ws (ws2 := [(h, co 6 (rdL tap n q_1 (0, 0, []))), (q_1, co 3 [ai 6, ai 1, ai 0, ai 0, ar q1_2, ar q2_3, ar q3_4]), (q1_2, cn 0 10 (fun _ => 0)), (q2_3, cn 0 10 (fun _ => 0)), (q3_4, cn 0 100 (fun _ => 0))]) rfl ?_
  exact hret (q_1, q1_2, q2_3, q3_4) _ _ _ _ _ trivial rfl rfl (Nat.le_of_ble_eq_true rfl) (Nat.le_of_ble_eq_true rfl) dX6_init_35
set_option maxHeartbeats 4000000 in
set_option maxRecDepth 100000 in
theorem c_X11_inn {gS : sG} (mo : Nat) (kw : Nat) (pi : Nat) (ta : Nat) (ms : Nat) (pt : Nat) (po : Nat) (hi : Int) (nw : Nat) (pls : Nat) (ins : Nat) (tap : Nat) (e3 : Nat) (e4 : Nat) (e5 : Nat) (e6 : Nat) (e7 : Nat) (e8 : Nat) (bar : Nat) (iv : Int → Option Nat) (tp0 : Int → Int) (f : Int → Int) (hS : SOK f) (htp : ∀ j : Int, 0 ≤ j → j < 100 → tp0 j = f (121 + j)) : Ct gS (S := Int × (Int → Int) × (Int → Option Nat) × aW) yX11_inn cX11_inn 3 (some .int) 25 552 5 132 [ar mo] [(nw, co 10 [ar pls, ar ins, ar tap, ar e3, ar e4, ar e5, ar e6, ar e7, ar e8, ai (f 0), ai (f 1), ai (f 4), ai (f 2), ai (f 3), ai (f 6), ar bar]), (ins, cq 2 5 iv)] (fun q => q ∈ ([(mo, co 11 [ar nw, ar kw, ar pi, ar ta, ar ms, ar pt, ar po, ai hi]), (tap, cn 0 100 tp0)] : aW)) (fun u => (u.1, u.2.1) = qInn f ∧ inG f iv u.2.2.1 u.2.2.2) (fun u => some (ai u.1)) (fun u => ([(nw, co 10 [ar pls, ar ins, ar tap, ar e3, ar e4, ar e5, ar e6, ar e7, ar e8, ai (u.2.1 0), ai (u.2.1 1), ai (u.2.1 4), ai (u.2.1 2), ai (u.2.1 3), ai (u.2.1 6), ar bar]), (ins, cq 2 5 u.2.2.1)] ++ u.2.2.2)) := by
  refine ct_I RX11 [(0, ar mo)] (by decide) rfl (Nat.le_of_ble_eq_true rfl) rfl (fun x hgS hro hret => ?_)
  subst hgS
  have r0 := hro _ (mem_at 0 rfl)
  have r1 := hro _ (mem_at 1 rfl)
  obtain ⟨⟨hg0, hg1, hg2, hg3, hg4, hg5, hg6, hg7⟩, hSp, hSh, hSs, hSb, hSt, hSw⟩ := id hS
  show V x cX11_inn RX11 3 (rmU 25 552 5 132) [(nw, co 10 [ar pls, ar ins, ar tap, ar e3, ar e4, ar e5, ar e6, ar e7, ar e8, ai (f 0), ai (f 1), ai (f 4), ai (f 2), ai (f 3), ai (f 6), ar bar]), (ins, cq 2 5 iv)] 0 [(0, ar mo)] [] 0 0
  refine v_aload_n (pc := 0) 0 rfl dX11_inn_0 ?_
  refine v_get (pc := 1) (v := ar nw) 0 (Or.inl r0) fl_11_12_11 rfl dX11_inn_1 ?_
  refine v_get (pc := 4) (v := ai (f 1)) 10 (Or.inr ⟨0, rfl⟩) fl_11_52_10 rfl dX11_inn_4 ?_
  refine v_iconst (pc := 7) dX11_inn_7 ?_
  refine v_icmp_lt (pc := 8) 14 dX11_inn_8 (by decide) (by unfold iB; omega) (by unfold iB; omega) (fun c_1 => ?_) (fun c_1 => ?_)
  · skip
    refine v_new (pc := 14) (c := 6) (fs := [an, ai 0, an, ai 0, ai 0]) (r := (RX6, TX6, 5)) tyX6 rfl tyX6_ok inX6 wc_X11_55 wn_X6 wz_X6 nf_X6 ⟨Nat.le_of_ble_eq_true rfl, Nat.le_of_ble_eq_true rfl⟩ dX11_inn_14 (fun q_2 => ?_)
    show V x cX11_inn RX11 3 (rmU 25 552 5 132) [(nw, co 10 [ar pls, ar ins, ar tap, ar e3, ar e4, ar e5, ar e6, ar e7, ar e8, ai (f 0), ai (f 1), ai (f 4), ai (f 2), ai (f 3), ai (f 6), ar bar]), (ins, cq 2 5 iv), (q_2, co 6 [an, ai 0, an, ai 0, ai 0])] 17 [(0, ar mo)] [ar q_2] 1 5
    refine v_dup (pc := 17) rfl dX11_inn_17 ?_
    refine v_aload_n (pc := 18) 0 rfl dX11_inn_18 ?_
    refine v_get (pc := 19) (v := ar nw) 0 (Or.inl r0) fl_11_12_11 rfl dX11_inn_19 ?_
    refine v_get (pc := 22) (v := ar tap) 2 (Or.inr ⟨0, rfl⟩) fl_11_49_10 rfl dX11_inn_22 ?_
    refine v_aload_n (pc := 25) 0 rfl dX11_inn_25 ?_
    refine v_get (pc := 26) (v := ar nw) 0 (Or.inl r0) fl_11_12_11 rfl dX11_inn_26 ?_
    refine v_get (pc := 29) (v := ai (f 4)) 11 (Or.inr ⟨0, rfl⟩) fl_11_45_10 rfl dX11_inn_29 ?_
    have htpe : ∀ j : Int, 0 ≤ j → j < 100 → tp f j = f (121 + j) := fun j j0 j1 => if_pos ⟨j0, j1⟩
    have rTp : Ro x (tap, cn 0 100 (tp f)) := ro_ext r1 (fun j j0 j1 => by rw [htp j j0 (by omega), htpe j j0 (by omega)])
    refine v_callI (pc := 32) [2] [0, 1] [(nw, co 10 [ar pls, ar ins, ar tap, ar e3, ar e4, ar e5, ar e6, ar e7, ar e8, ai (f 0), ai (f 1), ai (f 4), ai (f 2), ai (f 3), ai (f 6), ar bar]), (ins, cq 2 5 iv)] (As := [ar tap, ai (f 4)]) (rest := [ar q_2]) (c_X6_init q_2 tap (f 4) (tp f) (by first | omega | assumption)) wl_X11_57 wi_X6_init wk_X6_init wz_X6 rfl md_X6_init rfl (Nat.le_of_ble_eq_true rfl) ⟨Nat.le_of_ble_eq_true rfl, Nat.le_of_ble_eq_true rfl, Nat.le_of_ble_eq_true rfl, Nat.le_of_ble_eq_true rfl⟩ rfl rfl rfl rfl (by decide) (ro_cons (Or.inl rTp) ro_nil) dX11_inn_32 (fun u hu => ?_)
    obtain ⟨q0_3, q1_4, q2_5, q3_6⟩ := u
    show V x cX11_inn RX11 3 (rmU 25 552 5 132) [(nw, co 10 [ar pls, ar ins, ar tap, ar e3, ar e4, ar e5, ar e6, ar e7, ar e8, ai (f 0), ai (f 1), ai (f 4), ai (f 2), ai (f 3), ai (f 6), ar bar]), (ins, cq 2 5 iv), (q_2, co 6 (rdL tap (f 4) q0_3 (0, 0, []))), (q0_3, co 3 [ai 6, ai 1, ai 0, ai 0, ar q1_4, ar q2_5, ar q3_6]), (q1_4, cn 0 10 (fun _ => 0)), (q2_5, cn 0 10 (fun _ => 0)), (q3_6, cn 0 100 (fun _ => 0))] 35 [(0, ar mo)] [ar q_2] 5 132
    refine v_astore_n (pc := 35) (L2 := [(1, ar q_2), (0, ar mo)]) rfl (by decide) dX11_inn_35 ?_
    refine v_aload_n (pc := 36) 0 rfl dX11_inn_36 ?_
    rcases Classical.em (inP f) with hP | hP
    · skip
      refine v_callV (pc := 37) [2, 3, 6, 4, 5] [0, 1] [(nw, co 10 [ar pls, ar ins, ar tap, ar e3, ar e4, ar e5, ar e6, ar e7, ar e8, ai (f 0), ai (f 1), ai (f 4), ai (f 2), ai (f 3), ai (f 6), ar bar]), (ins, cq 2 5 iv)] (As := []) (rest := []) (c_X6_read q_2 tap (f 4) q0_3 (tp f) (0, 0, []) 6 1 0 0 q1_4 q2_5 q3_6 (fun _ => 0) (fun _ => 0) (fun _ => 0) (by exact ⟨Int.le_refl _, hg4.1, Or.inl rfl⟩) (by exact hg4) (by intro j j0 j1; rw [htpe j j0 (by omega)]; exact hSt j j0 j1) (by exact ⟨⟨⟨Int.le_refl _, by decide⟩, ⟨Int.le_refl _, by decide⟩⟩, fun _ => ⟨EIn_0, Int.le_refl _⟩⟩) (by rfl) (by rfl)) (c := 6) rfl (Or.inr ⟨2, rfl⟩) wl_X11_60 wi_X6_read wv_X6_X6_read_X6_read wk_X6_read wz_X6 md_X6_read rfl (Nat.le_of_ble_eq_true rfl) ⟨Nat.le_of_ble_eq_true rfl, Nat.le_of_ble_eq_true rfl, Nat.le_of_ble_eq_true rfl, Nat.le_of_ble_eq_true rfl⟩ rfl rfl rfl rfl (by decide) (ro_cons (Or.inl rTp) ro_nil) dX11_inn_37 (fun u hu => ?_)
      obtain ⟨wi2_7, pa2_8, ns2_9, us2_10, sl2_11, en2_12, cd2_13⟩ := u
      have g_14 : (enS (f 4) (clN (tp f) (f 4) 9 (cls (tp f) (f 4) ((0, 0, []), 6, 1))).1).2.1 = 0 → (EIn (clN (tp f) (f 4) 9 (cls (tp f) (f 4) ((0, 0, []), 6, 1))).1.2.2 ns2_9 us2_10 sl2_11 en2_12 cd2_13 ∧ us2_10 ≤ 100 ∧ ns2_9 ≤ 10) ∧ wi2_7 = (clN (tp f) (f 4) 9 (cls (tp f) (f 4) ((0, 0, []), 6, 1))).2.1 ∧ pa2_8 = (clN (tp f) (f 4) 9 (cls (tp f) (f 4) ((0, 0, []), 6, 1))).2.2 := hu
      show V x cX11_inn RX11 3 (rmU 25 552 5 132) [(nw, co 10 [ar pls, ar ins, ar tap, ar e3, ar e4, ar e5, ar e6, ar e7, ar e8, ai (f 0), ai (f 1), ai (f 4), ai (f 2), ai (f 3), ai (f 6), ar bar]), (ins, cq 2 5 iv), (q_2, co 6 (rdL tap (f 4) q0_3 (enS (f 4) (clN (tp f) (f 4) 9 (cls (tp f) (f 4) ((0, 0, []), 6, 1))).1))), (q0_3, co 3 [ai wi2_7, ai pa2_8, ai ns2_9, ai us2_10, ar q1_4, ar q2_5, ar q3_6]), (q3_6, cn 0 100 cd2_13), (q1_4, cn 0 10 sl2_11), (q2_5, cn 0 10 en2_12)] 40 [(1, ar q_2), (0, ar mo)] [aq (if (enS (f 4) (clN (tp f) (f 4) 9 (cls (tp f) (f 4) ((0, 0, []), 6, 1))).1).2.1 = 0 then some q0_3 else none)] 5 132
      have hcf : clN (tp f) (f 4) 9 (cls (tp f) (f 4) ((0, 0, []), 6, 1)) = clF f := rfl
      have hpb := clF_pb (f := f) hg4.1
      have hz0 : (enS (f 4) (clF f).1).2.1 = 0 := enS_0.mpr hP
      obtain ⟨hE, hwi9, hpa9⟩ := g_14 hz0
      refine v_eqa (o2 := some q0_3) (if_pos hz0) ?_
      refine v_astore_n (pc := 40) (L2 := [(2, ar q0_3), (1, ar q_2), (0, ar mo)]) rfl (by decide) dX11_inn_40 ?_
      refine v_aload_n (pc := 41) 2 rfl dX11_inn_41 ?_
      refine v_get (pc := 42) (v := ar nw) 0 (Or.inl r0) fl_11_12_11 rfl dX11_inn_42 ?_
      refine v_iconst (pc := 45) dX11_inn_45 ?_
      refine v_put (pc := 46) 11 0 rfl fl_11_45_10 ck_10 ft_10_11 (okV_i _) (Nat.le_of_ble_eq_true rfl) (ws2 := [(nw, co 10 [ar pls, ar ins, ar tap, ar e3, ar e4, ar e5, ar e6, ar e7, ar e8, ai (f 0), ai (f 1), ai 0, ai (f 2), ai (f 3), ai (f 6), ar bar]), (ins, cq 2 5 iv), (q_2, co 6 (rdL tap (f 4) q0_3 (enS (f 4) (clN (tp f) (f 4) 9 (cls (tp f) (f 4) ((0, 0, []), 6, 1))).1))), (q0_3, co 3 [ai wi2_7, ai pa2_8, ai ns2_9, ai us2_10, ar q1_4, ar q2_5, ar q3_6]), (q3_6, cn 0 100 cd2_13), (q1_4, cn 0 10 sl2_11), (q2_5, cn 0 10 en2_12)]) rfl dX11_inn_46 ?_
      refine v_aload_n (pc := 49) 0 rfl dX11_inn_49 ?_
      refine v_ifnonnull_r (pc := 50) 61 dX11_inn_50 (by decide) ?_
      refine v_aload_n (pc := 61) 2 rfl dX11_inn_61 ?_
      refine v_get (pc := 62) (v := ar nw) 0 (Or.inl r0) fl_11_12_11 rfl dX11_inn_62 ?_
      refine v_get (pc := 65) (v := ar ins) 1 (Or.inr ⟨0, rfl⟩) fl_11_67_10 rfl dX11_inn_65 ?_
      refine v_aload_n (pc := 68) 2 rfl dX11_inn_68 ?_
      refine v_get (pc := 69) (v := ar nw) 0 (Or.inl r0) fl_11_12_11 rfl dX11_inn_69 ?_
      refine v_get (pc := 72) (v := ai (f 1)) 10 (Or.inr ⟨0, rfl⟩) fl_11_52_10 rfl dX11_inn_72 ?_
      refine v_aload_n (pc := 75) 0 rfl dX11_inn_75 ?_
      refine v_aastO (pc := 76) (o := (some q0_3)) 1 tQ_2 rfl (fun b h => by cases h; exact ⟨3, _, _, rfl, (Or.inr ⟨3, rfl⟩), (Or.inl rfl)⟩) (by omega) (by omega) (by decide) (ws2 := [(nw, co 10 [ar pls, ar ins, ar tap, ar e3, ar e4, ar e5, ar e6, ar e7, ar e8, ai (f 0), ai (f 1), ai 0, ai (f 2), ai (f 3), ai (f 6), ar bar]), (ins, cq 2 5 (aupq iv (f 1) (some q0_3))), (q_2, co 6 (rdL tap (f 4) q0_3 (enS (f 4) (clN (tp f) (f 4) 9 (cls (tp f) (f 4) ((0, 0, []), 6, 1))).1))), (q0_3, co 3 [ai wi2_7, ai pa2_8, ai ns2_9, ai us2_10, ar q1_4, ar q2_5, ar q3_6]), (q3_6, cn 0 100 cd2_13), (q1_4, cn 0 10 sl2_11), (q2_5, cn 0 10 en2_12)]) rfl dX11_inn_76 ?_
      refine v_aload_n (pc := 77) 2 rfl dX11_inn_77 ?_
      refine v_get (pc := 78) (v := ar nw) 0 (Or.inl r0) fl_11_12_11 rfl dX11_inn_78 ?_
      refine v_dup (pc := 81) rfl dX11_inn_81 ?_
      refine v_get (pc := 82) (v := ai (f 1)) 10 (Or.inr ⟨0, rfl⟩) fl_11_52_10 rfl dX11_inn_82 ?_
      refine v_iconst (pc := 85) dX11_inn_85 ?_
      refine v_iadd (pc := 86) dX11_inn_86 ?_
      refine v_put (pc := 87) 10 0 rfl fl_11_52_10 ck_10 ft_10_10 (okV_i _) (Nat.le_of_ble_eq_true rfl) (ws2 := [(nw, co 10 [ar pls, ar ins, ar tap, ar e3, ar e4, ar e5, ar e6, ar e7, ar e8, ai (f 0), ai ((f 1) + 1), ai 0, ai (f 2), ai (f 3), ai (f 6), ar bar]), (ins, cq 2 5 (aupq iv (f 1) (some q0_3))), (q_2, co 6 (rdL tap (f 4) q0_3 (enS (f 4) (clN (tp f) (f 4) 9 (cls (tp f) (f 4) ((0, 0, []), 6, 1))).1))), (q0_3, co 3 [ai wi2_7, ai pa2_8, ai ns2_9, ai us2_10, ar q1_4, ar q2_5, ar q3_6]), (q3_6, cn 0 100 cd2_13), (q1_4, cn 0 10 sl2_11), (q2_5, cn 0 10 en2_12)]) rfl dX11_inn_87 ?_
      refine v_aload_n (pc := 90) 2 rfl dX11_inn_90 ?_
      refine v_get (pc := 91) (v := ar nw) 0 (Or.inl r0) fl_11_12_11 rfl dX11_inn_91 ?_
      refine v_get (pc := 94) (v := ai ((f 1) + 1)) 10 (Or.inr ⟨0, rfl⟩) fl_11_52_10 rfl dX11_inn_94 ?_
      refine v_iconst (pc := 97) dX11_inn_97 ?_
      refine v_isub (pc := 98) dX11_inn_98 ?_
      have hqi := qInn_p (f := f) (by omega) hP
      have hq2 : (qInn f).2 = aup (aup (innF f) 1 (f 1 + 1)) 5 (f 1) := by rw [hqi]
      have o0 : (qInn f).2 0 = f 0 := by rw [hq2, aup_n _ _ (by decide), aup_n _ _ (by decide)]; exact innF_lo hg1.1 (by omega) (by omega)
      have o2 : (qInn f).2 2 = f 2 := by rw [hq2, aup_n _ _ (by decide), aup_n _ _ (by decide)]; exact innF_lo hg1.1 (by omega) (by omega)
      have o3 : (qInn f).2 3 = f 3 := by rw [hq2, aup_n _ _ (by decide), aup_n _ _ (by decide)]; exact innF_lo hg1.1 (by omega) (by omega)
      have o6 : (qInn f).2 6 = f 6 := by rw [hq2, aup_n _ _ (by decide), aup_n _ _ (by decide)]; exact innF_lo hg1.1 (by omega) (by omega)
      have o4 : (qInn f).2 4 = 0 := by rw [hq2, aup_n _ _ (by decide), aup_n _ _ (by decide)]; exact innF_4 hg1.1
      have o1 : (qInn f).2 1 = f 1 + 1 := by rw [hq2, aup_n _ _ (by decide)]; exact aup_s _ _ _
      refine v_wsub (ws2 := [(nw, co 10 [ar pls, ar ins, ar tap, ar e3, ar e4, ar e5, ar e6, ar e7, ar e8, ai (f 0), ai ((f 1) + 1), ai 0, ai (f 2), ai (f 3), ai (f 6), ar bar]), (ins, cq 2 5 (aupq iv (f 1) (some q0_3))), (q0_3, co 3 [ai wi2_7, ai pa2_8, ai ns2_9, ai us2_10, ar q1_4, ar q2_5, ar q3_6]), (q1_4, cn 0 10 sl2_11), (q2_5, cn 0 10 en2_12), (q3_6, cn 0 100 cd2_13)]) [0, 1, 3, 5, 6, 4] rfl rfl ?_
      refine v_ws (ws2 := ([(nw, co 10 [ar pls, ar ins, ar tap, ar e3, ar e4, ar e5, ar e6, ar e7, ar e8, ai ((qInn f).2 0), ai ((qInn f).2 1), ai ((qInn f).2 4), ai ((qInn f).2 2), ai ((qInn f).2 3), ai ((qInn f).2 6), ar bar]), (ins, cq 2 5 (aupq iv (f 1) (some q0_3)))] ++ (innC q0_3 (clF f).2.1 (clF f).2.2 ns2_9 us2_10 q1_4 q2_5 q3_6 sl2_11 en2_12 cd2_13))) (by rw [o0, o1, o4, o2, o3, o6]; rw [hwi9, hpa9]; rfl) ?_
      exact hret ((qInn f).1, (qInn f).2, (aupq iv (f 1) (some q0_3)), innC q0_3 (clF f).2.1 (clF f).2.2 ns2_9 us2_10 q1_4 q2_5 q3_6 sl2_11 en2_12 cd2_13) _ _ _ _ _ _ (by exact ⟨rfl, Or.inr ⟨by omega, hP, q0_3, ns2_9, us2_10, q1_4, q2_5, q3_6, sl2_11, en2_12, cd2_13, rfl, rfl, hE⟩⟩) (congrArg (fun z => some (ai z)) (by rw [hqi]; show f 1 = f 1 + 1 - 1; omega)) rfl (Nat.le_of_ble_eq_true rfl) (Nat.le_of_ble_eq_true rfl) dX11_inn_99
    · skip
      refine v_callV (pc := 37) [2, 3, 6, 4, 5] [0, 1] [(nw, co 10 [ar pls, ar ins, ar tap, ar e3, ar e4, ar e5, ar e6, ar e7, ar e8, ai (f 0), ai (f 1), ai (f 4), ai (f 2), ai (f 3), ai (f 6), ar bar]), (ins, cq 2 5 iv)] (As := []) (rest := []) (c_X6_read q_2 tap (f 4) q0_3 (tp f) (0, 0, []) 6 1 0 0 q1_4 q2_5 q3_6 (fun _ => 0) (fun _ => 0) (fun _ => 0) (by exact ⟨Int.le_refl _, hg4.1, Or.inl rfl⟩) (by exact hg4) (by intro j j0 j1; rw [htpe j j0 (by omega)]; exact hSt j j0 j1) (by exact ⟨⟨⟨Int.le_refl _, by decide⟩, ⟨Int.le_refl _, by decide⟩⟩, fun _ => ⟨EIn_0, Int.le_refl _⟩⟩) (by rfl) (by rfl)) (c := 6) rfl (Or.inr ⟨2, rfl⟩) wl_X11_60 wi_X6_read wv_X6_X6_read_X6_read wk_X6_read wz_X6 md_X6_read rfl (Nat.le_of_ble_eq_true rfl) ⟨Nat.le_of_ble_eq_true rfl, Nat.le_of_ble_eq_true rfl, Nat.le_of_ble_eq_true rfl, Nat.le_of_ble_eq_true rfl⟩ rfl rfl rfl rfl (by decide) (ro_cons (Or.inl rTp) ro_nil) dX11_inn_37 (fun u hu => ?_)
      obtain ⟨wi2_15, pa2_16, ns2_17, us2_18, sl2_19, en2_20, cd2_21⟩ := u
      have g_22 : (enS (f 4) (clN (tp f) (f 4) 9 (cls (tp f) (f 4) ((0, 0, []), 6, 1))).1).2.1 = 0 → (EIn (clN (tp f) (f 4) 9 (cls (tp f) (f 4) ((0, 0, []), 6, 1))).1.2.2 ns2_17 us2_18 sl2_19 en2_20 cd2_21 ∧ us2_18 ≤ 100 ∧ ns2_17 ≤ 10) ∧ wi2_15 = (clN (tp f) (f 4) 9 (cls (tp f) (f 4) ((0, 0, []), 6, 1))).2.1 ∧ pa2_16 = (clN (tp f) (f 4) 9 (cls (tp f) (f 4) ((0, 0, []), 6, 1))).2.2 := hu
      show V x cX11_inn RX11 3 (rmU 25 552 5 132) [(nw, co 10 [ar pls, ar ins, ar tap, ar e3, ar e4, ar e5, ar e6, ar e7, ar e8, ai (f 0), ai (f 1), ai (f 4), ai (f 2), ai (f 3), ai (f 6), ar bar]), (ins, cq 2 5 iv), (q_2, co 6 (rdL tap (f 4) q0_3 (enS (f 4) (clN (tp f) (f 4) 9 (cls (tp f) (f 4) ((0, 0, []), 6, 1))).1))), (q0_3, co 3 [ai wi2_15, ai pa2_16, ai ns2_17, ai us2_18, ar q1_4, ar q2_5, ar q3_6]), (q3_6, cn 0 100 cd2_21), (q1_4, cn 0 10 sl2_19), (q2_5, cn 0 10 en2_20)] 40 [(1, ar q_2), (0, ar mo)] [aq (if (enS (f 4) (clN (tp f) (f 4) 9 (cls (tp f) (f 4) ((0, 0, []), 6, 1))).1).2.1 = 0 then some q0_3 else none)] 5 132
      have hcf : clN (tp f) (f 4) 9 (cls (tp f) (f 4) ((0, 0, []), 6, 1)) = clF f := rfl
      have hpb := clF_pb (f := f) hg4.1
      have hz0 : ¬ (enS (f 4) (clF f).1).2.1 = 0 := fun z => hP (enS_0.mp z)
      have hft : flt (enS (f 4) (clF f).1) = (clF f).1.1 := enS_f hP
      refine v_eqa (o2 := none) (if_neg hz0) ?_
      refine v_astore_n (pc := 40) (L2 := [(2, an), (1, ar q_2), (0, ar mo)]) rfl (by decide) dX11_inn_40 ?_
      refine v_aload_n (pc := 41) 2 rfl dX11_inn_41 ?_
      refine v_get (pc := 42) (v := ar nw) 0 (Or.inl r0) fl_11_12_11 rfl dX11_inn_42 ?_
      refine v_iconst (pc := 45) dX11_inn_45 ?_
      refine v_put (pc := 46) 11 0 rfl fl_11_45_10 ck_10 ft_10_11 (okV_i _) (Nat.le_of_ble_eq_true rfl) (ws2 := [(nw, co 10 [ar pls, ar ins, ar tap, ar e3, ar e4, ar e5, ar e6, ar e7, ar e8, ai (f 0), ai (f 1), ai 0, ai (f 2), ai (f 3), ai (f 6), ar bar]), (ins, cq 2 5 iv), (q_2, co 6 (rdL tap (f 4) q0_3 (enS (f 4) (clN (tp f) (f 4) 9 (cls (tp f) (f 4) ((0, 0, []), 6, 1))).1))), (q0_3, co 3 [ai wi2_15, ai pa2_16, ai ns2_17, ai us2_18, ar q1_4, ar q2_5, ar q3_6]), (q3_6, cn 0 100 cd2_21), (q1_4, cn 0 10 sl2_19), (q2_5, cn 0 10 en2_20)]) rfl dX11_inn_46 ?_
      refine v_aload_n (pc := 49) 0 rfl dX11_inn_49 ?_
      refine v_ifnonnull_n (pc := 50) dX11_inn_50 ?_
      refine v_bipush (pc := 53) dX11_inn_53 (by decide) ?_
      refine v_aload_n (pc := 55) 1 rfl dX11_inn_55 ?_
      refine v_get (pc := 56) (v := ai (flt (enS (f 4) (clN (tp f) (f 4) 9 (cls (tp f) (f 4) ((0, 0, []), 6, 1))).1))) 4 (Or.inr ⟨2, rfl⟩) fl_11_64_6 rfl dX11_inn_56 ?_
      refine v_eqi (y := (clF f).1.1) hft ?_
      obtain ⟨hpb1, hpb2, hpb3⟩ := id hpb
      refine v_isub (pc := 59) dX11_inn_59 ?_
      have hqi := qInn_m (f := f) (by omega) hP
      have hq2 : (qInn f).2 = innF f := by rw [hqi]
      have o0 : (qInn f).2 0 = f 0 := by rw [hq2]; exact innF_lo hg1.1 (by omega) (by omega)
      have o1 : (qInn f).2 1 = f 1 := by rw [hq2]; exact innF_lo hg1.1 (by omega) (by omega)
      have o2 : (qInn f).2 2 = f 2 := by rw [hq2]; exact innF_lo hg1.1 (by omega) (by omega)
      have o3 : (qInn f).2 3 = f 3 := by rw [hq2]; exact innF_lo hg1.1 (by omega) (by omega)
      have o6 : (qInn f).2 6 = f 6 := by rw [hq2]; exact innF_lo hg1.1 (by omega) (by omega)
      have o4 : (qInn f).2 4 = 0 := by rw [hq2]; exact innF_4 hg1.1
      refine v_wsub (ws2 := [(nw, co 10 [ar pls, ar ins, ar tap, ar e3, ar e4, ar e5, ar e6, ar e7, ar e8, ai (f 0), ai (f 1), ai 0, ai (f 2), ai (f 3), ai (f 6), ar bar]), (ins, cq 2 5 iv)]) [0, 1] rfl rfl ?_
      refine v_ws (ws2 := ([(nw, co 10 [ar pls, ar ins, ar tap, ar e3, ar e4, ar e5, ar e6, ar e7, ar e8, ai ((qInn f).2 0), ai ((qInn f).2 1), ai ((qInn f).2 4), ai ((qInn f).2 2), ai ((qInn f).2 3), ai ((qInn f).2 6), ar bar]), (ins, cq 2 5 iv)] ++ [])) (by rw [o0, o1, o4, o2, o3, o6]; exact (List.append_nil _).symm) ?_
      exact hret ((qInn f).1, (qInn f).2, iv, []) _ _ _ _ _ _ (by exact ⟨rfl, Or.inl ⟨rfl, rfl, fun z => hP z.2⟩⟩) (congrArg (fun z => some (ai z)) (by rw [hqi])) rfl (Nat.le_of_ble_eq_true rfl) (Nat.le_of_ble_eq_true rfl) dX11_inn_60
  · skip
    refine v_bipush (pc := 11) dX11_inn_11 (by decide) ?_
    refine v_ws (ws2 := ([(nw, co 10 [ar pls, ar ins, ar tap, ar e3, ar e4, ar e5, ar e6, ar e7, ar e8, ai (f 0), ai (f 1), ai (f 4), ai (f 2), ai (f 3), ai (f 6), ar bar]), (ins, cq 2 5 iv)] ++ [])) (List.append_nil _).symm ?_
    exact hret ((qInn f).1, f, iv, []) _ _ _ _ _ _ (by exact ⟨Prod.ext rfl (by rw [qInn_0 (show f 1 = 5 by omega)]), Or.inl ⟨rfl, rfl, fun z => z.1 (by omega)⟩⟩) (congrArg (fun z => some (ai z)) (by rw [qInn_0 (show f 1 = 5 by omega)])) rfl (Nat.le_of_ble_eq_true rfl) (Nat.le_of_ble_eq_true rfl) dX11_inn_13
