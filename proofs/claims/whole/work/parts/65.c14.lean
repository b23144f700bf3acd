theorem lrn_lo {G : Int → Int} {n0 : Int} : ∀ m : Nat, (m = 0 ∨ n0 + (m : Int) ≤ 1) → lrn G n0 m = (-1, 0)
  | 0, _ => rfl
  | m + 1, h => by
    rw [lrn_succ, if_neg (by omega)]
    exact lrn_lo m (by omega)
theorem lrn_hi {G : Int → Int} {n0 : Int} {m : Nat} (h : 100 ≤ n0 + (m : Int)) : ∀ k : Nat, lrn G n0 (m + k) = lrn G n0 m
  | 0 => rfl
  | k + 1 => by
    rw [← Nat.add_assoc, lrn_succ, if_neg (by omega)]
    exact lrn_hi h k
/-- the skill behind so many rises -/
def skr (s r : Int) : Int := if s + r < 20 then s + r else 20
/-- the odds that a plan asks for stand in their row -/
def pOK (f : Int → Int) (p T : Int) (po : Int → Int) : Prop := ∀ r k : Int, 0 ≤ r → r < T → 0 ≤ k → k < 12 → po (12 * r + k) = kPB f p (skr (f (19 + p)) r) k
theorem skr_ls {s r sc n : Int} (hs : 0 ≤ s ∧ s ≤ 20) (hr : 0 ≤ r) : lsk sc (skr s r) n = skr s (if -5 ≤ n - sc ∧ n - sc ≤ 5 then r + 1 else r) := by
  unfold lsk skr
  (repeat' split) <;> omega
theorem kAbs_le5 {z : Int} : kAbs z ≤ 5 ↔ (-5 ≤ z ∧ z ≤ 5) := by
  unfold kAbs
  split <;> omega
theorem bst_n0 {F : Int → Int} (hF : ∀ k : Int, 0 ≤ k → k < 12 → 0 ≤ F k) : ∀ m : Nat, m < 12 → 0 ≤ (bst F (m + 1)).1
  | 0, _ => by
    have h := hF 0 (by omega) (by omega)
    rw [bst_succ]
    split
    · exact h
    · rename_i c
      exact absurd (show (bst F 0).1 < F ((0 : Nat) : Int) by show (-1 : Int) < F 0; omega) c
  | m + 1, hm => by
    have h := bst_n0 hF m (by omega)
    rw [bst_succ]
    split
    · exact hF _ (by omega) (by omega)
    · exact h
set_option maxHeartbeats 4000000 in
set_option maxRecDepth 100000 in
theorem c_X11_learns {gS : sG} (mo : Nat) (kw : Nat) (pi : Nat) (ta : Nat) (ms : Nat) (pt : Nat) (po : Nat) (hi : Int) (nw : Nat) (pls : Nat) (ins : Nat) (tap : Nat) (e3 : Nat) (e4 : Nat) (e5 : Nat) (e6 : Nat) (e7 : Nat) (e8 : Nat) (bar : Nat) (fa : Nat) (m : Nat → Int) (fa0 : Int → Int) (iv : Int → Option Nat) (hq : Nat) (ns : Int) (us : Int) (sla : Nat) (ena : Nat) (cda : Nat) (cd : Int → Int) (sl : Int → Int) (en : Int → Int) (pv : Int → Option Nat) (pl : Int → Nat) (tu : Int → Nat) (f : Int → Int) (player : Int) (hS : SOK f) (hI : inC f iv bar hq ns us sl en cd) (hpv : ∀ i : Int, 0 ≤ i → i ≤ f 0 - 1 → pv i = some (pl i)) (hb_player : -2147483648 ≤ player ∧ player < 2147483648) : Ct gS (S := (Nat → Int) × (Int → Int)) yX11_learns cX11_learns 7 (some .int) 5 125 0 0 [ar mo, ai player] [(pi, co 4 (pO fa m)), (fa, cn 0 6 fa0)] (fun q => q ∈ ([(mo, co 11 [ar nw, ar kw, ar pi, ar ta, ar ms, ar pt, ar po, ai hi]), (nw, co 10 [ar pls, ar ins, ar tap, ar e3, ar e4, ar e5, ar e6, ar e7, ar e8, ai (f 0), ai (f 1), ai (f 4), ai (f 2), ai (f 3), ai (f 6), ar bar]), (pls, cq 3 6 pv), (ins, cq 2 5 iv), (hq, co 3 [ai (kWide f), ai (kPay f), ai ns, ai us, ar sla, ar ena, ar cda]), (cda, cn 0 100 cd), (sla, cn 0 10 sl), (ena, cn 0 10 en)] : aW) ++ zpA ta f pl tu) (fun u => True) (fun u => some (ai (qLearns f player))) (fun u => [(pi, co 4 (pO fa u.1)), (fa, cn 0 6 u.2)]) := by
  refine ct_I RX11 [(0, ar mo), (1, ai player)] (by decide) rfl (Nat.le_of_ble_eq_true rfl) rfl (fun x hgS hro hret => ?_)
  subst hgS
  have r0 := hro _ (List.mem_append_left _ (mem_at 0 rfl))
  have r1 := hro _ (List.mem_append_left _ (mem_at 1 rfl))
  have r2 := hro _ (List.mem_append_left _ (mem_at 2 rfl))
  have r3 := hro _ (List.mem_append_left _ (mem_at 3 rfl))
  have r4 := hro _ (List.mem_append_left _ (mem_at 4 rfl))
  have r5 := hro _ (List.mem_append_left _ (mem_at 5 rfl))
  have r6 := hro _ (List.mem_append_left _ (mem_at 6 rfl))
  have r7 := hro _ (List.mem_append_left _ (mem_at 7 rfl))
  have hra : ∀ q, q ∈ zpA ta f pl tu → Ro x q := fun q h => hro _ (List.mem_append_right _ h)
  obtain ⟨⟨hg0, hg1, hg2, hg3, hg4, hg5, hg6, hg7⟩, hSp, hSh, hSs, hSb, hSt, hSw⟩ := id hS
  show V x cX11_learns RX11 7 (rmU 5 125 0 0) [(pi, co 4 (pO fa m)), (fa, cn 0 6 fa0)] 0 [(0, ar mo), (1, ai player)] [] 0 0
  refine v_aload_n (pc := 0) 0 rfl dX11_learns_0 ?_
  refine v_iload_n (pc := 1) 1 rfl dX11_learns_1 ?_
  rcases Classical.em (0 ≤ player ∧ player ≤ f 0 - 1) with hp | hp
  · skip
    have hpl := hpv player hp.1 hp.2
    have rP := hra _ (zpA_p (ta := ta) (pl := pl) (tu := tu) hp)
    have rQ := hra _ (zpA_t (ta := ta) (pl := pl) (tu := tu) hp)
    have hp6 : 0 ≤ player ∧ player < 6 := by omega
    obtain ⟨hpp, hf1, hf2, hf3, hf4, hf5, hf6, hf7, hf8⟩ := hSp player hp6.1 hp6.2
    refine v_callV (pc := 2) [] [0, 1] [(pi, co 4 (pO fa m)), (fa, cn 0 6 fa0)] (As := [ai player]) (rest := []) (c_X11_find_y mo kw pi ta ms pt po hi nw pls ins tap e3 e4 e5 e6 e7 e8 bar pv (pl player) f player (by assumption) (by exact hpl) (by exact hp)) (c := 11) rfl (Or.inl r0) wl_X11_99 wi_X11_find wv_X11_X11_find_X11_find wk_X11_find wz_X11 md_X11_find rfl (Nat.le_of_ble_eq_true rfl) ⟨Nat.le_of_ble_eq_true rfl, Nat.le_of_ble_eq_true rfl, Nat.le_of_ble_eq_true rfl, Nat.le_of_ble_eq_true rfl⟩ rfl rfl rfl rfl (by decide) (ro_cons (Or.inl r0) (ro_cons (Or.inl r1) (ro_cons (Or.inl r2) ro_nil))) dX11_learns_2 (fun u hu => ?_)
    show V x cX11_learns RX11 7 (rmU 5 125 0 0) [(pi, co 4 (pO fa m)), (fa, cn 0 6 fa0)] 5 [(0, ar mo), (1, ai player)] [ar (pl player)] 0 0
    refine v_astore_n (pc := 5) (L2 := [(2, ar (pl player)), (0, ar mo), (1, ai player)]) rfl (by decide) dX11_learns_5 ?_
    refine v_aload_n (pc := 6) 0 rfl dX11_learns_6 ?_
    refine v_ifnonnull_r (pc := 7) 12 dX11_learns_7 (by decide) ?_
    refine v_iconst (pc := 12) dX11_learns_12 ?_
    refine v_istore_n (pc := 13) (L2 := [(3, ai (-1)), (2, ar (pl player)), (0, ar mo), (1, ai player)]) rfl (by decide) dX11_learns_13 ?_
    refine v_iconst (pc := 14) dX11_learns_14 ?_
    refine v_istore (pc := 15) (L2 := [(4, ai (-1)), (3, ai (-1)), (2, ar (pl player)), (0, ar mo), (1, ai player)]) rfl (by decide) dX11_learns_15 ?_
    refine v_iconst (pc := 17) dX11_learns_17 ?_
    refine v_aload_n (pc := 18) 2 rfl dX11_learns_18 ?_
    refine v_get (pc := 19) (v := ai (f (37 + player))) 7 (Or.inl rP) (flP_11_109 (by omega)) rfl dX11_learns_19 ?_
    refine v_iconst (pc := 22) dX11_learns_22 ?_
    refine v_isub (pc := 23) dX11_learns_23 ?_
    refine v_callS (pc := 24) [] [0, 1] [(pi, co 4 (pO fa m)), (fa, cn 0 6 fa0)] (As := [ai 1, ai ((f (37 + player)) - 5)]) (rest := []) (c_J9_max_7cf53 1 ((f (37 + player)) - 5) (by first | omega | assumption) (by first | omega | assumption)) wl_X11_191 ws_J9_max_7cf53 wk_J9_max_7cf53 wz_J9 md_J9_max_7cf53 rfl (Nat.le_of_ble_eq_true rfl) ⟨Nat.le_of_ble_eq_true rfl, Nat.le_of_ble_eq_true rfl, Nat.le_of_ble_eq_true rfl, Nat.le_of_ble_eq_true rfl⟩ rfl rfl rfl rfl (by decide) ro_nil dX11_learns_24 (fun u hu => ?_)
    show V x cX11_learns RX11 7 (rmU 5 125 0 0) [(pi, co 4 (pO fa m)), (fa, cn 0 6 fa0)] 27 [(4, ai (-1)), (3, ai (-1)), (2, ar (pl player)), (0, ar mo), (1, ai player)] [ai (if 1 < ((f (37 + player)) - 5) then ((f (37 + player)) - 5) else 1)] 0 0
    refine v_istore (pc := 27) (L2 := [(5, ai (if 1 < ((f (37 + player)) - 5) then ((f (37 + player)) - 5) else 1)), (4, ai (-1)), (3, ai (-1)), (2, ar (pl player)), (0, ar mo), (1, ai player)]) rfl (by decide) dX11_learns_27 ?_
    have lp29 : ∀ (mm : Nat) (le : Int) (mo2 : Int) (n : Int) (m1 : Nat → Int) (fa1 : Int → Int), (110 - n).toNat = mm → ((1 ≤ n ∧ n ≤ 100) ∧ f (37 + player) - 5 ≤ n ∧ n ≤ f (37 + player) + 6) → (mo2 = (lrn (fBest f player) (f (37 + player) - 5) (n - (f (37 + player) - 5)).toNat).1) → ((1 < n ∧ f (37 + player) - 5 < n) → le = (lrn (fBest f player) (f (37 + player) - 5) (n - (f (37 + player) - 5)).toNat).2) → (-1 ≤ mo2 ∧ mo2 ≤ 10) → V x cX11_learns RX11 7 (rmU 5 125 0 0) [(pi, co 4 (pO fa m1)), (fa, cn 0 6 fa1)] 29 [(0, ar mo), (2, ar (pl player)), (3, ai le), (4, ai mo2), (5, ai n)] [] 0 0 := by
      intro mm
      induction mm using Nat.strongRecOn with
      | _ mm ih =>
        intro le mo2 n m1 fa1 hmm hn hmo hle hmb
        have hls : n ≤ 99 → lrn (fBest f player) (f (37 + player) - 5) (n + 1 - (f (37 + player) - 5)).toNat = if mo2 ≤ fBest f player n then (fBest f player n, n) else (lrn (fBest f player) (f (37 + player) - 5) (n - (f (37 + player) - 5)).toNat) := fun q => by rw [show (n + 1 - (f (37 + player) - 5)).toNat = (n - (f (37 + player) - 5)).toNat + 1 by omega, lrn_succ, show (f (37 + player) - 5) + (((n - (f (37 + player) - 5)).toNat : Nat) : Int) = n by omega, if_pos (by omega), hmo]
        refine v_iload (pc := 29) 4 rfl dX11_learns_29 ?_
        refine v_bipush (pc := 31) dX11_learns_31 (by decide) ?_
        refine v_aload_n (pc := 33) 1 rfl dX11_learns_33 ?_
        refine v_get (pc := 34) (v := ai (f (37 + player))) 7 (Or.inl rP) (flP_11_109 (by omega)) rfl dX11_learns_34 ?_
        refine v_iconst (pc := 37) dX11_learns_37 ?_
        refine v_iadd (pc := 38) dX11_learns_38 ?_
        refine v_callS (pc := 39) [] [0, 1] [(pi, co 4 (pO fa m1)), (fa, cn 0 6 fa1)] (As := [ai 99, ai ((f (37 + player)) + 5)]) (rest := [ai n]) (c_J9_min_7cf53 99 ((f (37 + player)) + 5) (by first | omega | assumption) (by first | omega | assumption)) wl_X11_196 ws_J9_min_7cf53 wk_J9_min_7cf53 wz_J9 md_J9_min_7cf53 rfl (Nat.le_of_ble_eq_true rfl) ⟨Nat.le_of_ble_eq_true rfl, Nat.le_of_ble_eq_true rfl, Nat.le_of_ble_eq_true rfl, Nat.le_of_ble_eq_true rfl⟩ rfl rfl rfl rfl (by decide) ro_nil dX11_learns_39 (fun u hu => ?_)
        show V x cX11_learns RX11 7 (rmU 5 125 0 0) [(pi, co 4 (pO fa m1)), (fa, cn 0 6 fa1)] 42 [(0, ar mo), (2, ar (pl player)), (3, ai le), (4, ai mo2), (5, ai n)] [ai (if ((f (37 + player)) + 5) < 99 then ((f (37 + player)) + 5) else 99), ai n] 0 0
        refine v_icmp_gt (pc := 42) 81 dX11_learns_42 (by decide) (by unfold iB; omega) (by unfold iB; omega) (fun c_1 => ?_) (fun c_1 => ?_)
        · skip
          refine v_iload_n (pc := 81) 2 rfl dX11_learns_81 ?_
          exact hret (m1, fa1) _ _ _ _ _ _ trivial (congrArg (fun z => some (ai z)) (by unfold qLearns; rw [if_neg (by omega), hle (by omega)]; rcases (show n = f (37 + player) + 6 ∨ n = 100 by omega) with q | q; rw [show (n - (f (37 + player) - 5)).toNat = 11 by omega]; rw [show (11 : Nat) = (n - (f (37 + player) - 5)).toNat + (11 - (n - (f (37 + player) - 5)).toNat) by omega, lrn_hi (by omega)])) rfl (Nat.le_of_ble_eq_true rfl) (Nat.le_of_ble_eq_true rfl) dX11_learns_82
        · skip
          refine v_aload_n (pc := 45) 0 rfl dX11_learns_45 ?_
          refine v_aload_n (pc := 46) 1 rfl dX11_learns_46 ?_
          refine v_iload (pc := 47) 4 rfl dX11_learns_47 ?_
          refine v_callV (pc := 49) [0, 1] [] [] (As := [ar (pl player), ai n]) (rest := []) (c_X11_lay mo kw pi ta ms pt po hi nw pls ins tap e3 e4 e5 e6 e7 e8 bar fa m1 fa1 iv hq ns us sla ena cda cd sl en (pl player) (tu player) f player n (by assumption) (by assumption) (by first | omega | assumption) (by first | omega | assumption)) (c := 11) rfl (Or.inl r0) wl_X11_142 wi_X11_lay wv_X11_X11_lay_X11_lay wk_X11_lay wz_X11 md_X11_lay rfl (Nat.le_of_ble_eq_true rfl) ⟨Nat.le_of_ble_eq_true rfl, Nat.le_of_ble_eq_true rfl, Nat.le_of_ble_eq_true rfl, Nat.le_of_ble_eq_true rfl⟩ rfl rfl rfl rfl (by decide) (ro_cons (Or.inl r0) (ro_cons (Or.inl r1) (ro_cons (Or.inl r3) (ro_cons (Or.inl r4) (ro_cons (Or.inl r5) (ro_cons (Or.inl r6) (ro_cons (Or.inl r7) (ro_cons (Or.inl rP) (ro_cons (Or.inl rQ) ro_nil))))))))) dX11_learns_49 (fun u hu => ?_)
          obtain ⟨fa2_2, rfl⟩ : ∃ z, z = u := ⟨_, rfl⟩
          show V x cX11_learns RX11 7 (rmU 5 125 0 0) [(pi, co 4 (pO fa (pMf f player n))), (fa, cn 0 6 fa2_2)] 52 [(0, ar mo), (2, ar (pl player)), (3, ai le), (4, ai mo2), (5, ai n)] [] 0 0
          refine v_aload_n (pc := 52) 0 rfl dX11_learns_52 ?_
          refine v_get (pc := 53) (v := ar pi) 2 (Or.inl r0) fl_11_24_11 rfl dX11_learns_53 ?_
          refine v_callV (pc := 56) [] [0, 1] [(pi, co 4 (pO fa (pMf f player n))), (fa, cn 0 6 fa2_2)] (As := []) (rest := []) (c_F_bestOdds pi fa f player n (by assumption) (by first | omega | assumption) (by first | omega | assumption)) (c := 4) rfl (Or.inr ⟨0, rfl⟩) wl_X11_184 wi_X4_bestOdds wv_X4_X4_bestOdds_X4_bestOdds wk_X4_bestOdds wz_X4 md_X4_bestOdds rfl (Nat.le_of_ble_eq_true rfl) ⟨Nat.le_of_ble_eq_true rfl, Nat.le_of_ble_eq_true rfl, Nat.le_of_ble_eq_true rfl, Nat.le_of_ble_eq_true rfl⟩ rfl rfl rfl rfl (by decide) (ro_cons (Or.inr ⟨0, rfl, by decide⟩) ro_nil) dX11_learns_56 (fun u hu => ?_)
          show V x cX11_learns RX11 7 (rmU 5 125 0 0) [(pi, co 4 (pO fa (pMf f player n))), (fa, cn 0 6 fa2_2)] 59 [(0, ar mo), (2, ar (pl player)), (3, ai le), (4, ai mo2), (5, ai n)] [ai (fBest f player n)] 0 0
          have hbb := fBest_b (f := f) (p := player) (n := n)
          refine v_istore (pc := 59) (L2 := [(6, ai (fBest f player n)), (0, ar mo), (2, ar (pl player)), (3, ai le), (4, ai mo2), (5, ai n)]) rfl (by decide) dX11_learns_59 ?_
          refine v_iload (pc := 61) 0 rfl dX11_learns_61 ?_
          refine v_iload (pc := 63) 4 rfl dX11_learns_63 ?_
          refine v_icmp_lt (pc := 65) 75 dX11_learns_65 (by decide) (by unfold iB; omega) (by unfold iB; omega) (fun c_3 => ?_) (fun c_3 => ?_)
          · skip
            refine v_iinc (pc := 75) 5 (L2 := [(5, ai (n + 1)), (6, ai (fBest f player n)), (0, ar mo), (2, ar (pl player)), (3, ai le), (4, ai mo2)]) rfl rfl (by decide) dX11_learns_75 ?_
            refine v_goto (pc := 78) 29 dX11_learns_78 (by decide) ?_
            refine v_sub (L2 := [(0, ar mo), (2, ar (pl player)), (3, ai le), (4, ai mo2), (5, ai (n + 1))]) [2, 3, 4, 5, 0] rfl ?_
            exact ih _ (by omega) le mo2 (n + 1) (pMf f player n) fa2_2 rfl (by omega) (by rw [hls (by omega)]; first | (rw [if_pos (by omega)]; done) | (rw [if_neg (by omega)]; exact hmo)) (by intro _; rw [hls (by omega)]; first | (rw [if_pos (by omega)]; done) | (rw [if_neg (by omega)]; exact hle (by by_cases q : 1 < n ∧ f (37 + player) - 5 < n; exact q; exfalso; have e := hmo; rw [lrn_lo _ (by omega)] at e; have e2 : mo2 = -1 := e; omega))) (by omega)
          · skip
            refine v_iload (pc := 68) 5 rfl dX11_learns_68 ?_
            refine v_istore_n (pc := 70) (L2 := [(3, ai n), (6, ai (fBest f player n)), (0, ar mo), (2, ar (pl player)), (4, ai mo2), (5, ai n)]) rfl (by decide) dX11_learns_70 ?_
            refine v_iload (pc := 71) 1 rfl dX11_learns_71 ?_
            refine v_istore (pc := 73) (L2 := [(4, ai (fBest f player n)), (3, ai n), (6, ai (fBest f player n)), (0, ar mo), (2, ar (pl player)), (5, ai n)]) rfl (by decide) dX11_learns_73 ?_
            refine v_iinc (pc := 75) 5 (L2 := [(5, ai (n + 1)), (4, ai (fBest f player n)), (3, ai n), (6, ai (fBest f player n)), (0, ar mo), (2, ar (pl player))]) rfl rfl (by decide) dX11_learns_75 ?_
            refine v_goto (pc := 78) 29 dX11_learns_78 (by decide) ?_
            refine v_sub (L2 := [(0, ar mo), (2, ar (pl player)), (3, ai n), (4, ai (fBest f player n)), (5, ai (n + 1))]) [4, 5, 2, 1, 0] rfl ?_
            exact ih _ (by omega) n (fBest f player n) (n + 1) (pMf f player n) fa2_2 rfl (by omega) (by rw [hls (by omega)]; first | (rw [if_pos (by omega)]; done) | (rw [if_neg (by omega)]; exact hmo)) (by intro _; rw [hls (by omega)]; first | (rw [if_pos (by omega)]; done) | (rw [if_neg (by omega)]; exact hle (by by_cases q : 1 < n ∧ f (37 + player) - 5 < n; exact q; exfalso; have e := hmo; rw [lrn_lo _ (by omega)] at e; have e2 : mo2 = -1 := e; omega))) (by omega)
    refine v_sub (L2 := [(0, ar mo), (2, ar (pl player)), (3, ai (-1)), (4, ai (-1)), (5, ai (if 1 < ((f (37 + player)) - 5) then ((f (37 + player)) - 5) else 1))]) [4, 3, 2, 1, 0] rfl ?_
    exact lp29 _ (-1) (-1) (if 1 < ((f (37 + player)) - 5) then ((f (37 + player)) - 5) else 1) m fa0 rfl (by omega) (by rw [lrn_lo _ (by omega)]) (by intro q; exfalso; omega) (by omega)
  · skip
    refine v_callV (pc := 2) [] [0, 1] [(pi, co 4 (pO fa m)), (fa, cn 0 6 fa0)] (As := [ai player]) (rest := []) (c_X11_find_n mo kw pi ta ms pt po hi nw pls ins tap e3 e4 e5 e6 e7 e8 bar pv f player (by assumption) (by exact hp) (by first | omega | assumption)) (c := 11) rfl (Or.inl r0) wl_X11_99 wi_X11_find wv_X11_X11_find_X11_find wk_X11_find wz_X11 md_X11_find rfl (Nat.le_of_ble_eq_true rfl) ⟨Nat.le_of_ble_eq_true rfl, Nat.le_of_ble_eq_true rfl, Nat.le_of_ble_eq_true rfl, Nat.le_of_ble_eq_true rfl⟩ rfl rfl rfl rfl (by decide) (ro_cons (Or.inl r0) (ro_cons (Or.inl r1) (ro_cons (Or.inl r2) ro_nil))) dX11_learns_2 (fun u hu => ?_)
    show V x cX11_learns RX11 7 (rmU 5 125 0 0) [(pi, co 4 (pO fa m)), (fa, cn 0 6 fa0)] 5 [(0, ar mo), (1, ai player)] [an] 0 0
    refine v_astore_n (pc := 5) (L2 := [(2, an), (0, ar mo), (1, ai player)]) rfl (by decide) dX11_learns_5 ?_
    refine v_aload_n (pc := 6) 0 rfl dX11_learns_6 ?_
    refine v_ifnonnull_n (pc := 7) dX11_learns_7 ?_
    refine v_iconst (pc := 10) dX11_learns_10 ?_
    exact hret (m, fa0) _ _ _ _ _ _ trivial (congrArg (fun z => some (ai z)) (by unfold qLearns; (repeat' split) <;> first | rfl | (exfalso; omega) | omega)) rfl (Nat.le_of_ble_eq_true rfl) (Nat.le_of_ble_eq_true rfl) dX11_learns_11
set_option maxHeartbeats 4000000 in
set_option maxRecDepth 100000 in
theorem c_X11_fillPlanOdds {gS : sG} (mo : Nat) (kw : Nat) (pi : Nat) (ta : Nat) (ms : Nat) (pt : Nat) (po : Nat) (hi : Int) (nw : Nat) (pls : Nat) (ins : Nat) (tap : Nat) (e3 : Nat) (e4 : Nat) (e5 : Nat) (e6 : Nat) (e7 : Nat) (e8 : Nat) (bar : Nat) (fa : Nat) (m : Nat → Int) (fa0 : Int → Int) (iv : Int → Option Nat) (hq : Nat) (ns : Int) (us : Int) (sla : Nat) (ena : Nat) (cda : Nat) (cd : Int → Int) (sl : Int → Int) (en : Int → Int) (q1 : Nat) (t1 : Nat) (f : Int → Int) (p : Int) (tr : Int) (po0 : Int → Int) (hS : SOK f) (hI : inC f iv bar hq ns us sl en cd) (hp : 0 ≤ p ∧ p < 6) (htr : 1 ≤ tr ∧ tr ≤ 3) : Ct gS (S := (Int → Int) × (Nat → Int) × (Int → Int)) yX11_fillPlanOdds cX11_fillPlanOdds 6 none 4 103 0 0 [ar mo, ar q1, ai tr] [(pi, co 4 (pO fa m)), (fa, cn 0 6 fa0), (po, cn 0 36 po0)] (fun q => q ∈ ([(mo, co 11 [ar nw, ar kw, ar pi, ar ta, ar ms, ar pt, ar po, ai hi]), (nw, co 10 [ar pls, ar ins, ar tap, ar e3, ar e4, ar e5, ar e6, ar e7, ar e8, ai (f 0), ai (f 1), ai (f 4), ai (f 2), ai (f 3), ai (f 6), ar bar]), (ins, cq 2 5 iv), (hq, co 3 [ai (kWide f), ai (kPay f), ai ns, ai us, ar sla, ar ena, ar cda]), (cda, cn 0 100 cd), (sla, cn 0 10 sl), (ena, cn 0 10 en), (q1, zpO ta f p t1), tqC ta f p q1 t1] : aW)) (fun u => pOK f p tr u.1) (fun u => none) (fun u => [(po, cn 0 36 u.1), (pi, co 4 (pO fa u.2.1)), (fa, cn 0 6 u.2.2)]) := by
  refine ct_V RX11 [(0, ar mo), (1, ar q1), (2, ai tr)] (by decide) rfl (Nat.le_of_ble_eq_true rfl) rfl (fun x hgS hnm hro hret => ?_)
  subst hgS
  have r0 := hro _ (mem_at 0 rfl)
  have r1 := hro _ (mem_at 1 rfl)
  have r2 := hro _ (mem_at 2 rfl)
  have r3 := hro _ (mem_at 3 rfl)
  have r4 := hro _ (mem_at 4 rfl)
  have r5 := hro _ (mem_at 5 rfl)
  have r6 := hro _ (mem_at 6 rfl)
  have r7 := hro _ (mem_at 7 rfl)
  have r8 := hro _ (mem_at 8 rfl)
  obtain ⟨⟨hg0, hg1, hg2, hg3, hg4, hg5, hg6, hg7⟩, hSp, hSh, hSs, hSb, hSt, hSw⟩ := id hS
  obtain ⟨hpp, hf1, hf2, hf3, hf4, hf5, hf6, hf7, hf8⟩ := hSp p hp.1 hp.2
  show V x cX11_fillPlanOdds RX11 6 (rmU 4 103 0 0) [(pi, co 4 (pO fa m)), (fa, cn 0 6 fa0), (po, cn 0 36 po0)] 0 [(0, ar mo), (1, ar q1), (2, ai tr)] [] 0 0
  refine v_iconst (pc := 0) dX11_fillPlanOdds_0 ?_
  refine v_istore_n (pc := 1) (L2 := [(3, ai 0), (0, ar mo), (1, ar q1), (2, ai tr)]) rfl (by decide) dX11_fillPlanOdds_1 ?_
  have lp2 : ∀ (mm : Nat) (r : Int) (po1 : Int → Int) (m1 : Nat → Int) (fa1 : Int → Int), (tr - r).toNat = mm → (0 ≤ r ∧ r ≤ tr) → (pOK f p r po1) → V x cX11_fillPlanOdds RX11 6 (rmU 4 103 0 0) [(po, cn 0 36 po1), (pi, co 4 (pO fa m1)), (fa, cn 0 6 fa1)] 2 [(0, ar mo), (1, ar q1), (2, ai tr), (3, ai r)] [] 0 0 := by
    intro mm
    induction mm using Nat.strongRecOn with
    | _ mm ih =>
      intro r po1 m1 fa1 hmm hr hpo
      refine v_iload_n (pc := 2) 3 rfl dX11_fillPlanOdds_2 ?_
      refine v_iload_n (pc := 3) 2 rfl dX11_fillPlanOdds_3 ?_
      refine v_iconst (pc := 4) dX11_fillPlanOdds_4 ?_
      refine v_callS (pc := 5) [] [0, 1, 2] [(po, cn 0 36 po1), (pi, co 4 (pO fa m1)), (fa, cn 0 6 fa1)] (As := [ai tr, ai 3]) (rest := [ai r]) (c_J9_min_7cf53 tr 3 (by first | omega | assumption) (by first | omega | assumption)) wl_X11_196 ws_J9_min_7cf53 wk_J9_min_7cf53 wz_J9 md_J9_min_7cf53 rfl (Nat.le_of_ble_eq_true rfl) ⟨Nat.le_of_ble_eq_true rfl, Nat.le_of_ble_eq_true rfl, Nat.le_of_ble_eq_true rfl, Nat.le_of_ble_eq_true rfl⟩ rfl rfl rfl rfl (by decide) ro_nil dX11_fillPlanOdds_5 (fun u hu => ?_)
      show V x cX11_fillPlanOdds RX11 6 (rmU 4 103 0 0) [(po, cn 0 36 po1), (pi, co 4 (pO fa m1)), (fa, cn 0 6 fa1)] 8 [(0, ar mo), (1, ar q1), (2, ai tr), (3, ai r)] [ai (if 3 < tr then 3 else tr), ai r] 0 0
      refine v_icmp_ge (pc := 8) 88 dX11_fillPlanOdds_8 (by decide) (by unfold iB; omega) (by unfold iB; omega) (fun c_1 => ?_) (fun c_1 => ?_)
      · skip
        exact hret (po1, m1, fa1) _ _ _ _ _ (by rw [show tr = r by omega]; exact hpo) rfl rfl (Nat.le_of_ble_eq_true rfl) (Nat.le_of_ble_eq_true rfl) dX11_fillPlanOdds_88
      · skip
        refine v_bipush (pc := 11) dX11_fillPlanOdds_11 (by decide) ?_
        refine v_aload_n (pc := 13) 1 rfl dX11_fillPlanOdds_13 ?_
        refine v_get (pc := 14) (v := ai (f (19 + p))) 4 (Or.inl r7) (flP_11_86 (by omega)) rfl dX11_fillPlanOdds_14 ?_
        refine v_iload_n (pc := 17) 3 rfl dX11_fillPlanOdds_17 ?_
        refine v_iadd (pc := 18) dX11_fillPlanOdds_18 ?_
        refine v_callS (pc := 19) [] [0, 1, 2] [(po, cn 0 36 po1), (pi, co 4 (pO fa m1)), (fa, cn 0 6 fa1)] (As := [ai 20, ai ((f (19 + p)) + r)]) (rest := []) (c_J9_min_7cf53 20 ((f (19 + p)) + r) (by first | omega | assumption) (by first | omega | assumption)) wl_X11_196 ws_J9_min_7cf53 wk_J9_min_7cf53 wz_J9 md_J9_min_7cf53 rfl (Nat.le_of_ble_eq_true rfl) ⟨Nat.le_of_ble_eq_true rfl, Nat.le_of_ble_eq_true rfl, Nat.le_of_ble_eq_true rfl, Nat.le_of_ble_eq_true rfl⟩ rfl rfl rfl rfl (by decide) ro_nil dX11_fillPlanOdds_19 (fun u hu => ?_)
        show V x cX11_fillPlanOdds RX11 6 (rmU 4 103 0 0) [(po, cn 0 36 po1), (pi, co 4 (pO fa m1)), (fa, cn 0 6 fa1)] 22 [(0, ar mo), (1, ar q1), (2, ai tr), (3, ai r)] [ai (if ((f (19 + p)) + r) < 20 then ((f (19 + p)) + r) else 20)] 0 0
        refine v_istore (pc := 22) (L2 := [(4, ai (if ((f (19 + p)) + r) < 20 then ((f (19 + p)) + r) else 20)), (0, ar mo), (1, ar q1), (2, ai tr), (3, ai r)]) rfl (by decide) dX11_fillPlanOdds_22 ?_
        refine v_iconst (pc := 24) dX11_fillPlanOdds_24 ?_
        refine v_istore (pc := 25) (L2 := [(5, ai 0), (4, ai (if ((f (19 + p)) + r) < 20 then ((f (19 + p)) + r) else 20)), (0, ar mo), (1, ar q1), (2, ai tr), (3, ai r)]) rfl (by decide) dX11_fillPlanOdds_25 ?_
        have lp27 : ∀ (mm : Nat) (k : Int) (po3 : Int → Int) (m3 : Nat → Int) (fa3 : Int → Int), (12 - k).toNat = mm → (0 ≤ k ∧ k ≤ 12) → (pOK f p r po3) → (∀ k2 : Int, 0 ≤ k2 → k2 < k → po3 (12 * r + k2) = kPB f p (skr (f (19 + p)) r) k2) → V x cX11_fillPlanOdds RX11 6 (rmU 4 103 0 0) [(po, cn 0 36 po3), (pi, co 4 (pO fa m3)), (fa, cn 0 6 fa3)] 27 [(0, ar mo), (1, ar q1), (2, ai tr), (3, ai r), (4, ai (if f (19 + p) + r < 20 then f (19 + p) + r else 20)), (5, ai k)] [] 0 0 := by
          intro mm
          induction mm using Nat.strongRecOn with
          | _ mm ih27 =>
            intro k po3 m3 fa3 hmm hk hpr hpk
            refine v_iload (pc := 27) 5 rfl dX11_fillPlanOdds_27 ?_
            refine v_bipush (pc := 29) dX11_fillPlanOdds_29 (by decide) ?_
            refine v_icmp_ge (pc := 31) 82 dX11_fillPlanOdds_31 (by decide) (by unfold iB; omega) (by unfold iB; omega) (fun c_2 => ?_) (fun c_2 => ?_)
            · skip
              refine v_iinc (pc := 82) 3 (L2 := [(3, ai (r + 1)), (0, ar mo), (1, ar q1), (2, ai tr), (4, ai (if f (19 + p) + r < 20 then f (19 + p) + r else 20)), (5, ai k)]) rfl rfl (by decide) dX11_fillPlanOdds_82 ?_
              refine v_goto (pc := 85) 2 dX11_fillPlanOdds_85 (by decide) ?_
              refine v_sub (L2 := [(0, ar mo), (1, ar q1), (2, ai tr), (3, ai (r + 1))]) [1, 2, 3, 0] rfl ?_
              exact ih _ (by omega) (r + 1) po3 m3 fa3 rfl (by omega) (by intro r2 k2 a b c d; by_cases q : r2 = r; subst q; exact hpk k2 c (by omega); exact hpr r2 k2 a (by omega) c d)
            · skip
              refine v_aload_n (pc := 34) 0 rfl dX11_fillPlanOdds_34 ?_
              refine v_get (pc := 35) (v := ar pi) 2 (Or.inl r0) fl_11_24_11 rfl dX11_fillPlanOdds_35 ?_
              refine v_aload_n (pc := 38) 0 rfl dX11_fillPlanOdds_38 ?_
              refine v_get (pc := 39) (v := ar nw) 0 (Or.inl r0) fl_11_12_11 rfl dX11_fillPlanOdds_39 ?_
              refine v_aload_n (pc := 42) 1 rfl dX11_fillPlanOdds_42 ?_
              refine v_iload (pc := 43) 5 rfl dX11_fillPlanOdds_43 ?_
              refine v_callS (pc := 45) [] [0, 1, 2] [(po, cn 0 36 po3), (pi, co 4 (pO fa m3)), (fa, cn 0 6 fa3)] (As := [ai k]) (rest := [ar q1, ar nw, ar pi]) (c_X11_matsOf k ) wl_X11_216 ws_X11_matsOf wk_X11_matsOf wz_X11 md_X11_matsOf rfl (Nat.le_of_ble_eq_true rfl) ⟨Nat.le_of_ble_eq_true rfl, Nat.le_of_ble_eq_true rfl, Nat.le_of_ble_eq_true rfl, Nat.le_of_ble_eq_true rfl⟩ rfl rfl rfl rfl (by decide) ro_nil dX11_fillPlanOdds_45 (fun u hu => ?_)
              show V x cX11_fillPlanOdds RX11 6 (rmU 4 103 0 0) [(po, cn 0 36 po3), (pi, co 4 (pO fa m3)), (fa, cn 0 6 fa3)] 48 [(0, ar mo), (1, ar q1), (2, ai tr), (3, ai r), (4, ai (if f (19 + p) + r < 20 then f (19 + p) + r else 20)), (5, ai k)] [ai (5 * (k + 1)), ar q1, ar nw, ar pi] 0 0
              refine v_iload (pc := 48) 4 rfl dX11_fillPlanOdds_48 ?_
              refine v_aload_n (pc := 50) 1 rfl dX11_fillPlanOdds_50 ?_
              refine v_get (pc := 51) (v := ai (f (31 + p))) 6 (Or.inl r7) (flP_11_106 (by omega)) rfl dX11_fillPlanOdds_51 ?_
              have hS2 := SOK_S (s := (if f (19 + p) + r < 20 then f (19 + p) + r else 20)) (g := f (31 + p)) hS hp (by omega) (by omega)
              refine v_callV (pc := 54) [1, 2] [0] [(po, cn 0 36 po3)] (As := [ar nw, ar q1, ai (5 * (k + 1)), ai (if f (19 + p) + r < 20 then f (19 + p) + r else 20), ai (f (31 + p))]) (rest := []) (c_X4_layF pi fa m3 fa3 nw pls ins tap e3 e4 e5 e6 e7 e8 bar iv hq ns us sla ena cda cd sl en ta q1 t1 f p (5 * (k + 1)) (if f (19 + p) + r < 20 then f (19 + p) + r else 20) (f (31 + p)) (by assumption) (by assumption) (by first | omega | assumption) (by first | omega | assumption) (by first | omega | assumption) (by first | omega | assumption)) (c := 4) rfl (Or.inr ⟨1, rfl⟩) wl_X11_290 wi_X4_layFor wv_X4_X4_layFor_X4_layFor wk_X4_layFor wz_X4 md_X4_layFor rfl (Nat.le_of_ble_eq_true rfl) ⟨Nat.le_of_ble_eq_true rfl, Nat.le_of_ble_eq_true rfl, Nat.le_of_ble_eq_true rfl, Nat.le_of_ble_eq_true rfl⟩ rfl rfl rfl rfl (by decide) (ro_cons (Or.inl r1) (ro_cons (Or.inl r2) (ro_cons (Or.inl r3) (ro_cons (Or.inl r4) (ro_cons (Or.inl r5) (ro_cons (Or.inl r6) (ro_cons (Or.inl r7) (ro_cons (Or.inl r8) ro_nil)))))))) dX11_fillPlanOdds_54 (fun u hu => ?_)
              obtain ⟨fa2_3, rfl⟩ : ∃ z, z = u := ⟨_, rfl⟩
              show V x cX11_fillPlanOdds RX11 6 (rmU 4 103 0 0) [(po, cn 0 36 po3), (pi, co 4 (pO fa (pMf (fS f p (if f (19 + p) + r < 20 then f (19 + p) + r else 20) (f (31 + p))) p (5 * (k + 1))))), (fa, cn 0 6 fa2_3)] 57 [(0, ar mo), (1, ar q1), (2, ai tr), (3, ai r), (4, ai (if f (19 + p) + r < 20 then f (19 + p) + r else 20)), (5, ai k)] [] 0 0
              refine v_aload_n (pc := 57) 0 rfl dX11_fillPlanOdds_57 ?_
              refine v_get (pc := 58) (v := ar po) 6 (Or.inl r0) fl_11_38_11 rfl dX11_fillPlanOdds_58 ?_
              refine v_iload_n (pc := 61) 3 rfl dX11_fillPlanOdds_61 ?_
              refine v_bipush (pc := 62) dX11_fillPlanOdds_62 (by decide) ?_
              refine v_imul (pc := 64) dX11_fillPlanOdds_64 ?_
              refine v_iload (pc := 65) 5 rfl dX11_fillPlanOdds_65 ?_
              refine v_iadd (pc := 67) dX11_fillPlanOdds_67 ?_
              refine v_aload_n (pc := 68) 0 rfl dX11_fillPlanOdds_68 ?_
              refine v_get (pc := 69) (v := ar pi) 2 (Or.inl r0) fl_11_24_11 rfl dX11_fillPlanOdds_69 ?_
              refine v_callV (pc := 72) [] [0, 1, 2] [(po, cn 0 36 po3), (pi, co 4 (pO fa (pMf (fS f p (if f (19 + p) + r < 20 then f (19 + p) + r else 20) (f (31 + p))) p (5 * (k + 1))))), (fa, cn 0 6 fa2_3)] (As := []) (rest := [ai ((r * 12) + k), ar po]) (c_F_bestOdds pi fa (fS f p (if f (19 + p) + r < 20 then f (19 + p) + r else 20) (f (31 + p))) p (5 * (k + 1)) (by exact hS2) (by first | omega | assumption) (by first | omega | assumption)) (c := 4) rfl (Or.inr ⟨1, rfl⟩) wl_X11_184 wi_X4_bestOdds wv_X4_X4_bestOdds_X4_bestOdds wk_X4_bestOdds wz_X4 md_X4_bestOdds rfl (Nat.le_of_ble_eq_true rfl) ⟨Nat.le_of_ble_eq_true rfl, Nat.le_of_ble_eq_true rfl, Nat.le_of_ble_eq_true rfl, Nat.le_of_ble_eq_true rfl⟩ rfl rfl rfl rfl (by decide) (ro_cons (Or.inr ⟨1, rfl, by decide⟩) ro_nil) dX11_fillPlanOdds_72 (fun u hu => ?_)
              show V x cX11_fillPlanOdds RX11 6 (rmU 4 103 0 0) [(po, cn 0 36 po3), (pi, co 4 (pO fa (pMf (fS f p (if f (19 + p) + r < 20 then f (19 + p) + r else 20) (f (31 + p))) p (5 * (k + 1))))), (fa, cn 0 6 fa2_3)] 75 [(0, ar mo), (1, ar q1), (2, ai tr), (3, ai r), (4, ai (if f (19 + p) + r < 20 then f (19 + p) + r else 20)), (5, ai k)] [ai (fBest (fS f p (if f (19 + p) + r < 20 then f (19 + p) + r else 20) (f (31 + p))) p (5 * (k + 1))), ai ((r * 12) + k), ar po] 0 0
              have hbb := fBest_b (f := fS f p (if f (19 + p) + r < 20 then f (19 + p) + r else 20) (f (31 + p))) (p := p) (n := 5 * (k + 1))
              refine v_iast (pc := 75) 0 rfl (by omega) (by omega) (by decide) (ws2 := [(po, cn 0 36 (aup po3 ((r * 12) + k) (fBest (fS f p (if f (19 + p) + r < 20 then f (19 + p) + r else 20) (f (31 + p))) p (5 * (k + 1))))), (pi, co 4 (pO fa (pMf (fS f p (if f (19 + p) + r < 20 then f (19 + p) + r else 20) (f (31 + p))) p (5 * (k + 1))))), (fa, cn 0 6 fa2_3)]) rfl dX11_fillPlanOdds_75 ?_
              refine v_iinc (pc := 76) 5 (L2 := [(5, ai (k + 1)), (0, ar mo), (1, ar q1), (2, ai tr), (3, ai r), (4, ai (if f (19 + p) + r < 20 then f (19 + p) + r else 20))]) rfl rfl (by decide) dX11_fillPlanOdds_76 ?_
              refine v_goto (pc := 79) 27 dX11_fillPlanOdds_79 (by decide) ?_
              refine v_sub (L2 := [(0, ar mo), (1, ar q1), (2, ai tr), (3, ai r), (4, ai (if f (19 + p) + r < 20 then f (19 + p) + r else 20)), (5, ai (k + 1))]) [1, 2, 3, 4, 5, 0] rfl ?_
              exact ih27 _ (by omega) (k + 1) (aup po3 ((r * 12) + k) (fBest (fS f p (if f (19 + p) + r < 20 then f (19 + p) + r else 20) (f (31 + p))) p (5 * (k + 1)))) (pMf (fS f p (if f (19 + p) + r < 20 then f (19 + p) + r else 20) (f (31 + p))) p (5 * (k + 1))) fa2_3 rfl (by omega) (by intro r2 k2 a b c d; rw [aup_n _ _ (by omega)]; exact hpr r2 k2 a b c d) (by intro k2 a b; by_cases q : k2 = k; subst q; rw [show 12 * r + k2 = r * 12 + k2 by omega, aup_s, fS_s1, show 5 * (k2 + 1) = 5 * k2 + 5 by omega]; rfl; rw [aup_n _ _ (by omega)]; exact hpk k2 a (by omega))
        refine v_sub (L2 := [(0, ar mo), (1, ar q1), (2, ai tr), (3, ai r), (4, ai (if f (19 + p) + r < 20 then f (19 + p) + r else 20)), (5, ai 0)]) [2, 3, 4, 5, 1, 0] rfl ?_
        exact lp27 _ 0 po1 m1 fa1 rfl (by omega) (by exact hpo) (by intro k2 a b; exfalso; omega)
  refine v_wsub (ws2 := [(po, cn 0 36 po0), (pi, co 4 (pO fa m)), (fa, cn 0 6 fa0)]) [2, 0, 1] rfl rfl ?_
  refine v_sub (L2 := [(0, ar mo), (1, ar q1), (2, ai tr), (3, ai 0)]) [1, 2, 3, 0] rfl ?_
  exact lp2 _ 0 po0 m fa0 rfl (by omega) (by intro r2 k2 a b; exfalso; omega)
set_option maxHeartbeats 4000000 in
set_option maxRecDepth 100000 in
theorem c_X11_planned_d0 {gS : sG} (mo : Nat) (kw : Nat) (pi : Nat) (ta : Nat) (ms : Nat) (pt : Nat) (po : Nat) (hi : Int) (nw : Nat) (f : Int → Int) (p : Int) (T : Int) (po0 : Int → Int) (sc : Int) (r : Int) (hS : SOK f) (hp : 0 ≤ p ∧ p < 6) (hsc : 0 ≤ sc ∧ sc ≤ 99) : Ct gS (S := Unit) yX11_planned cX11_planned 9 (some .long) 0 0 0 0 [ar mo, ai sc, ai r, ai 0] [] (fun q => q ∈ ([(mo, co 11 [ar nw, ar kw, ar pi, ar ta, ar ms, ar pt, ar po, ai hi]), (po, cn 0 36 po0)] : aW)) (fun _ => True) (fun _ => some (al (plN (kPB f p) 0 sc (skr (f (19 + p)) r)))) (fun _ => []) := by
  refine ct_L RX11 [(0, ar mo), (1, ai sc), (2, ai r), (3, ai 0)] (by decide) rfl (Nat.le_of_ble_eq_true rfl) rfl (fun x hgS hro hret => ?_)
  subst hgS
  have r0 := hro _ (mem_at 0 rfl)
  have r1 := hro _ (mem_at 1 rfl)
  show V x cX11_planned RX11 9 (rmU 0 0 0 0) [] 0 [(0, ar mo), (1, ai sc), (2, ai r), (3, ai 0)] [] 0 0
  refine v_iload_n (pc := 0) 3 rfl dX11_planned_0 ?_
  refine v_if_gt (pc := 1) 7 dX11_planned_1 (by decide) (by unfold iB; omega) (fun c_1 => by exfalso; omega) (fun c_1 => ?_)
  refine v_iload_n (pc := 4) 1 rfl dX11_planned_4 ?_
  refine v_i2l (pc := 5) (by unfold iB; omega) dX11_planned_5 ?_
  exact hret () _ _ _ _ _ _ trivial (congrArg (fun z => some (al z)) (by rfl)) rfl (Nat.le_of_ble_eq_true rfl) (Nat.le_of_ble_eq_true rfl) dX11_planned_6
set_option maxHeartbeats 4000000 in
set_option maxRecDepth 100000 in
theorem c_X11_plannedBy_d1 {gS : sG} (mo : Nat) (kw : Nat) (pi : Nat) (ta : Nat) (ms : Nat) (pt : Nat) (po : Nat) (hi : Int) (nw : Nat) (f : Int → Int) (p : Int) (T : Int) (po0 : Int → Int) (k : Int) (sc : Int) (r : Int) (mi : Int) (hS : SOK f) (hp : 0 ≤ p ∧ p < 6) (hsc : 0 ≤ sc ∧ sc ≤ 99) (hpo : pOK f p T po0) (hT : T ≤ 3) (hr : 0 ≤ r ∧ r + 1 ≤ T) (hk : 0 ≤ k ∧ k < 12) (hmi : mi = (plN (kPB f p) 0 sc (skr (f (19 + p)) r))) : Ct gS (S := Unit) yX11_plannedBy cX11_plannedBy 13 (some .long) 1 60 0 0 [ar mo, ai k, ai sc, ai r, ai 1, al mi] [] (fun q => q ∈ ([(mo, co 11 [ar nw, ar kw, ar pi, ar ta, ar ms, ar pt, ar po, ai hi]), (po, cn 0 36 po0)] : aW)) (fun _ => True) (fun _ => some (al (plV (kPB f p) (plN (kPB f p) 0) sc (skr (f (19 + p)) r) k))) (fun _ => []) := by
  refine ct_L RX11 [(0, ar mo), (1, ai k), (2, ai sc), (3, ai r), (4, ai 1), (5, al mi)] (by decide) rfl (Nat.le_of_ble_eq_true rfl) rfl (fun x hgS hro hret => ?_)
  subst hgS
  have r0 := hro _ (mem_at 0 rfl)
  have r1 := hro _ (mem_at 1 rfl)
  obtain ⟨⟨hg0, hg1, hg2, hg3, hg4, hg5, hg6, hg7⟩, hSp, hSh, hSs, hSb, hSt, hSw⟩ := id hS
  obtain ⟨hpp, hf1, hf2, hf3, hf4, hf5, hf6, hf7, hf8⟩ := hSp p hp.1 hp.2
  have hok := hpo r k hr.1 (by omega) hk.1 hk.2
  have hbb := kPB_b (f := f) (p := p) (s := skr (f (19 + p)) r) (k := k)
  have hab := kAbs_le5 (z := 5 * (k + 1) - sc)
  have hab2 : 0 ≤ kAbs (5 * (k + 1) - sc) ∧ kAbs (5 * (k + 1) - sc) ≤ 200 := by unfold kAbs; split <;> omega
  have hmb := plN_b (B := (kPB f p)) (fun _ _ => kPB_b) 0 sc (skr (f (19 + p)) r) hsc.1 hsc.2
  show V x cX11_plannedBy RX11 13 (rmU 1 60 0 0) [] 0 [(0, ar mo), (1, ai k), (2, ai sc), (3, ai r), (4, ai 1), (5, al mi)] [] 0 0
  refine v_iload_n (pc := 0) 3 rfl dX11_plannedBy_0 ?_
  refine v_bipush (pc := 1) dX11_plannedBy_1 (by decide) ?_
  refine v_imul (pc := 3) dX11_plannedBy_3 ?_
  refine v_iload_n (pc := 4) 1 rfl dX11_plannedBy_4 ?_
  refine v_iadd (pc := 5) dX11_plannedBy_5 ?_
  refine v_istore (pc := 6) (L2 := [(7, ai ((r * 12) + k)), (0, ar mo), (1, ai k), (2, ai sc), (3, ai r), (4, ai 1), (5, al mi)]) rfl (by decide) dX11_plannedBy_6 ?_
  refine v_iload (pc := 8) 5 rfl dX11_plannedBy_8 ?_
  refine v_if_le (pc := 10) 29 dX11_plannedBy_10 (by decide) (by unfold iB; omega) (fun c_1 => by exfalso; omega) (fun c_1 => ?_)
  refine v_iload (pc := 13) 0 rfl dX11_plannedBy_13 ?_
  refine v_iconst (pc := 15) dX11_plannedBy_15 ?_
  refine v_aload_n (pc := 16) 1 rfl dX11_plannedBy_16 ?_
  refine v_get (pc := 17) (v := ar po) 6 (Or.inl r0) fl_11_38_11 rfl dX11_plannedBy_17 ?_
  refine v_alen (pc := 20) (by decide) (Or.inl r1) dX11_plannedBy_20 ?_
  refine v_iconst (pc := 21) dX11_plannedBy_21 ?_
  refine v_isub (pc := 22) dX11_plannedBy_22 ?_
  refine v_callS (pc := 23) [] [] [] (As := [ai ((r * 12) + k), ai 0, ai (36 - 1)]) (rest := []) (c_X11_isOut ((r * 12) + k) 0 (36 - 1) (by first | omega | assumption) (by first | omega | assumption) (by first | omega | assumption)) wl_X11_41 ws_X11_isOut wk_X11_isOut wz_X11 md_X11_isOut rfl (Nat.le_of_ble_eq_true rfl) ⟨Nat.le_of_ble_eq_true rfl, Nat.le_of_ble_eq_true rfl, Nat.le_of_ble_eq_true rfl, Nat.le_of_ble_eq_true rfl⟩ rfl rfl rfl rfl (by decide) ro_nil dX11_plannedBy_23 (fun u hu => ?_)
  show V x cX11_plannedBy RX11 13 (rmU 1 60 0 0) [] 26 [(7, ai ((r * 12) + k)), (0, ar mo), (1, ai k), (2, ai sc), (3, ai r), (4, ai 1), (5, al mi)] [ai (if ((r * 12) + k) < 0 ∨ (36 - 1) < ((r * 12) + k) then 1 else 0)] 0 0
  refine v_ifb_eq (pc := 26) 31 dX11_plannedBy_26 (by decide) (fun c_2 => ?_) (fun c_2 => ?_)
  · skip
    refine v_iload_n (pc := 31) 2 rfl dX11_plannedBy_31 ?_
    refine v_callS (pc := 32) [] [] [] (As := [ai k]) (rest := []) (c_X11_matsOf k ) wl_X11_216 ws_X11_matsOf wk_X11_matsOf wz_X11 md_X11_matsOf rfl (Nat.le_of_ble_eq_true rfl) ⟨Nat.le_of_ble_eq_true rfl, Nat.le_of_ble_eq_true rfl, Nat.le_of_ble_eq_true rfl, Nat.le_of_ble_eq_true rfl⟩ rfl rfl rfl rfl (by decide) ro_nil dX11_plannedBy_32 (fun u hu => ?_)
    show V x cX11_plannedBy RX11 13 (rmU 1 60 0 0) [] 35 [(7, ai ((r * 12) + k)), (0, ar mo), (1, ai k), (2, ai sc), (3, ai r), (4, ai 1), (5, al mi)] [ai (5 * (k + 1))] 0 0
    refine v_istore (pc := 35) (L2 := [(8, ai (5 * (k + 1))), (7, ai ((r * 12) + k)), (0, ar mo), (1, ai k), (2, ai sc), (3, ai r), (4, ai 1), (5, al mi)]) rfl (by decide) dX11_plannedBy_35 ?_
    refine v_aload_n (pc := 37) 2 rfl dX11_plannedBy_37 ?_
    refine v_get (pc := 38) (v := ar po) 6 (Or.inl r0) fl_11_38_11 rfl dX11_plannedBy_38 ?_
    refine v_iload (pc := 41) 1 rfl dX11_plannedBy_41 ?_
    refine v_iald (pc := 43) (Or.inl r1) (by omega) (by omega) (by decide) dX11_plannedBy_43 ?_
    obtain ⟨o, ho⟩ : ∃ o, o = kPB f p (skr (f (19 + p)) r) k := ⟨_, rfl⟩
    refine v_eqi (y := o) (by rw [ho, ← hok, show r * 12 + k = 12 * r + k by omega]) ?_
    rw [← ho] at hbb
    refine v_istore (pc := 44) (L2 := [(9, ai o), (8, ai (5 * (k + 1))), (7, ai ((r * 12) + k)), (0, ar mo), (1, ai k), (2, ai sc), (3, ai r), (4, ai 1), (5, al mi)]) rfl (by decide) dX11_plannedBy_44 ?_
    refine v_iload (pc := 46) 1 rfl dX11_plannedBy_46 ?_
    refine v_iload_n (pc := 48) 5 rfl dX11_plannedBy_48 ?_
    refine v_isub (pc := 49) dX11_plannedBy_49 ?_
    refine v_callS (pc := 50) [] [] [] (As := [ai ((5 * (k + 1)) - sc)]) (rest := []) (c_J9_abs_0f7a4 ((5 * (k + 1)) - sc) (by first | omega | assumption)) wl_X11_297 ws_J9_abs_0f7a4 wk_J9_abs_0f7a4 wz_J9 md_J9_abs_0f7a4 rfl (Nat.le_of_ble_eq_true rfl) ⟨Nat.le_of_ble_eq_true rfl, Nat.le_of_ble_eq_true rfl, Nat.le_of_ble_eq_true rfl, Nat.le_of_ble_eq_true rfl⟩ rfl rfl rfl rfl (by decide) ro_nil dX11_plannedBy_50 (fun u hu => ?_)
    show V x cX11_plannedBy RX11 13 (rmU 1 60 0 0) [] 53 [(9, ai o), (8, ai (5 * (k + 1))), (7, ai ((r * 12) + k)), (0, ar mo), (1, ai k), (2, ai sc), (3, ai r), (4, ai 1), (5, al mi)] [ai (kAbs ((5 * (k + 1)) - sc))] 0 0
    refine v_iconst (pc := 53) dX11_plannedBy_53 ?_
    refine v_icmp_gt (pc := 54) 63 dX11_plannedBy_54 (by decide) (by unfold iB; omega) (by unfold iB; omega) (fun c_3 => ?_) (fun c_3 => ?_)
    · skip
      refine v_iload_n (pc := 63) 6 rfl dX11_plannedBy_63 ?_
      refine v_istore (pc := 64) (L2 := [(10, ai r), (9, ai o), (8, ai (5 * (k + 1))), (7, ai ((r * 12) + k)), (0, ar mo), (1, ai k), (2, ai sc), (3, ai r), (4, ai 1), (5, al mi)]) rfl (by decide) dX11_plannedBy_64 ?_
      refine v_iload (pc := 66) 1 rfl dX11_plannedBy_66 ?_
      refine v_if_ne (pc := 68) 75 dX11_plannedBy_68 (by decide) (by unfold iB; omega) (fun c_4 => ?_) (fun c_4 => ?_)
      · skip
        refine v_aload_n (pc := 75) 4 rfl dX11_plannedBy_75 ?_
        refine v_iload_n (pc := 76) 6 rfl dX11_plannedBy_76 ?_
        refine v_iload (pc := 77) 2 rfl dX11_plannedBy_77 ?_
        refine v_callS (pc := 79) [] [] [] (As := [ai sc, ai (5 * (k + 1))]) (rest := [ar mo]) (c_J9_max_7cf53 sc (5 * (k + 1)) (by first | omega | assumption) (by first | omega | assumption)) wl_X11_191 ws_J9_max_7cf53 wk_J9_max_7cf53 wz_J9 md_J9_max_7cf53 rfl (Nat.le_of_ble_eq_true rfl) ⟨Nat.le_of_ble_eq_true rfl, Nat.le_of_ble_eq_true rfl, Nat.le_of_ble_eq_true rfl, Nat.le_of_ble_eq_true rfl⟩ rfl rfl rfl rfl (by decide) ro_nil dX11_plannedBy_79 (fun u hu => ?_)
        show V x cX11_plannedBy RX11 13 (rmU 1 60 0 0) [] 82 [(10, ai r), (9, ai o), (8, ai (5 * (k + 1))), (7, ai ((r * 12) + k)), (0, ar mo), (1, ai k), (2, ai sc), (3, ai r), (4, ai 1), (5, al mi)] [ai (if sc < (5 * (k + 1)) then (5 * (k + 1)) else sc), ar mo] 0 0
        refine v_iload (pc := 82) 0 rfl dX11_plannedBy_82 ?_
        refine v_iload (pc := 84) 8 rfl dX11_plannedBy_84 ?_
        refine v_iconst (pc := 86) dX11_plannedBy_86 ?_
        refine v_isub (pc := 87) dX11_plannedBy_87 ?_
        refine v_callV (pc := 88) [] [] [] (As := [ai (if sc < (5 * (k + 1)) then (5 * (k + 1)) else sc), ai r, ai 0]) (rest := []) (c_X11_planned_d0 mo kw pi ta ms pt po hi nw f p T po0 (if sc < (5 * (k + 1)) then (5 * (k + 1)) else sc) r (by assumption) (by first | omega | assumption) (by omega)) (c := 11) rfl (Or.inl r0) wl_X11_202 wi_X11_planned wv_X11_X11_planned_X11_planned wk_X11_planned wz_X11 md_X11_planned rfl (Nat.le_of_ble_eq_true rfl) ⟨Nat.le_of_ble_eq_true rfl, Nat.le_of_ble_eq_true rfl, Nat.le_of_ble_eq_true rfl, Nat.le_of_ble_eq_true rfl⟩ rfl rfl rfl rfl (by decide) (ro_cons (Or.inl r0) (ro_cons (Or.inl r1) ro_nil)) dX11_plannedBy_88 (fun u hu => ?_)
        show V x cX11_plannedBy RX11 13 (rmU 1 60 0 0) [] 91 [(10, ai r), (9, ai o), (8, ai (5 * (k + 1))), (7, ai ((r * 12) + k)), (0, ar mo), (1, ai k), (2, ai sc), (3, ai r), (4, ai 1), (5, al mi)] [al (plN (kPB f p) 0 (if sc < (5 * (k + 1)) then (5 * (k + 1)) else sc) (skr (f (19 + p)) r))] 0 0
        refine v_lstore (pc := 91) (L2 := [(11, al (plN (kPB f p) 0 (if sc < (5 * (k + 1)) then (5 * (k + 1)) else sc) (skr (f (19 + p)) r))), (10, ai r), (9, ai o), (8, ai (5 * (k + 1))), (7, ai ((r * 12) + k)), (0, ar mo), (1, ai k), (2, ai sc), (3, ai r), (4, ai 1), (5, al mi)]) rfl (by decide) dX11_plannedBy_91 ?_
        refine v_iload (pc := 93) 2 rfl dX11_plannedBy_93 ?_
        refine v_i2l (pc := 95) (by unfold iB; omega) dX11_plannedBy_95 ?_
        refine v_lload (pc := 96) 0 rfl dX11_plannedBy_96 ?_
        refine v_lmul (pc := 98) dX11_plannedBy_98 ?_
        refine v_bipush (pc := 99) dX11_plannedBy_99 (by decide) ?_
        refine v_iload (pc := 101) 2 rfl dX11_plannedBy_101 ?_
        refine v_isub (pc := 103) dX11_plannedBy_103 ?_
        refine v_i2l (pc := 104) (by unfold iB; omega) dX11_plannedBy_104 ?_
        refine v_lload (pc := 105) 10 rfl dX11_plannedBy_105 ?_
        refine v_lmul (pc := 107) dX11_plannedBy_107 ?_
        refine v_ladd (pc := 108) dX11_plannedBy_108 ?_
        exact hret () _ _ _ _ _ _ trivial (congrArg (fun z => some (al z)) (by rw [hmi]; unfold plV; rw [← ho, show (if sc < 5 * k + 5 then 5 * k + 5 else sc) = (if sc < 5 * (k + 1) then 5 * (k + 1) else sc) by (split <;> split <;> omega), skr_ls hf3 hr.1, show 5 * k + 5 = 5 * (k + 1) by omega]; first | (rw [if_pos (show -5 ≤ 5 * (k + 1) - sc ∧ 5 * (k + 1) - sc ≤ 5 by omega)]; done) | (rw [if_neg (show ¬ (-5 ≤ 5 * (k + 1) - sc ∧ 5 * (k + 1) - sc ≤ 5) by omega)]; done) | (rw [show o = 0 by omega, Int.zero_mul, Int.zero_mul]))) rfl (Nat.le_of_ble_eq_true rfl) (Nat.le_of_ble_eq_true rfl) dX11_plannedBy_109
      · skip
        refine v_lconst0 (pc := 71) dX11_plannedBy_71 ?_
        refine v_goto (pc := 72) 91 dX11_plannedBy_72 (by decide) ?_
        refine v_lstore (pc := 91) (L2 := [(11, al 0), (10, ai r), (9, ai o), (8, ai (5 * (k + 1))), (7, ai ((r * 12) + k)), (0, ar mo), (1, ai k), (2, ai sc), (3, ai r), (4, ai 1), (5, al mi)]) rfl (by decide) dX11_plannedBy_91 ?_
        refine v_iload (pc := 93) 2 rfl dX11_plannedBy_93 ?_
        refine v_i2l (pc := 95) (by unfold iB; omega) dX11_plannedBy_95 ?_
        refine v_lload (pc := 96) 0 rfl dX11_plannedBy_96 ?_
        refine v_lmul (pc := 98) dX11_plannedBy_98 ?_
        refine v_bipush (pc := 99) dX11_plannedBy_99 (by decide) ?_
        refine v_iload (pc := 101) 2 rfl dX11_plannedBy_101 ?_
        refine v_isub (pc := 103) dX11_plannedBy_103 ?_
        refine v_i2l (pc := 104) (by unfold iB; omega) dX11_plannedBy_104 ?_
        refine v_lload (pc := 105) 10 rfl dX11_plannedBy_105 ?_
        refine v_lmul (pc := 107) dX11_plannedBy_107 ?_
        refine v_ladd (pc := 108) dX11_plannedBy_108 ?_
        exact hret () _ _ _ _ _ _ trivial (congrArg (fun z => some (al z)) (by rw [hmi]; unfold plV; rw [← ho, show (if sc < 5 * k + 5 then 5 * k + 5 else sc) = (if sc < 5 * (k + 1) then 5 * (k + 1) else sc) by (split <;> split <;> omega), skr_ls hf3 hr.1, show 5 * k + 5 = 5 * (k + 1) by omega]; first | (rw [if_pos (show -5 ≤ 5 * (k + 1) - sc ∧ 5 * (k + 1) - sc ≤ 5 by omega)]; done) | (rw [if_neg (show ¬ (-5 ≤ 5 * (k + 1) - sc ∧ 5 * (k + 1) - sc ≤ 5) by omega)]; done) | (rw [show o = 0 by omega, Int.zero_mul, Int.zero_mul]))) rfl (Nat.le_of_ble_eq_true rfl) (Nat.le_of_ble_eq_true rfl) dX11_plannedBy_109
    · skip
      refine v_iload_n (pc := 57) 6 rfl dX11_plannedBy_57 ?_
      refine v_iconst (pc := 58) dX11_plannedBy_58 ?_
      refine v_iadd (pc := 59) dX11_plannedBy_59 ?_
      refine v_goto (pc := 60) 64 dX11_plannedBy_60 (by decide) ?_
      refine v_istore (pc := 64) (L2 := [(10, ai (r + 1)), (9, ai o), (8, ai (5 * (k + 1))), (7, ai ((r * 12) + k)), (0, ar mo), (1, ai k), (2, ai sc), (3, ai r), (4, ai 1), (5, al mi)]) rfl (by decide) dX11_plannedBy_64 ?_
      refine v_iload (pc := 66) 1 rfl dX11_plannedBy_66 ?_
      refine v_if_ne (pc := 68) 75 dX11_plannedBy_68 (by decide) (by unfold iB; omega) (fun c_5 => ?_) (fun c_5 => ?_)
      · skip
        refine v_aload_n (pc := 75) 4 rfl dX11_plannedBy_75 ?_
        refine v_iload_n (pc := 76) 6 rfl dX11_plannedBy_76 ?_
        refine v_iload (pc := 77) 2 rfl dX11_plannedBy_77 ?_
        refine v_callS (pc := 79) [] [] [] (As := [ai sc, ai (5 * (k + 1))]) (rest := [ar mo]) (c_J9_max_7cf53 sc (5 * (k + 1)) (by first | omega | assumption) (by first | omega | assumption)) wl_X11_191 ws_J9_max_7cf53 wk_J9_max_7cf53 wz_J9 md_J9_max_7cf53 rfl (Nat.le_of_ble_eq_true rfl) ⟨Nat.le_of_ble_eq_true rfl, Nat.le_of_ble_eq_true rfl, Nat.le_of_ble_eq_true rfl, Nat.le_of_ble_eq_true rfl⟩ rfl rfl rfl rfl (by decide) ro_nil dX11_plannedBy_79 (fun u hu => ?_)
        show V x cX11_plannedBy RX11 13 (rmU 1 60 0 0) [] 82 [(10, ai (r + 1)), (9, ai o), (8, ai (5 * (k + 1))), (7, ai ((r * 12) + k)), (0, ar mo), (1, ai k), (2, ai sc), (3, ai r), (4, ai 1), (5, al mi)] [ai (if sc < (5 * (k + 1)) then (5 * (k + 1)) else sc), ar mo] 0 0
        refine v_iload (pc := 82) 0 rfl dX11_plannedBy_82 ?_
        refine v_iload (pc := 84) 8 rfl dX11_plannedBy_84 ?_
        refine v_iconst (pc := 86) dX11_plannedBy_86 ?_
        refine v_isub (pc := 87) dX11_plannedBy_87 ?_
        refine v_callV (pc := 88) [] [] [] (As := [ai (if sc < (5 * (k + 1)) then (5 * (k + 1)) else sc), ai (r + 1), ai 0]) (rest := []) (c_X11_planned_d0 mo kw pi ta ms pt po hi nw f p T po0 (if sc < (5 * (k + 1)) then (5 * (k + 1)) else sc) (r + 1) (by assumption) (by first | omega | assumption) (by omega)) (c := 11) rfl (Or.inl r0) wl_X11_202 wi_X11_planned wv_X11_X11_planned_X11_planned wk_X11_planned wz_X11 md_X11_planned rfl (Nat.le_of_ble_eq_true rfl) ⟨Nat.le_of_ble_eq_true rfl, Nat.le_of_ble_eq_true rfl, Nat.le_of_ble_eq_true rfl, Nat.le_of_ble_eq_true rfl⟩ rfl rfl rfl rfl (by decide) (ro_cons (Or.inl r0) (ro_cons (Or.inl r1) ro_nil)) dX11_plannedBy_88 (fun u hu => ?_)
        show V x cX11_plannedBy RX11 13 (rmU 1 60 0 0) [] 91 [(10, ai (r + 1)), (9, ai o), (8, ai (5 * (k + 1))), (7, ai ((r * 12) + k)), (0, ar mo), (1, ai k), (2, ai sc), (3, ai r), (4, ai 1), (5, al mi)] [al (plN (kPB f p) 0 (if sc < (5 * (k + 1)) then (5 * (k + 1)) else sc) (skr (f (19 + p)) (r + 1)))] 0 0
        refine v_lstore (pc := 91) (L2 := [(11, al (plN (kPB f p) 0 (if sc < (5 * (k + 1)) then (5 * (k + 1)) else sc) (skr (f (19 + p)) (r + 1)))), (10, ai (r + 1)), (9, ai o), (8, ai (5 * (k + 1))), (7, ai ((r * 12) + k)), (0, ar mo), (1, ai k), (2, ai sc), (3, ai r), (4, ai 1), (5, al mi)]) rfl (by decide) dX11_plannedBy_91 ?_
        refine v_iload (pc := 93) 2 rfl dX11_plannedBy_93 ?_
        refine v_i2l (pc := 95) (by unfold iB; omega) dX11_plannedBy_95 ?_
        refine v_lload (pc := 96) 0 rfl dX11_plannedBy_96 ?_
        refine v_lmul (pc := 98) dX11_plannedBy_98 ?_
        refine v_bipush (pc := 99) dX11_plannedBy_99 (by decide) ?_
        refine v_iload (pc := 101) 2 rfl dX11_plannedBy_101 ?_
        refine v_isub (pc := 103) dX11_plannedBy_103 ?_
        refine v_i2l (pc := 104) (by unfold iB; omega) dX11_plannedBy_104 ?_
        refine v_lload (pc := 105) 10 rfl dX11_plannedBy_105 ?_
        refine v_lmul (pc := 107) dX11_plannedBy_107 ?_
        refine v_ladd (pc := 108) dX11_plannedBy_108 ?_
        exact hret () _ _ _ _ _ _ trivial (congrArg (fun z => some (al z)) (by rw [hmi]; unfold plV; rw [← ho, show (if sc < 5 * k + 5 then 5 * k + 5 else sc) = (if sc < 5 * (k + 1) then 5 * (k + 1) else sc) by (split <;> split <;> omega), skr_ls hf3 hr.1, show 5 * k + 5 = 5 * (k + 1) by omega]; first | (rw [if_pos (show -5 ≤ 5 * (k + 1) - sc ∧ 5 * (k + 1) - sc ≤ 5 by omega)]; done) | (rw [if_neg (show ¬ (-5 ≤ 5 * (k + 1) - sc ∧ 5 * (k + 1) - sc ≤ 5) by omega)]; done) | (rw [show o = 0 by omega, Int.zero_mul, Int.zero_mul]))) rfl (Nat.le_of_ble_eq_true rfl) (Nat.le_of_ble_eq_true rfl) dX11_plannedBy_109
      · skip
        refine v_lconst0 (pc := 71) dX11_plannedBy_71 ?_
        refine v_goto (pc := 72) 91 dX11_plannedBy_72 (by decide) ?_
        refine v_lstore (pc := 91) (L2 := [(11, al 0), (10, ai (r + 1)), (9, ai o), (8, ai (5 * (k + 1))), (7, ai ((r * 12) + k)), (0, ar mo), (1, ai k), (2, ai sc), (3, ai r), (4, ai 1), (5, al mi)]) rfl (by decide) dX11_plannedBy_91 ?_
        refine v_iload (pc := 93) 2 rfl dX11_plannedBy_93 ?_
        refine v_i2l (pc := 95) (by unfold iB; omega) dX11_plannedBy_95 ?_
        refine v_lload (pc := 96) 0 rfl dX11_plannedBy_96 ?_
        refine v_lmul (pc := 98) dX11_plannedBy_98 ?_
        refine v_bipush (pc := 99) dX11_plannedBy_99 (by decide) ?_
        refine v_iload (pc := 101) 2 rfl dX11_plannedBy_101 ?_
        refine v_isub (pc := 103) dX11_plannedBy_103 ?_
        refine v_i2l (pc := 104) (by unfold iB; omega) dX11_plannedBy_104 ?_
        refine v_lload (pc := 105) 10 rfl dX11_plannedBy_105 ?_
        refine v_lmul (pc := 107) dX11_plannedBy_107 ?_
        refine v_ladd (pc := 108) dX11_plannedBy_108 ?_
        exact hret () _ _ _ _ _ _ trivial (congrArg (fun z => some (al z)) (by rw [hmi]; unfold plV; rw [← ho, show (if sc < 5 * k + 5 then 5 * k + 5 else sc) = (if sc < 5 * (k + 1) then 5 * (k + 1) else sc) by (split <;> split <;> omega), skr_ls hf3 hr.1, show 5 * k + 5 = 5 * (k + 1) by omega]; first | (rw [if_pos (show -5 ≤ 5 * (k + 1) - sc ∧ 5 * (k + 1) - sc ≤ 5 by omega)]; done) | (rw [if_neg (show ¬ (-5 ≤ 5 * (k + 1) - sc ∧ 5 * (k + 1) - sc ≤ 5) by omega)]; done) | (rw [show o = 0 by omega, Int.zero_mul, Int.zero_mul]))) rfl (Nat.le_of_ble_eq_true rfl) (Nat.le_of_ble_eq_true rfl) dX11_plannedBy_109
  · skip
    exfalso; omega
set_option maxHeartbeats 4000000 in
set_option maxRecDepth 100000 in
theorem c_X11_planned_d1 {gS : sG} (mo : Nat) (kw : Nat) (pi : Nat) (ta : Nat) (ms : Nat) (pt : Nat) (po : Nat) (hi : Int) (nw : Nat) (f : Int → Int) (p : Int) (T : Int) (po0 : Int → Int) (sc : Int) (r : Int) (hS : SOK f) (hp : 0 ≤ p ∧ p < 6) (hsc : 0 ≤ sc ∧ sc ≤ 99) (hpo : pOK f p T po0) (hT : T ≤ 3) (hr : 0 ≤ r ∧ r + 1 ≤ T) : Ct gS (S := Unit) yX11_planned cX11_planned 9 (some .long) 2 92 0 0 [ar mo, ai sc, ai r, ai 1] [] (fun q => q ∈ ([(mo, co 11 [ar nw, ar kw, ar pi, ar ta, ar ms, ar pt, ar po, ai hi]), (po, cn 0 36 po0)] : aW)) (fun _ => True) (fun _ => some (al (plN (kPB f p) 1 sc (skr (f (19 + p)) r)))) (fun _ => []) := by
  refine ct_L RX11 [(0, ar mo), (1, ai sc), (2, ai r), (3, ai 1)] (by decide) rfl (Nat.le_of_ble_eq_true rfl) rfl (fun x hgS hro hret => ?_)
  subst hgS
  have r0 := hro _ (mem_at 0 rfl)
  have r1 := hro _ (mem_at 1 rfl)
  obtain ⟨⟨hg0, hg1, hg2, hg3, hg4, hg5, hg6, hg7⟩, hSp, hSh, hSs, hSb, hSt, hSw⟩ := id hS
  obtain ⟨hpp, hf1, hf2, hf3, hf4, hf5, hf6, hf7, hf8⟩ := hSp p hp.1 hp.2
  have hvb : ∀ k : Int, 0 ≤ k → k < ((12 : Nat) : Int) → 0 ≤ (plV (kPB f p) (plN (kPB f p) 0) sc (skr (f (19 + p)) r)) k ∧ (plV (kPB f p) (plN (kPB f p) 0) sc (skr (f (19 + p)) r)) k ≤ 10 * (99 * 10 ^ 0) := fun k k0 k1 => plV_b (fun _ _ => kPB_b) (fun a b c d => plN_b (fun _ _ => kPB_b) 0 a b c d) hsc ⟨k0, k1⟩
  have hbd := bst_bd 12 (by decide) hvb
  show V x cX11_planned RX11 9 (rmU 2 92 0 0) [] 0 [(0, ar mo), (1, ai sc), (2, ai r), (3, ai 1)] [] 0 0
  refine v_iload_n (pc := 0) 3 rfl dX11_planned_0 ?_
  refine v_if_gt (pc := 1) 7 dX11_planned_1 (by decide) (by unfold iB; omega) (fun c_1 => ?_) (fun c_1 => by exfalso; omega)
  refine v_aload_n (pc := 7) 0 rfl dX11_planned_7 ?_
  refine v_iload_n (pc := 8) 1 rfl dX11_planned_8 ?_
  refine v_iload_n (pc := 9) 2 rfl dX11_planned_9 ?_
  refine v_iload_n (pc := 10) 3 rfl dX11_planned_10 ?_
  refine v_iconst (pc := 11) dX11_planned_11 ?_
  refine v_isub (pc := 12) dX11_planned_12 ?_
  refine v_callV (pc := 13) [] [] [] (As := [ai sc, ai r, ai 0]) (rest := []) (c_X11_planned_d0 mo kw pi ta ms pt po hi nw f p T po0 sc r (by assumption) (by first | omega | assumption) (by first | omega | assumption)) (c := 11) rfl (Or.inl r0) wl_X11_202 wi_X11_planned wv_X11_X11_planned_X11_planned wk_X11_planned wz_X11 md_X11_planned rfl (Nat.le_of_ble_eq_true rfl) ⟨Nat.le_of_ble_eq_true rfl, Nat.le_of_ble_eq_true rfl, Nat.le_of_ble_eq_true rfl, Nat.le_of_ble_eq_true rfl⟩ rfl rfl rfl rfl (by decide) (ro_cons (Or.inl r0) (ro_cons (Or.inl r1) ro_nil)) dX11_planned_13 (fun u hu => ?_)
  show V x cX11_planned RX11 9 (rmU 2 92 0 0) [] 16 [(0, ar mo), (1, ai sc), (2, ai r), (3, ai 1)] [al (plN (kPB f p) 0 sc (skr (f (19 + p)) r))] 0 0
  refine v_lstore (pc := 16) (L2 := [(4, al (plN (kPB f p) 0 sc (skr (f (19 + p)) r))), (0, ar mo), (1, ai sc), (2, ai r), (3, ai 1)]) rfl (by decide) dX11_planned_16 ?_
  refine v_lconst0 (pc := 18) dX11_planned_18 ?_
  refine v_lstore (pc := 19) (L2 := [(6, al 0), (4, al (plN (kPB f p) 0 sc (skr (f (19 + p)) r))), (0, ar mo), (1, ai sc), (2, ai r), (3, ai 1)]) rfl (by decide) dX11_planned_19 ?_
  refine v_iconst (pc := 21) dX11_planned_21 ?_
  refine v_istore (pc := 22) (L2 := [(8, ai 0), (6, al 0), (4, al (plN (kPB f p) 0 sc (skr (f (19 + p)) r))), (0, ar mo), (1, ai sc), (2, ai r), (3, ai 1)]) rfl (by decide) dX11_planned_22 ?_
  have lp24 : ∀ (mm : Nat) (k : Int) (mx : Int), (12 - k).toNat = mm → (0 ≤ k ∧ k ≤ 12) → (mx = (if k = 0 then 0 else (bst (plV (kPB f p) (plN (kPB f p) 0) sc (skr (f (19 + p)) r)) k.toNat).1)) → V x cX11_planned RX11 9 (rmU 2 92 0 0) [] 24 [(0, ar mo), (1, ai sc), (2, ai r), (3, ai 1), (4, al (plN (kPB f p) 0 sc (skr (f (19 + p)) r))), (6, al mx), (8, ai k)] [] 0 0 := by
    intro mm
    induction mm using Nat.strongRecOn with
    | _ mm ih =>
      intro k mx hmm hk hmx
      have hmb2 : 0 ≤ mx ∧ mx ≤ 10 * (99 * 10 ^ 0) := by rw [hmx]; split; exact ⟨by decide, by decide⟩; have q := hbd k.toNat (by omega); exact ⟨(q.2.2 (by omega)).1, q.2.1⟩
      have hk0 : k = 0 → (bst (plV (kPB f p) (plN (kPB f p) 0) sc (skr (f (19 + p)) r)) k.toNat).1 = -1 := fun q => by subst q; rfl
      refine v_iload (pc := 24) 6 rfl dX11_planned_24 ?_
      refine v_bipush (pc := 26) dX11_planned_26 (by decide) ?_
      refine v_icmp_ge (pc := 28) 55 dX11_planned_28 (by decide) (by unfold iB; omega) (by unfold iB; omega) (fun c_2 => ?_) (fun c_2 => ?_)
      · skip
        refine v_lload (pc := 55) 5 rfl dX11_planned_55 ?_
        exact hret () _ _ _ _ _ _ trivial (congrArg (fun z => some (al z)) (by rw [hmx, if_neg (by omega), show k.toNat = 12 by omega]; rfl)) rfl (Nat.le_of_ble_eq_true rfl) (Nat.le_of_ble_eq_true rfl) dX11_planned_57
      · skip
        refine v_lload (pc := 31) 5 rfl dX11_planned_31 ?_
        refine v_aload_n (pc := 33) 0 rfl dX11_planned_33 ?_
        refine v_iload (pc := 34) 6 rfl dX11_planned_34 ?_
        refine v_iload_n (pc := 36) 1 rfl dX11_planned_36 ?_
        refine v_iload_n (pc := 37) 2 rfl dX11_planned_37 ?_
        refine v_iload_n (pc := 38) 3 rfl dX11_planned_38 ?_
        refine v_lload (pc := 39) 4 rfl dX11_planned_39 ?_
        refine v_callV (pc := 41) [] [] [] (As := [ai k, ai sc, ai r, ai 1, al (plN (kPB f p) 0 sc (skr (f (19 + p)) r))]) (rest := [al mx]) (c_X11_plannedBy_d1 mo kw pi ta ms pt po hi nw f p T po0 k sc r (plN (kPB f p) 0 sc (skr (f (19 + p)) r)) (by assumption) (by first | omega | assumption) (by first | omega | assumption) (by assumption) (by first | omega | assumption) (by first | omega | assumption) (by first | omega | assumption) (by first | omega | assumption)) (c := 11) rfl (Or.inl r0) wl_X11_212 wi_X11_plannedBy wv_X11_X11_plannedBy_X11_plannedBy wk_X11_plannedBy wz_X11 md_X11_plannedBy rfl (Nat.le_of_ble_eq_true rfl) ⟨Nat.le_of_ble_eq_true rfl, Nat.le_of_ble_eq_true rfl, Nat.le_of_ble_eq_true rfl, Nat.le_of_ble_eq_true rfl⟩ rfl rfl rfl rfl (by decide) (ro_cons (Or.inl r0) (ro_cons (Or.inl r1) ro_nil)) dX11_planned_41 (fun u hu => ?_)
        show V x cX11_planned RX11 9 (rmU 2 92 0 0) [] 44 [(0, ar mo), (1, ai sc), (2, ai r), (3, ai 1), (4, al (plN (kPB f p) 0 sc (skr (f (19 + p)) r))), (6, al mx), (8, ai k)] [al (plV (kPB f p) (plN (kPB f p) 0) sc (skr (f (19 + p)) r) k), al mx] 0 0
        have hvk := hvb k hk.1 (by omega)
        have hbs := bst_succ (plV (kPB f p) (plN (kPB f p) 0) sc (skr (f (19 + p)) r)) k.toNat
        rw [show ((k.toNat : Nat) : Int) = k by omega, show k.toNat + 1 = (k + 1).toNat by omega] at hbs
        have hbk := hbd k.toNat (by omega)
        refine v_callS (pc := 44) [] [] [] (As := [al mx, al (plV (kPB f p) (plN (kPB f p) 0) sc (skr (f (19 + p)) r) k)]) (rest := []) (c_J9_max_f86c9 mx (plV (kPB f p) (plN (kPB f p) 0) sc (skr (f (19 + p)) r) k) (by first | omega | assumption) (by first | omega | assumption)) wl_X11_294 ws_J9_max_f86c9 wk_J9_max_f86c9 wz_J9 md_J9_max_f86c9 rfl (Nat.le_of_ble_eq_true rfl) ⟨Nat.le_of_ble_eq_true rfl, Nat.le_of_ble_eq_true rfl, Nat.le_of_ble_eq_true rfl, Nat.le_of_ble_eq_true rfl⟩ rfl rfl rfl rfl (by decide) ro_nil dX11_planned_44 (fun u hu => ?_)
        show V x cX11_planned RX11 9 (rmU 2 92 0 0) [] 47 [(0, ar mo), (1, ai sc), (2, ai r), (3, ai 1), (4, al (plN (kPB f p) 0 sc (skr (f (19 + p)) r))), (6, al mx), (8, ai k)] [al (if mx < (plV (kPB f p) (plN (kPB f p) 0) sc (skr (f (19 + p)) r) k) then (plV (kPB f p) (plN (kPB f p) 0) sc (skr (f (19 + p)) r) k) else mx)] 0 0
        refine v_lstore (pc := 47) (L2 := [(6, al (if mx < (plV (kPB f p) (plN (kPB f p) 0) sc (skr (f (19 + p)) r) k) then (plV (kPB f p) (plN (kPB f p) 0) sc (skr (f (19 + p)) r) k) else mx)), (0, ar mo), (1, ai sc), (2, ai r), (3, ai 1), (4, al (plN (kPB f p) 0 sc (skr (f (19 + p)) r))), (8, ai k)]) rfl (by decide) dX11_planned_47 ?_
        refine v_iinc (pc := 49) 6 (L2 := [(8, ai (k + 1)), (6, al (if mx < (plV (kPB f p) (plN (kPB f p) 0) sc (skr (f (19 + p)) r) k) then (plV (kPB f p) (plN (kPB f p) 0) sc (skr (f (19 + p)) r) k) else mx)), (0, ar mo), (1, ai sc), (2, ai r), (3, ai 1), (4, al (plN (kPB f p) 0 sc (skr (f (19 + p)) r)))]) rfl rfl (by decide) dX11_planned_49 ?_
        refine v_goto (pc := 52) 24 dX11_planned_52 (by decide) ?_
        refine v_sub (L2 := [(0, ar mo), (1, ai sc), (2, ai r), (3, ai 1), (4, al (plN (kPB f p) 0 sc (skr (f (19 + p)) r))), (6, al (if mx < (plV (kPB f p) (plN (kPB f p) 0) sc (skr (f (19 + p)) r) k) then (plV (kPB f p) (plN (kPB f p) 0) sc (skr (f (19 + p)) r) k) else mx)), (8, ai (k + 1))]) [2, 3, 4, 5, 6, 1, 0] rfl ?_
        exact ih _ (by omega) (k + 1) (if mx < (plV (kPB f p) (plN (kPB f p) 0) sc (skr (f (19 + p)) r) k) then (plV (kPB f p) (plN (kPB f p) 0) sc (skr (f (19 + p)) r) k) else mx) rfl (by omega) (by rw [if_neg (show ¬ k + 1 = 0 by omega), hbs]; rcases Classical.em (k = 0) with q | q; (rw [if_pos (show (bst (plV (kPB f p) (plN (kPB f p) 0) sc (skr (f (19 + p)) r)) k.toNat).1 < (plV (kPB f p) (plN (kPB f p) 0) sc (skr (f (19 + p)) r)) k by have := hk0 q; omega), show mx = 0 by rw [hmx, if_pos q]]; show (if 0 < (plV (kPB f p) (plN (kPB f p) 0) sc (skr (f (19 + p)) r)) k then (plV (kPB f p) (plN (kPB f p) 0) sc (skr (f (19 + p)) r)) k else 0) = (plV (kPB f p) (plN (kPB f p) 0) sc (skr (f (19 + p)) r)) k; split <;> omega); (rw [hmx, if_neg q]; split <;> rfl))
  refine v_sub (L2 := [(0, ar mo), (1, ai sc), (2, ai r), (3, ai 1), (4, al (plN (kPB f p) 0 sc (skr (f (19 + p)) r))), (6, al 0), (8, ai 0)]) [3, 4, 5, 6, 2, 1, 0] rfl ?_
  exact lp24 _ 0 0 rfl (by omega) (by rfl)
set_option maxHeartbeats 4000000 in
set_option maxRecDepth 100000 in
theorem c_X11_plannedBy_d2 {gS : sG} (mo : Nat) (kw : Nat) (pi : Nat) (ta : Nat) (ms : Nat) (pt : Nat) (po : Nat) (hi : Int) (nw : Nat) (f : Int → Int) (p : Int) (T : Int) (po0 : Int → Int) (k : Int) (sc : Int) (r : Int) (mi : Int) (hS : SOK f) (hp : 0 ≤ p ∧ p < 6) (hsc : 0 ≤ sc ∧ sc ≤ 99) (hpo : pOK f p T po0) (hT : T ≤ 3) (hr : 0 ≤ r ∧ r + 2 ≤ T) (hk : 0 ≤ k ∧ k < 12) (hmi : mi = (plN (kPB f p) 1 sc (skr (f (19 + p)) r))) : Ct gS (S := Unit) yX11_plannedBy cX11_plannedBy 13 (some .long) 3 120 0 0 [ar mo, ai k, ai sc, ai r, ai 2, al mi] [] (fun q => q ∈ ([(mo, co 11 [ar nw, ar kw, ar pi, ar ta, ar ms, ar pt, ar po, ai hi]), (po, cn 0 36 po0)] : aW)) (fun _ => True) (fun _ => some (al (plV (kPB f p) (plN (kPB f p) 1) sc (skr (f (19 + p)) r) k))) (fun _ => []) := by
  refine ct_L RX11 [(0, ar mo), (1, ai k), (2, ai sc), (3, ai r), (4, ai 2), (5, al mi)] (by decide) rfl (Nat.le_of_ble_eq_true rfl) rfl (fun x hgS hro hret => ?_)
  subst hgS
  have r0 := hro _ (mem_at 0 rfl)
  have r1 := hro _ (mem_at 1 rfl)
  obtain ⟨⟨hg0, hg1, hg2, hg3, hg4, hg5, hg6, hg7⟩, hSp, hSh, hSs, hSb, hSt, hSw⟩ := id hS
  obtain ⟨hpp, hf1, hf2, hf3, hf4, hf5, hf6, hf7, hf8⟩ := hSp p hp.1 hp.2
  have hok := hpo r k hr.1 (by omega) hk.1 hk.2
  have hbb := kPB_b (f := f) (p := p) (s := skr (f (19 + p)) r) (k := k)
  have hab := kAbs_le5 (z := 5 * (k + 1) - sc)
  have hab2 : 0 ≤ kAbs (5 * (k + 1) - sc) ∧ kAbs (5 * (k + 1) - sc) ≤ 200 := by unfold kAbs; split <;> omega
  have hmb := plN_b (B := (kPB f p)) (fun _ _ => kPB_b) 1 sc (skr (f (19 + p)) r) hsc.1 hsc.2
  show V x cX11_plannedBy RX11 13 (rmU 3 120 0 0) [] 0 [(0, ar mo), (1, ai k), (2, ai sc), (3, ai r), (4, ai 2), (5, al mi)] [] 0 0
  refine v_iload_n (pc := 0) 3 rfl dX11_plannedBy_0 ?_
  refine v_bipush (pc := 1) dX11_plannedBy_1 (by decide) ?_
  refine v_imul (pc := 3) dX11_plannedBy_3 ?_
  refine v_iload_n (pc := 4) 1 rfl dX11_plannedBy_4 ?_
  refine v_iadd (pc := 5) dX11_plannedBy_5 ?_
  refine v_istore (pc := 6) (L2 := [(7, ai ((r * 12) + k)), (0, ar mo), (1, ai k), (2, ai sc), (3, ai r), (4, ai 2), (5, al mi)]) rfl (by decide) dX11_plannedBy_6 ?_
  refine v_iload (pc := 8) 5 rfl dX11_plannedBy_8 ?_
  refine v_if_le (pc := 10) 29 dX11_plannedBy_10 (by decide) (by unfold iB; omega) (fun c_1 => by exfalso; omega) (fun c_1 => ?_)
  refine v_iload (pc := 13) 0 rfl dX11_plannedBy_13 ?_
  refine v_iconst (pc := 15) dX11_plannedBy_15 ?_
  refine v_aload_n (pc := 16) 1 rfl dX11_plannedBy_16 ?_
  refine v_get (pc := 17) (v := ar po) 6 (Or.inl r0) fl_11_38_11 rfl dX11_plannedBy_17 ?_
  refine v_alen (pc := 20) (by decide) (Or.inl r1) dX11_plannedBy_20 ?_
  refine v_iconst (pc := 21) dX11_plannedBy_21 ?_
  refine v_isub (pc := 22) dX11_plannedBy_22 ?_
  refine v_callS (pc := 23) [] [] [] (As := [ai ((r * 12) + k), ai 0, ai (36 - 1)]) (rest := []) (c_X11_isOut ((r * 12) + k) 0 (36 - 1) (by first | omega | assumption) (by first | omega | assumption) (by first | omega | assumption)) wl_X11_41 ws_X11_isOut wk_X11_isOut wz_X11 md_X11_isOut rfl (Nat.le_of_ble_eq_true rfl) ⟨Nat.le_of_ble_eq_true rfl, Nat.le_of_ble_eq_true rfl, Nat.le_of_ble_eq_true rfl, Nat.le_of_ble_eq_true rfl⟩ rfl rfl rfl rfl (by decide) ro_nil dX11_plannedBy_23 (fun u hu => ?_)
  show V x cX11_plannedBy RX11 13 (rmU 3 120 0 0) [] 26 [(7, ai ((r * 12) + k)), (0, ar mo), (1, ai k), (2, ai sc), (3, ai r), (4, ai 2), (5, al mi)] [ai (if ((r * 12) + k) < 0 ∨ (36 - 1) < ((r * 12) + k) then 1 else 0)] 0 0
  refine v_ifb_eq (pc := 26) 31 dX11_plannedBy_26 (by decide) (fun c_2 => ?_) (fun c_2 => ?_)
  · skip
    refine v_iload_n (pc := 31) 2 rfl dX11_plannedBy_31 ?_
    refine v_callS (pc := 32) [] [] [] (As := [ai k]) (rest := []) (c_X11_matsOf k ) wl_X11_216 ws_X11_matsOf wk_X11_matsOf wz_X11 md_X11_matsOf rfl (Nat.le_of_ble_eq_true rfl) ⟨Nat.le_of_ble_eq_true rfl, Nat.le_of_ble_eq_true rfl, Nat.le_of_ble_eq_true rfl, Nat.le_of_ble_eq_true rfl⟩ rfl rfl rfl rfl (by decide) ro_nil dX11_plannedBy_32 (fun u hu => ?_)
    show V x cX11_plannedBy RX11 13 (rmU 3 120 0 0) [] 35 [(7, ai ((r * 12) + k)), (0, ar mo), (1, ai k), (2, ai sc), (3, ai r), (4, ai 2), (5, al mi)] [ai (5 * (k + 1))] 0 0
    refine v_istore (pc := 35) (L2 := [(8, ai (5 * (k + 1))), (7, ai ((r * 12) + k)), (0, ar mo), (1, ai k), (2, ai sc), (3, ai r), (4, ai 2), (5, al mi)]) rfl (by decide) dX11_plannedBy_35 ?_
    refine v_aload_n (pc := 37) 2 rfl dX11_plannedBy_37 ?_
    refine v_get (pc := 38) (v := ar po) 6 (Or.inl r0) fl_11_38_11 rfl dX11_plannedBy_38 ?_
    refine v_iload (pc := 41) 1 rfl dX11_plannedBy_41 ?_
    refine v_iald (pc := 43) (Or.inl r1) (by omega) (by omega) (by decide) dX11_plannedBy_43 ?_
    obtain ⟨o, ho⟩ : ∃ o, o = kPB f p (skr (f (19 + p)) r) k := ⟨_, rfl⟩
    refine v_eqi (y := o) (by rw [ho, ← hok, show r * 12 + k = 12 * r + k by omega]) ?_
    rw [← ho] at hbb
    refine v_istore (pc := 44) (L2 := [(9, ai o), (8, ai (5 * (k + 1))), (7, ai ((r * 12) + k)), (0, ar mo), (1, ai k), (2, ai sc), (3, ai r), (4, ai 2), (5, al mi)]) rfl (by decide) dX11_plannedBy_44 ?_
    refine v_iload (pc := 46) 1 rfl dX11_plannedBy_46 ?_
    refine v_iload_n (pc := 48) 5 rfl dX11_plannedBy_48 ?_
    refine v_isub (pc := 49) dX11_plannedBy_49 ?_
    refine v_callS (pc := 50) [] [] [] (As := [ai ((5 * (k + 1)) - sc)]) (rest := []) (c_J9_abs_0f7a4 ((5 * (k + 1)) - sc) (by first | omega | assumption)) wl_X11_297 ws_J9_abs_0f7a4 wk_J9_abs_0f7a4 wz_J9 md_J9_abs_0f7a4 rfl (Nat.le_of_ble_eq_true rfl) ⟨Nat.le_of_ble_eq_true rfl, Nat.le_of_ble_eq_true rfl, Nat.le_of_ble_eq_true rfl, Nat.le_of_ble_eq_true rfl⟩ rfl rfl rfl rfl (by decide) ro_nil dX11_plannedBy_50 (fun u hu => ?_)
    show V x cX11_plannedBy RX11 13 (rmU 3 120 0 0) [] 53 [(9, ai o), (8, ai (5 * (k + 1))), (7, ai ((r * 12) + k)), (0, ar mo), (1, ai k), (2, ai sc), (3, ai r), (4, ai 2), (5, al mi)] [ai (kAbs ((5 * (k + 1)) - sc))] 0 0
    refine v_iconst (pc := 53) dX11_plannedBy_53 ?_
    refine v_icmp_gt (pc := 54) 63 dX11_plannedBy_54 (by decide) (by unfold iB; omega) (by unfold iB; omega) (fun c_3 => ?_) (fun c_3 => ?_)
    · skip
      refine v_iload_n (pc := 63) 6 rfl dX11_plannedBy_63 ?_
      refine v_istore (pc := 64) (L2 := [(10, ai r), (9, ai o), (8, ai (5 * (k + 1))), (7, ai ((r * 12) + k)), (0, ar mo), (1, ai k), (2, ai sc), (3, ai r), (4, ai 2), (5, al mi)]) rfl (by decide) dX11_plannedBy_64 ?_
      refine v_iload (pc := 66) 1 rfl dX11_plannedBy_66 ?_
      refine v_if_ne (pc := 68) 75 dX11_plannedBy_68 (by decide) (by unfold iB; omega) (fun c_4 => ?_) (fun c_4 => ?_)
      · skip
        refine v_aload_n (pc := 75) 4 rfl dX11_plannedBy_75 ?_
        refine v_iload_n (pc := 76) 6 rfl dX11_plannedBy_76 ?_
        refine v_iload (pc := 77) 2 rfl dX11_plannedBy_77 ?_
        refine v_callS (pc := 79) [] [] [] (As := [ai sc, ai (5 * (k + 1))]) (rest := [ar mo]) (c_J9_max_7cf53 sc (5 * (k + 1)) (by first | omega | assumption) (by first | omega | assumption)) wl_X11_191 ws_J9_max_7cf53 wk_J9_max_7cf53 wz_J9 md_J9_max_7cf53 rfl (Nat.le_of_ble_eq_true rfl) ⟨Nat.le_of_ble_eq_true rfl, Nat.le_of_ble_eq_true rfl, Nat.le_of_ble_eq_true rfl, Nat.le_of_ble_eq_true rfl⟩ rfl rfl rfl rfl (by decide) ro_nil dX11_plannedBy_79 (fun u hu => ?_)
        show V x cX11_plannedBy RX11 13 (rmU 3 120 0 0) [] 82 [(10, ai r), (9, ai o), (8, ai (5 * (k + 1))), (7, ai ((r * 12) + k)), (0, ar mo), (1, ai k), (2, ai sc), (3, ai r), (4, ai 2), (5, al mi)] [ai (if sc < (5 * (k + 1)) then (5 * (k + 1)) else sc), ar mo] 0 0
        refine v_iload (pc := 82) 0 rfl dX11_plannedBy_82 ?_
        refine v_iload (pc := 84) 8 rfl dX11_plannedBy_84 ?_
        refine v_iconst (pc := 86) dX11_plannedBy_86 ?_
        refine v_isub (pc := 87) dX11_plannedBy_87 ?_
        refine v_callV (pc := 88) [] [] [] (As := [ai (if sc < (5 * (k + 1)) then (5 * (k + 1)) else sc), ai r, ai 1]) (rest := []) (c_X11_planned_d1 mo kw pi ta ms pt po hi nw f p T po0 (if sc < (5 * (k + 1)) then (5 * (k + 1)) else sc) r (by assumption) (by first | omega | assumption) (by omega) (by assumption) (by first | omega | assumption) (by omega)) (c := 11) rfl (Or.inl r0) wl_X11_202 wi_X11_planned wv_X11_X11_planned_X11_planned wk_X11_planned wz_X11 md_X11_planned rfl (Nat.le_of_ble_eq_true rfl) ⟨Nat.le_of_ble_eq_true rfl, Nat.le_of_ble_eq_true rfl, Nat.le_of_ble_eq_true rfl, Nat.le_of_ble_eq_true rfl⟩ rfl rfl rfl rfl (by decide) (ro_cons (Or.inl r0) (ro_cons (Or.inl r1) ro_nil)) dX11_plannedBy_88 (fun u hu => ?_)
        show V x cX11_plannedBy RX11 13 (rmU 3 120 0 0) [] 91 [(10, ai r), (9, ai o), (8, ai (5 * (k + 1))), (7, ai ((r * 12) + k)), (0, ar mo), (1, ai k), (2, ai sc), (3, ai r), (4, ai 2), (5, al mi)] [al (plN (kPB f p) 1 (if sc < (5 * (k + 1)) then (5 * (k + 1)) else sc) (skr (f (19 + p)) r))] 0 0
        refine v_lstore (pc := 91) (L2 := [(11, al (plN (kPB f p) 1 (if sc < (5 * (k + 1)) then (5 * (k + 1)) else sc) (skr (f (19 + p)) r))), (10, ai r), (9, ai o), (8, ai (5 * (k + 1))), (7, ai ((r * 12) + k)), (0, ar mo), (1, ai k), (2, ai sc), (3, ai r), (4, ai 2), (5, al mi)]) rfl (by decide) dX11_plannedBy_91 ?_
        refine v_iload (pc := 93) 2 rfl dX11_plannedBy_93 ?_
        refine v_i2l (pc := 95) (by unfold iB; omega) dX11_plannedBy_95 ?_
        refine v_lload (pc := 96) 0 rfl dX11_plannedBy_96 ?_
        refine v_lmul (pc := 98) dX11_plannedBy_98 ?_
        refine v_bipush (pc := 99) dX11_plannedBy_99 (by decide) ?_
        refine v_iload (pc := 101) 2 rfl dX11_plannedBy_101 ?_
        refine v_isub (pc := 103) dX11_plannedBy_103 ?_
        refine v_i2l (pc := 104) (by unfold iB; omega) dX11_plannedBy_104 ?_
        refine v_lload (pc := 105) 10 rfl dX11_plannedBy_105 ?_
        refine v_lmul (pc := 107) dX11_plannedBy_107 ?_
        refine v_ladd (pc := 108) dX11_plannedBy_108 ?_
        exact hret () _ _ _ _ _ _ trivial (congrArg (fun z => some (al z)) (by rw [hmi]; unfold plV; rw [← ho, show (if sc < 5 * k + 5 then 5 * k + 5 else sc) = (if sc < 5 * (k + 1) then 5 * (k + 1) else sc) by (split <;> split <;> omega), skr_ls hf3 hr.1, show 5 * k + 5 = 5 * (k + 1) by omega]; first | (rw [if_pos (show -5 ≤ 5 * (k + 1) - sc ∧ 5 * (k + 1) - sc ≤ 5 by omega)]; done) | (rw [if_neg (show ¬ (-5 ≤ 5 * (k + 1) - sc ∧ 5 * (k + 1) - sc ≤ 5) by omega)]; done) | (rw [show o = 0 by omega, Int.zero_mul, Int.zero_mul]))) rfl (Nat.le_of_ble_eq_true rfl) (Nat.le_of_ble_eq_true rfl) dX11_plannedBy_109
      · skip
        refine v_lconst0 (pc := 71) dX11_plannedBy_71 ?_
        refine v_goto (pc := 72) 91 dX11_plannedBy_72 (by decide) ?_
        refine v_lstore (pc := 91) (L2 := [(11, al 0), (10, ai r), (9, ai o), (8, ai (5 * (k + 1))), (7, ai ((r * 12) + k)), (0, ar mo), (1, ai k), (2, ai sc), (3, ai r), (4, ai 2), (5, al mi)]) rfl (by decide) dX11_plannedBy_91 ?_
        refine v_iload (pc := 93) 2 rfl dX11_plannedBy_93 ?_
        refine v_i2l (pc := 95) (by unfold iB; omega) dX11_plannedBy_95 ?_
        refine v_lload (pc := 96) 0 rfl dX11_plannedBy_96 ?_
        refine v_lmul (pc := 98) dX11_plannedBy_98 ?_
        refine v_bipush (pc := 99) dX11_plannedBy_99 (by decide) ?_
        refine v_iload (pc := 101) 2 rfl dX11_plannedBy_101 ?_
        refine v_isub (pc := 103) dX11_plannedBy_103 ?_
        refine v_i2l (pc := 104) (by unfold iB; omega) dX11_plannedBy_104 ?_
        refine v_lload (pc := 105) 10 rfl dX11_plannedBy_105 ?_
        refine v_lmul (pc := 107) dX11_plannedBy_107 ?_
        refine v_ladd (pc := 108) dX11_plannedBy_108 ?_
        exact hret () _ _ _ _ _ _ trivial (congrArg (fun z => some (al z)) (by rw [hmi]; unfold plV; rw [← ho, show (if sc < 5 * k + 5 then 5 * k + 5 else sc) = (if sc < 5 * (k + 1) then 5 * (k + 1) else sc) by (split <;> split <;> omega), skr_ls hf3 hr.1, show 5 * k + 5 = 5 * (k + 1) by omega]; first | (rw [if_pos (show -5 ≤ 5 * (k + 1) - sc ∧ 5 * (k + 1) - sc ≤ 5 by omega)]; done) | (rw [if_neg (show ¬ (-5 ≤ 5 * (k + 1) - sc ∧ 5 * (k + 1) - sc ≤ 5) by omega)]; done) | (rw [show o = 0 by omega, Int.zero_mul, Int.zero_mul]))) rfl (Nat.le_of_ble_eq_true rfl) (Nat.le_of_ble_eq_true rfl) dX11_plannedBy_109
    · skip
      refine v_iload_n (pc := 57) 6 rfl dX11_plannedBy_57 ?_
      refine v_iconst (pc := 58) dX11_plannedBy_58 ?_
      refine v_iadd (pc := 59) dX11_plannedBy_59 ?_
      refine v_goto (pc := 60) 64 dX11_plannedBy_60 (by decide) ?_
      refine v_istore (pc := 64) (L2 := [(10, ai (r + 1)), (9, ai o), (8, ai (5 * (k + 1))), (7, ai ((r * 12) + k)), (0, ar mo), (1, ai k), (2, ai sc), (3, ai r), (4, ai 2), (5, al mi)]) rfl (by decide) dX11_plannedBy_64 ?_
      refine v_iload (pc := 66) 1 rfl dX11_plannedBy_66 ?_
      refine v_if_ne (pc := 68) 75 dX11_plannedBy_68 (by decide) (by unfold iB; omega) (fun c_5 => ?_) (fun c_5 => ?_)
      · skip
        refine v_aload_n (pc := 75) 4 rfl dX11_plannedBy_75 ?_
        refine v_iload_n (pc := 76) 6 rfl dX11_plannedBy_76 ?_
        refine v_iload (pc := 77) 2 rfl dX11_plannedBy_77 ?_
        refine v_callS (pc := 79) [] [] [] (As := [ai sc, ai (5 * (k + 1))]) (rest := [ar mo]) (c_J9_max_7cf53 sc (5 * (k + 1)) (by first | omega | assumption) (by first | omega | assumption)) wl_X11_191 ws_J9_max_7cf53 wk_J9_max_7cf53 wz_J9 md_J9_max_7cf53 rfl (Nat.le_of_ble_eq_true rfl) ⟨Nat.le_of_ble_eq_true rfl, Nat.le_of_ble_eq_true rfl, Nat.le_of_ble_eq_true rfl, Nat.le_of_ble_eq_true rfl⟩ rfl rfl rfl rfl (by decide) ro_nil dX11_plannedBy_79 (fun u hu => ?_)
        show V x cX11_plannedBy RX11 13 (rmU 3 120 0 0) [] 82 [(10, ai (r + 1)), (9, ai o), (8, ai (5 * (k + 1))), (7, ai ((r * 12) + k)), (0, ar mo), (1, ai k), (2, ai sc), (3, ai r), (4, ai 2), (5, al mi)] [ai (if sc < (5 * (k + 1)) then (5 * (k + 1)) else sc), ar mo] 0 0
        refine v_iload (pc := 82) 0 rfl dX11_plannedBy_82 ?_
        refine v_iload (pc := 84) 8 rfl dX11_plannedBy_84 ?_
        refine v_iconst (pc := 86) dX11_plannedBy_86 ?_
        refine v_isub (pc := 87) dX11_plannedBy_87 ?_
        refine v_callV (pc := 88) [] [] [] (As := [ai (if sc < (5 * (k + 1)) then (5 * (k + 1)) else sc), ai (r + 1), ai 1]) (rest := []) (c_X11_planned_d1 mo kw pi ta ms pt po hi nw f p T po0 (if sc < (5 * (k + 1)) then (5 * (k + 1)) else sc) (r + 1) (by assumption) (by first | omega | assumption) (by omega) (by assumption) (by first | omega | assumption) (by omega)) (c := 11) rfl (Or.inl r0) wl_X11_202 wi_X11_planned wv_X11_X11_planned_X11_planned wk_X11_planned wz_X11 md_X11_planned rfl (Nat.le_of_ble_eq_true rfl) ⟨Nat.le_of_ble_eq_true rfl, Nat.le_of_ble_eq_true rfl, Nat.le_of_ble_eq_true rfl, Nat.le_of_ble_eq_true rfl⟩ rfl rfl rfl rfl (by decide) (ro_cons (Or.inl r0) (ro_cons (Or.inl r1) ro_nil)) dX11_plannedBy_88 (fun u hu => ?_)
        show V x cX11_plannedBy RX11 13 (rmU 3 120 0 0) [] 91 [(10, ai (r + 1)), (9, ai o), (8, ai (5 * (k + 1))), (7, ai ((r * 12) + k)), (0, ar mo), (1, ai k), (2, ai sc), (3, ai r), (4, ai 2), (5, al mi)] [al (plN (kPB f p) 1 (if sc < (5 * (k + 1)) then (5 * (k + 1)) else sc) (skr (f (19 + p)) (r + 1)))] 0 0
        refine v_lstore (pc := 91) (L2 := [(11, al (plN (kPB f p) 1 (if sc < (5 * (k + 1)) then (5 * (k + 1)) else sc) (skr (f (19 + p)) (r + 1)))), (10, ai (r + 1)), (9, ai o), (8, ai (5 * (k + 1))), (7, ai ((r * 12) + k)), (0, ar mo), (1, ai k), (2, ai sc), (3, ai r), (4, ai 2), (5, al mi)]) rfl (by decide) dX11_plannedBy_91 ?_
        refine v_iload (pc := 93) 2 rfl dX11_plannedBy_93 ?_
        refine v_i2l (pc := 95) (by unfold iB; omega) dX11_plannedBy_95 ?_
        refine v_lload (pc := 96) 0 rfl dX11_plannedBy_96 ?_
        refine v_lmul (pc := 98) dX11_plannedBy_98 ?_
        refine v_bipush (pc := 99) dX11_plannedBy_99 (by decide) ?_
        refine v_iload (pc := 101) 2 rfl dX11_plannedBy_101 ?_
        refine v_isub (pc := 103) dX11_plannedBy_103 ?_
        refine v_i2l (pc := 104) (by unfold iB; omega) dX11_plannedBy_104 ?_
        refine v_lload (pc := 105) 10 rfl dX11_plannedBy_105 ?_
        refine v_lmul (pc := 107) dX11_plannedBy_107 ?_
        refine v_ladd (pc := 108) dX11_plannedBy_108 ?_
        exact hret () _ _ _ _ _ _ trivial (congrArg (fun z => some (al z)) (by rw [hmi]; unfold plV; rw [← ho, show (if sc < 5 * k + 5 then 5 * k + 5 else sc) = (if sc < 5 * (k + 1) then 5 * (k + 1) else sc) by (split <;> split <;> omega), skr_ls hf3 hr.1, show 5 * k + 5 = 5 * (k + 1) by omega]; first | (rw [if_pos (show -5 ≤ 5 * (k + 1) - sc ∧ 5 * (k + 1) - sc ≤ 5 by omega)]; done) | (rw [if_neg (show ¬ (-5 ≤ 5 * (k + 1) - sc ∧ 5 * (k + 1) - sc ≤ 5) by omega)]; done) | (rw [show o = 0 by omega, Int.zero_mul, Int.zero_mul]))) rfl (Nat.le_of_ble_eq_true rfl) (Nat.le_of_ble_eq_true rfl) dX11_plannedBy_109
      · skip
        refine v_lconst0 (pc := 71) dX11_plannedBy_71 ?_
        refine v_goto (pc := 72) 91 dX11_plannedBy_72 (by decide) ?_
        refine v_lstore (pc := 91) (L2 := [(11, al 0), (10, ai (r + 1)), (9, ai o), (8, ai (5 * (k + 1))), (7, ai ((r * 12) + k)), (0, ar mo), (1, ai k), (2, ai sc), (3, ai r), (4, ai 2), (5, al mi)]) rfl (by decide) dX11_plannedBy_91 ?_
        refine v_iload (pc := 93) 2 rfl dX11_plannedBy_93 ?_
        refine v_i2l (pc := 95) (by unfold iB; omega) dX11_plannedBy_95 ?_
        refine v_lload (pc := 96) 0 rfl dX11_plannedBy_96 ?_
        refine v_lmul (pc := 98) dX11_plannedBy_98 ?_
        refine v_bipush (pc := 99) dX11_plannedBy_99 (by decide) ?_
        refine v_iload (pc := 101) 2 rfl dX11_plannedBy_101 ?_
        refine v_isub (pc := 103) dX11_plannedBy_103 ?_
        refine v_i2l (pc := 104) (by unfold iB; omega) dX11_plannedBy_104 ?_
        refine v_lload (pc := 105) 10 rfl dX11_plannedBy_105 ?_
        refine v_lmul (pc := 107) dX11_plannedBy_107 ?_
        refine v_ladd (pc := 108) dX11_plannedBy_108 ?_
        exact hret () _ _ _ _ _ _ trivial (congrArg (fun z => some (al z)) (by rw [hmi]; unfold plV; rw [← ho, show (if sc < 5 * k + 5 then 5 * k + 5 else sc) = (if sc < 5 * (k + 1) then 5 * (k + 1) else sc) by (split <;> split <;> omega), skr_ls hf3 hr.1, show 5 * k + 5 = 5 * (k + 1) by omega]; first | (rw [if_pos (show -5 ≤ 5 * (k + 1) - sc ∧ 5 * (k + 1) - sc ≤ 5 by omega)]; done) | (rw [if_neg (show ¬ (-5 ≤ 5 * (k + 1) - sc ∧ 5 * (k + 1) - sc ≤ 5) by omega)]; done) | (rw [show o = 0 by omega, Int.zero_mul, Int.zero_mul]))) rfl (Nat.le_of_ble_eq_true rfl) (Nat.le_of_ble_eq_true rfl) dX11_plannedBy_109
  · skip
    exfalso; omega
set_option maxHeartbeats 4000000 in
set_option maxRecDepth 100000 in
theorem c_X11_planned_d2 {gS : sG} (mo : Nat) (kw : Nat) (pi : Nat) (ta : Nat) (ms : Nat) (pt : Nat) (po : Nat) (hi : Int) (nw : Nat) (f : Int → Int) (p : Int) (T : Int) (po0 : Int → Int) (sc : Int) (r : Int) (hS : SOK f) (hp : 0 ≤ p ∧ p < 6) (hsc : 0 ≤ sc ∧ sc ≤ 99) (hpo : pOK f p T po0) (hT : T ≤ 3) (hr : 0 ≤ r ∧ r + 2 ≤ T) : Ct gS (S := Unit) yX11_planned cX11_planned 9 (some .long) 4 152 0 0 [ar mo, ai sc, ai r, ai 2] [] (fun q => q ∈ ([(mo, co 11 [ar nw, ar kw, ar pi, ar ta, ar ms, ar pt, ar po, ai hi]), (po, cn 0 36 po0)] : aW)) (fun _ => True) (fun _ => some (al (plN (kPB f p) 2 sc (skr (f (19 + p)) r)))) (fun _ => []) := by
  refine ct_L RX11 [(0, ar mo), (1, ai sc), (2, ai r), (3, ai 2)] (by decide) rfl (Nat.le_of_ble_eq_true rfl) rfl (fun x hgS hro hret => ?_)
  subst hgS
  have r0 := hro _ (mem_at 0 rfl)
  have r1 := hro _ (mem_at 1 rfl)
  obtain ⟨⟨hg0, hg1, hg2, hg3, hg4, hg5, hg6, hg7⟩, hSp, hSh, hSs, hSb, hSt, hSw⟩ := id hS
  obtain ⟨hpp, hf1, hf2, hf3, hf4, hf5, hf6, hf7, hf8⟩ := hSp p hp.1 hp.2
  have hvb : ∀ k : Int, 0 ≤ k → k < ((12 : Nat) : Int) → 0 ≤ (plV (kPB f p) (plN (kPB f p) 1) sc (skr (f (19 + p)) r)) k ∧ (plV (kPB f p) (plN (kPB f p) 1) sc (skr (f (19 + p)) r)) k ≤ 10 * (99 * 10 ^ 1) := fun k k0 k1 => plV_b (fun _ _ => kPB_b) (fun a b c d => plN_b (fun _ _ => kPB_b) 1 a b c d) hsc ⟨k0, k1⟩
  have hbd := bst_bd 12 (by decide) hvb
  show V x cX11_planned RX11 9 (rmU 4 152 0 0) [] 0 [(0, ar mo), (1, ai sc), (2, ai r), (3, ai 2)] [] 0 0
  refine v_iload_n (pc := 0) 3 rfl dX11_planned_0 ?_
  refine v_if_gt (pc := 1) 7 dX11_planned_1 (by decide) (by unfold iB; omega) (fun c_1 => ?_) (fun c_1 => by exfalso; omega)
  refine v_aload_n (pc := 7) 0 rfl dX11_planned_7 ?_
  refine v_iload_n (pc := 8) 1 rfl dX11_planned_8 ?_
  refine v_iload_n (pc := 9) 2 rfl dX11_planned_9 ?_
  refine v_iload_n (pc := 10) 3 rfl dX11_planned_10 ?_
  refine v_iconst (pc := 11) dX11_planned_11 ?_
  refine v_isub (pc := 12) dX11_planned_12 ?_
  refine v_callV (pc := 13) [] [] [] (As := [ai sc, ai r, ai 1]) (rest := []) (c_X11_planned_d1 mo kw pi ta ms pt po hi nw f p T po0 sc r (by assumption) (by first | omega | assumption) (by first | omega | assumption) (by assumption) (by first | omega | assumption) (by omega)) (c := 11) rfl (Or.inl r0) wl_X11_202 wi_X11_planned wv_X11_X11_planned_X11_planned wk_X11_planned wz_X11 md_X11_planned rfl (Nat.le_of_ble_eq_true rfl) ⟨Nat.le_of_ble_eq_true rfl, Nat.le_of_ble_eq_true rfl, Nat.le_of_ble_eq_true rfl, Nat.le_of_ble_eq_true rfl⟩ rfl rfl rfl rfl (by decide) (ro_cons (Or.inl r0) (ro_cons (Or.inl r1) ro_nil)) dX11_planned_13 (fun u hu => ?_)
  show V x cX11_planned RX11 9 (rmU 4 152 0 0) [] 16 [(0, ar mo), (1, ai sc), (2, ai r), (3, ai 2)] [al (plN (kPB f p) 1 sc (skr (f (19 + p)) r))] 0 0
  refine v_lstore (pc := 16) (L2 := [(4, al (plN (kPB f p) 1 sc (skr (f (19 + p)) r))), (0, ar mo), (1, ai sc), (2, ai r), (3, ai 2)]) rfl (by decide) dX11_planned_16 ?_
  refine v_lconst0 (pc := 18) dX11_planned_18 ?_
  refine v_lstore (pc := 19) (L2 := [(6, al 0), (4, al (plN (kPB f p) 1 sc (skr (f (19 + p)) r))), (0, ar mo), (1, ai sc), (2, ai r), (3, ai 2)]) rfl (by decide) dX11_planned_19 ?_
  refine v_iconst (pc := 21) dX11_planned_21 ?_
  refine v_istore (pc := 22) (L2 := [(8, ai 0), (6, al 0), (4, al (plN (kPB f p) 1 sc (skr (f (19 + p)) r))), (0, ar mo), (1, ai sc), (2, ai r), (3, ai 2)]) rfl (by decide) dX11_planned_22 ?_
  have lp24 : ∀ (mm : Nat) (k : Int) (mx : Int), (12 - k).toNat = mm → (0 ≤ k ∧ k ≤ 12) → (mx = (if k = 0 then 0 else (bst (plV (kPB f p) (plN (kPB f p) 1) sc (skr (f (19 + p)) r)) k.toNat).1)) → V x cX11_planned RX11 9 (rmU 4 152 0 0) [] 24 [(0, ar mo), (1, ai sc), (2, ai r), (3, ai 2), (4, al (plN (kPB f p) 1 sc (skr (f (19 + p)) r))), (6, al mx), (8, ai k)] [] 0 0 := by
    intro mm
    induction mm using Nat.strongRecOn with
    | _ mm ih =>
      intro k mx hmm hk hmx
      have hmb2 : 0 ≤ mx ∧ mx ≤ 10 * (99 * 10 ^ 1) := by rw [hmx]; split; exact ⟨by decide, by decide⟩; have q := hbd k.toNat (by omega); exact ⟨(q.2.2 (by omega)).1, q.2.1⟩
      have hk0 : k = 0 → (bst (plV (kPB f p) (plN (kPB f p) 1) sc (skr (f (19 + p)) r)) k.toNat).1 = -1 := fun q => by subst q; rfl
      refine v_iload (pc := 24) 6 rfl dX11_planned_24 ?_
      refine v_bipush (pc := 26) dX11_planned_26 (by decide) ?_
      refine v_icmp_ge (pc := 28) 55 dX11_planned_28 (by decide) (by unfold iB; omega) (by unfold iB; omega) (fun c_2 => ?_) (fun c_2 => ?_)
      · skip
        refine v_lload (pc := 55) 5 rfl dX11_planned_55 ?_
        exact hret () _ _ _ _ _ _ trivial (congrArg (fun z => some (al z)) (by rw [hmx, if_neg (by omega), show k.toNat = 12 by omega]; rfl)) rfl (Nat.le_of_ble_eq_true rfl) (Nat.le_of_ble_eq_true rfl) dX11_planned_57
      · skip
        refine v_lload (pc := 31) 5 rfl dX11_planned_31 ?_
        refine v_aload_n (pc := 33) 0 rfl dX11_planned_33 ?_
        refine v_iload (pc := 34) 6 rfl dX11_planned_34 ?_
        refine v_iload_n (pc := 36) 1 rfl dX11_planned_36 ?_
        refine v_iload_n (pc := 37) 2 rfl dX11_planned_37 ?_
        refine v_iload_n (pc := 38) 3 rfl dX11_planned_38 ?_
        refine v_lload (pc := 39) 4 rfl dX11_planned_39 ?_
        refine v_callV (pc := 41) [] [] [] (As := [ai k, ai sc, ai r, ai 2, al (plN (kPB f p) 1 sc (skr (f (19 + p)) r))]) (rest := [al mx]) (c_X11_plannedBy_d2 mo kw pi ta ms pt po hi nw f p T po0 k sc r (plN (kPB f p) 1 sc (skr (f (19 + p)) r)) (by assumption) (by first | omega | assumption) (by first | omega | assumption) (by assumption) (by first | omega | assumption) (by first | omega | assumption) (by first | omega | assumption) (by first | omega | assumption)) (c := 11) rfl (Or.inl r0) wl_X11_212 wi_X11_plannedBy wv_X11_X11_plannedBy_X11_plannedBy wk_X11_plannedBy wz_X11 md_X11_plannedBy rfl (Nat.le_of_ble_eq_true rfl) ⟨Nat.le_of_ble_eq_true rfl, Nat.le_of_ble_eq_true rfl, Nat.le_of_ble_eq_true rfl, Nat.le_of_ble_eq_true rfl⟩ rfl rfl rfl rfl (by decide) (ro_cons (Or.inl r0) (ro_cons (Or.inl r1) ro_nil)) dX11_planned_41 (fun u hu => ?_)
        show V x cX11_planned RX11 9 (rmU 4 152 0 0) [] 44 [(0, ar mo), (1, ai sc), (2, ai r), (3, ai 2), (4, al (plN (kPB f p) 1 sc (skr (f (19 + p)) r))), (6, al mx), (8, ai k)] [al (plV (kPB f p) (plN (kPB f p) 1) sc (skr (f (19 + p)) r) k), al mx] 0 0
        have hvk := hvb k hk.1 (by omega)
        have hbs := bst_succ (plV (kPB f p) (plN (kPB f p) 1) sc (skr (f (19 + p)) r)) k.toNat
        rw [show ((k.toNat : Nat) : Int) = k by omega, show k.toNat + 1 = (k + 1).toNat by omega] at hbs
        have hbk := hbd k.toNat (by omega)
        refine v_callS (pc := 44) [] [] [] (As := [al mx, al (plV (kPB f p) (plN (kPB f p) 1) sc (skr (f (19 + p)) r) k)]) (rest := []) (c_J9_max_f86c9 mx (plV (kPB f p) (plN (kPB f p) 1) sc (skr (f (19 + p)) r) k) (by first | omega | assumption) (by first | omega | assumption)) wl_X11_294 ws_J9_max_f86c9 wk_J9_max_f86c9 wz_J9 md_J9_max_f86c9 rfl (Nat.le_of_ble_eq_true rfl) ⟨Nat.le_of_ble_eq_true rfl, Nat.le_of_ble_eq_true rfl, Nat.le_of_ble_eq_true rfl, Nat.le_of_ble_eq_true rfl⟩ rfl rfl rfl rfl (by decide) ro_nil dX11_planned_44 (fun u hu => ?_)
        show V x cX11_planned RX11 9 (rmU 4 152 0 0) [] 47 [(0, ar mo), (1, ai sc), (2, ai r), (3, ai 2), (4, al (plN (kPB f p) 1 sc (skr (f (19 + p)) r))), (6, al mx), (8, ai k)] [al (if mx < (plV (kPB f p) (plN (kPB f p) 1) sc (skr (f (19 + p)) r) k) then (plV (kPB f p) (plN (kPB f p) 1) sc (skr (f (19 + p)) r) k) else mx)] 0 0
        refine v_lstore (pc := 47) (L2 := [(6, al (if mx < (plV (kPB f p) (plN (kPB f p) 1) sc (skr (f (19 + p)) r) k) then (plV (kPB f p) (plN (kPB f p) 1) sc (skr (f (19 + p)) r) k) else mx)), (0, ar mo), (1, ai sc), (2, ai r), (3, ai 2), (4, al (plN (kPB f p) 1 sc (skr (f (19 + p)) r))), (8, ai k)]) rfl (by decide) dX11_planned_47 ?_
        refine v_iinc (pc := 49) 6 (L2 := [(8, ai (k + 1)), (6, al (if mx < (plV (kPB f p) (plN (kPB f p) 1) sc (skr (f (19 + p)) r) k) then (plV (kPB f p) (plN (kPB f p) 1) sc (skr (f (19 + p)) r) k) else mx)), (0, ar mo), (1, ai sc), (2, ai r), (3, ai 2), (4, al (plN (kPB f p) 1 sc (skr (f (19 + p)) r)))]) rfl rfl (by decide) dX11_planned_49 ?_
        refine v_goto (pc := 52) 24 dX11_planned_52 (by decide) ?_
        refine v_sub (L2 := [(0, ar mo), (1, ai sc), (2, ai r), (3, ai 2), (4, al (plN (kPB f p) 1 sc (skr (f (19 + p)) r))), (6, al (if mx < (plV (kPB f p) (plN (kPB f p) 1) sc (skr (f (19 + p)) r) k) then (plV (kPB f p) (plN (kPB f p) 1) sc (skr (f (19 + p)) r) k) else mx)), (8, ai (k + 1))]) [2, 3, 4, 5, 6, 1, 0] rfl ?_
        exact ih _ (by omega) (k + 1) (if mx < (plV (kPB f p) (plN (kPB f p) 1) sc (skr (f (19 + p)) r) k) then (plV (kPB f p) (plN (kPB f p) 1) sc (skr (f (19 + p)) r) k) else mx) rfl (by omega) (by rw [if_neg (show ¬ k + 1 = 0 by omega), hbs]; rcases Classical.em (k = 0) with q | q; (rw [if_pos (show (bst (plV (kPB f p) (plN (kPB f p) 1) sc (skr (f (19 + p)) r)) k.toNat).1 < (plV (kPB f p) (plN (kPB f p) 1) sc (skr (f (19 + p)) r)) k by have := hk0 q; omega), show mx = 0 by rw [hmx, if_pos q]]; show (if 0 < (plV (kPB f p) (plN (kPB f p) 1) sc (skr (f (19 + p)) r)) k then (plV (kPB f p) (plN (kPB f p) 1) sc (skr (f (19 + p)) r)) k else 0) = (plV (kPB f p) (plN (kPB f p) 1) sc (skr (f (19 + p)) r)) k; split <;> omega); (rw [hmx, if_neg q]; split <;> rfl))
  refine v_sub (L2 := [(0, ar mo), (1, ai sc), (2, ai r), (3, ai 2), (4, al (plN (kPB f p) 1 sc (skr (f (19 + p)) r))), (6, al 0), (8, ai 0)]) [3, 4, 5, 6, 2, 1, 0] rfl ?_
  exact lp24 _ 0 0 rfl (by omega) (by rfl)
set_option maxHeartbeats 4000000 in
set_option maxRecDepth 100000 in
theorem c_X11_plannedBy_d3 {gS : sG} (mo : Nat) (kw : Nat) (pi : Nat) (ta : Nat) (ms : Nat) (pt : Nat) (po : Nat) (hi : Int) (nw : Nat) (f : Int → Int) (p : Int) (T : Int) (po0 : Int → Int) (k : Int) (sc : Int) (r : Int) (mi : Int) (hS : SOK f) (hp : 0 ≤ p ∧ p < 6) (hsc : 0 ≤ sc ∧ sc ≤ 99) (hpo : pOK f p T po0) (hT : T ≤ 3) (hr : 0 ≤ r ∧ r + 3 ≤ T) (hk : 0 ≤ k ∧ k < 12) (hmi : mi = (plN (kPB f p) 2 sc (skr (f (19 + p)) r))) : Ct gS (S := Unit) yX11_plannedBy cX11_plannedBy 13 (some .long) 5 180 0 0 [ar mo, ai k, ai sc, ai r, ai 3, al mi] [] (fun q => q ∈ ([(mo, co 11 [ar nw, ar kw, ar pi, ar ta, ar ms, ar pt, ar po, ai hi]), (po, cn 0 36 po0)] : aW)) (fun _ => True) (fun _ => some (al (plV (kPB f p) (plN (kPB f p) 2) sc (skr (f (19 + p)) r) k))) (fun _ => []) := by
  refine ct_L RX11 [(0, ar mo), (1, ai k), (2, ai sc), (3, ai r), (4, ai 3), (5, al mi)] (by decide) rfl (Nat.le_of_ble_eq_true rfl) rfl (fun x hgS hro hret => ?_)
  subst hgS
  have r0 := hro _ (mem_at 0 rfl)
  have r1 := hro _ (mem_at 1 rfl)
  obtain ⟨⟨hg0, hg1, hg2, hg3, hg4, hg5, hg6, hg7⟩, hSp, hSh, hSs, hSb, hSt, hSw⟩ := id hS
  obtain ⟨hpp, hf1, hf2, hf3, hf4, hf5, hf6, hf7, hf8⟩ := hSp p hp.1 hp.2
  have hok := hpo r k hr.1 (by omega) hk.1 hk.2
  have hbb := kPB_b (f := f) (p := p) (s := skr (f (19 + p)) r) (k := k)
  have hab := kAbs_le5 (z := 5 * (k + 1) - sc)
  have hab2 : 0 ≤ kAbs (5 * (k + 1) - sc) ∧ kAbs (5 * (k + 1) - sc) ≤ 200 := by unfold kAbs; split <;> omega
  have hmb := plN_b (B := (kPB f p)) (fun _ _ => kPB_b) 2 sc (skr (f (19 + p)) r) hsc.1 hsc.2
  show V x cX11_plannedBy RX11 13 (rmU 5 180 0 0) [] 0 [(0, ar mo), (1, ai k), (2, ai sc), (3, ai r), (4, ai 3), (5, al mi)] [] 0 0
  refine v_iload_n (pc := 0) 3 rfl dX11_plannedBy_0 ?_
  refine v_bipush (pc := 1) dX11_plannedBy_1 (by decide) ?_
  refine v_imul (pc := 3) dX11_plannedBy_3 ?_
  refine v_iload_n (pc := 4) 1 rfl dX11_plannedBy_4 ?_
  refine v_iadd (pc := 5) dX11_plannedBy_5 ?_
  refine v_istore (pc := 6) (L2 := [(7, ai ((r * 12) + k)), (0, ar mo), (1, ai k), (2, ai sc), (3, ai r), (4, ai 3), (5, al mi)]) rfl (by decide) dX11_plannedBy_6 ?_
  refine v_iload (pc := 8) 5 rfl dX11_plannedBy_8 ?_
  refine v_if_le (pc := 10) 29 dX11_plannedBy_10 (by decide) (by unfold iB; omega) (fun c_1 => by exfalso; omega) (fun c_1 => ?_)
  refine v_iload (pc := 13) 0 rfl dX11_plannedBy_13 ?_
  refine v_iconst (pc := 15) dX11_plannedBy_15 ?_
  refine v_aload_n (pc := 16) 1 rfl dX11_plannedBy_16 ?_
  refine v_get (pc := 17) (v := ar po) 6 (Or.inl r0) fl_11_38_11 rfl dX11_plannedBy_17 ?_
  refine v_alen (pc := 20) (by decide) (Or.inl r1) dX11_plannedBy_20 ?_
  refine v_iconst (pc := 21) dX11_plannedBy_21 ?_
  refine v_isub (pc := 22) dX11_plannedBy_22 ?_
  refine v_callS (pc := 23) [] [] [] (As := [ai ((r * 12) + k), ai 0, ai (36 - 1)]) (rest := []) (c_X11_isOut ((r * 12) + k) 0 (36 - 1) (by first | omega | assumption) (by first | omega | assumption) (by first | omega | assumption)) wl_X11_41 ws_X11_isOut wk_X11_isOut wz_X11 md_X11_isOut rfl (Nat.le_of_ble_eq_true rfl) ⟨Nat.le_of_ble_eq_true rfl, Nat.le_of_ble_eq_true rfl, Nat.le_of_ble_eq_true rfl, Nat.le_of_ble_eq_true rfl⟩ rfl rfl rfl rfl (by decide) ro_nil dX11_plannedBy_23 (fun u hu => ?_)
  show V x cX11_plannedBy RX11 13 (rmU 5 180 0 0) [] 26 [(7, ai ((r * 12) + k)), (0, ar mo), (1, ai k), (2, ai sc), (3, ai r), (4, ai 3), (5, al mi)] [ai (if ((r * 12) + k) < 0 ∨ (36 - 1) < ((r * 12) + k) then 1 else 0)] 0 0
  refine v_ifb_eq (pc := 26) 31 dX11_plannedBy_26 (by decide) (fun c_2 => ?_) (fun c_2 => ?_)
  · skip
    refine v_iload_n (pc := 31) 2 rfl dX11_plannedBy_31 ?_
    refine v_callS (pc := 32) [] [] [] (As := [ai k]) (rest := []) (c_X11_matsOf k ) wl_X11_216 ws_X11_matsOf wk_X11_matsOf wz_X11 md_X11_matsOf rfl (Nat.le_of_ble_eq_true rfl) ⟨Nat.le_of_ble_eq_true rfl, Nat.le_of_ble_eq_true rfl, Nat.le_of_ble_eq_true rfl, Nat.le_of_ble_eq_true rfl⟩ rfl rfl rfl rfl (by decide) ro_nil dX11_plannedBy_32 (fun u hu => ?_)
    show V x cX11_plannedBy RX11 13 (rmU 5 180 0 0) [] 35 [(7, ai ((r * 12) + k)), (0, ar mo), (1, ai k), (2, ai sc), (3, ai r), (4, ai 3), (5, al mi)] [ai (5 * (k + 1))] 0 0
    refine v_istore (pc := 35) (L2 := [(8, ai (5 * (k + 1))), (7, ai ((r * 12) + k)), (0, ar mo), (1, ai k), (2, ai sc), (3, ai r), (4, ai 3), (5, al mi)]) rfl (by decide) dX11_plannedBy_35 ?_
    refine v_aload_n (pc := 37) 2 rfl dX11_plannedBy_37 ?_
    refine v_get (pc := 38) (v := ar po) 6 (Or.inl r0) fl_11_38_11 rfl dX11_plannedBy_38 ?_
    refine v_iload (pc := 41) 1 rfl dX11_plannedBy_41 ?_
    refine v_iald (pc := 43) (Or.inl r1) (by omega) (by omega) (by decide) dX11_plannedBy_43 ?_
    obtain ⟨o, ho⟩ : ∃ o, o = kPB f p (skr (f (19 + p)) r) k := ⟨_, rfl⟩
    refine v_eqi (y := o) (by rw [ho, ← hok, show r * 12 + k = 12 * r + k by omega]) ?_
    rw [← ho] at hbb
    refine v_istore (pc := 44) (L2 := [(9, ai o), (8, ai (5 * (k + 1))), (7, ai ((r * 12) + k)), (0, ar mo), (1, ai k), (2, ai sc), (3, ai r), (4, ai 3), (5, al mi)]) rfl (by decide) dX11_plannedBy_44 ?_
    refine v_iload (pc := 46) 1 rfl dX11_plannedBy_46 ?_
    refine v_iload_n (pc := 48) 5 rfl dX11_plannedBy_48 ?_
    refine v_isub (pc := 49) dX11_plannedBy_49 ?_
    refine v_callS (pc := 50) [] [] [] (As := [ai ((5 * (k + 1)) - sc)]) (rest := []) (c_J9_abs_0f7a4 ((5 * (k + 1)) - sc) (by first | omega | assumption)) wl_X11_297 ws_J9_abs_0f7a4 wk_J9_abs_0f7a4 wz_J9 md_J9_abs_0f7a4 rfl (Nat.le_of_ble_eq_true rfl) ⟨Nat.le_of_ble_eq_true rfl, Nat.le_of_ble_eq_true rfl, Nat.le_of_ble_eq_true rfl, Nat.le_of_ble_eq_true rfl⟩ rfl rfl rfl rfl (by decide) ro_nil dX11_plannedBy_50 (fun u hu => ?_)
    show V x cX11_plannedBy RX11 13 (rmU 5 180 0 0) [] 53 [(9, ai o), (8, ai (5 * (k + 1))), (7, ai ((r * 12) + k)), (0, ar mo), (1, ai k), (2, ai sc), (3, ai r), (4, ai 3), (5, al mi)] [ai (kAbs ((5 * (k + 1)) - sc))] 0 0
    refine v_iconst (pc := 53) dX11_plannedBy_53 ?_
    refine v_icmp_gt (pc := 54) 63 dX11_plannedBy_54 (by decide) (by unfold iB; omega) (by unfold iB; omega) (fun c_3 => ?_) (fun c_3 => ?_)
    · skip
      refine v_iload_n (pc := 63) 6 rfl dX11_plannedBy_63 ?_
      refine v_istore (pc := 64) (L2 := [(10, ai r), (9, ai o), (8, ai (5 * (k + 1))), (7, ai ((r * 12) + k)), (0, ar mo), (1, ai k), (2, ai sc), (3, ai r), (4, ai 3), (5, al mi)]) rfl (by decide) dX11_plannedBy_64 ?_
      refine v_iload (pc := 66) 1 rfl dX11_plannedBy_66 ?_
      refine v_if_ne (pc := 68) 75 dX11_plannedBy_68 (by decide) (by unfold iB; omega) (fun c_4 => ?_) (fun c_4 => ?_)
      · skip
        refine v_aload_n (pc := 75) 4 rfl dX11_plannedBy_75 ?_
        refine v_iload_n (pc := 76) 6 rfl dX11_plannedBy_76 ?_
        refine v_iload (pc := 77) 2 rfl dX11_plannedBy_77 ?_
        refine v_callS (pc := 79) [] [] [] (As := [ai sc, ai (5 * (k + 1))]) (rest := [ar mo]) (c_J9_max_7cf53 sc (5 * (k + 1)) (by first | omega | assumption) (by first | omega | assumption)) wl_X11_191 ws_J9_max_7cf53 wk_J9_max_7cf53 wz_J9 md_J9_max_7cf53 rfl (Nat.le_of_ble_eq_true rfl) ⟨Nat.le_of_ble_eq_true rfl, Nat.le_of_ble_eq_true rfl, Nat.le_of_ble_eq_true rfl, Nat.le_of_ble_eq_true rfl⟩ rfl rfl rfl rfl (by decide) ro_nil dX11_plannedBy_79 (fun u hu => ?_)
        show V x cX11_plannedBy RX11 13 (rmU 5 180 0 0) [] 82 [(10, ai r), (9, ai o), (8, ai (5 * (k + 1))), (7, ai ((r * 12) + k)), (0, ar mo), (1, ai k), (2, ai sc), (3, ai r), (4, ai 3), (5, al mi)] [ai (if sc < (5 * (k + 1)) then (5 * (k + 1)) else sc), ar mo] 0 0
        refine v_iload (pc := 82) 0 rfl dX11_plannedBy_82 ?_
        refine v_iload (pc := 84) 8 rfl dX11_plannedBy_84 ?_
        refine v_iconst (pc := 86) dX11_plannedBy_86 ?_
        refine v_isub (pc := 87) dX11_plannedBy_87 ?_
        refine v_callV (pc := 88) [] [] [] (As := [ai (if sc < (5 * (k + 1)) then (5 * (k + 1)) else sc), ai r, ai 2]) (rest := []) (c_X11_planned_d2 mo kw pi ta ms pt po hi nw f p T po0 (if sc < (5 * (k + 1)) then (5 * (k + 1)) else sc) r (by assumption) (by first | omega | assumption) (by omega) (by assumption) (by first | omega | assumption) (by omega)) (c := 11) rfl (Or.inl r0) wl_X11_202 wi_X11_planned wv_X11_X11_planned_X11_planned wk_X11_planned wz_X11 md_X11_planned rfl (Nat.le_of_ble_eq_true rfl) ⟨Nat.le_of_ble_eq_true rfl, Nat.le_of_ble_eq_true rfl, Nat.le_of_ble_eq_true rfl, Nat.le_of_ble_eq_true rfl⟩ rfl rfl rfl rfl (by decide) (ro_cons (Or.inl r0) (ro_cons (Or.inl r1) ro_nil)) dX11_plannedBy_88 (fun u hu => ?_)
        show V x cX11_plannedBy RX11 13 (rmU 5 180 0 0) [] 91 [(10, ai r), (9, ai o), (8, ai (5 * (k + 1))), (7, ai ((r * 12) + k)), (0, ar mo), (1, ai k), (2, ai sc), (3, ai r), (4, ai 3), (5, al mi)] [al (plN (kPB f p) 2 (if sc < (5 * (k + 1)) then (5 * (k + 1)) else sc) (skr (f (19 + p)) r))] 0 0
        refine v_lstore (pc := 91) (L2 := [(11, al (plN (kPB f p) 2 (if sc < (5 * (k + 1)) then (5 * (k + 1)) else sc) (skr (f (19 + p)) r))), (10, ai r), (9, ai o), (8, ai (5 * (k + 1))), (7, ai ((r * 12) + k)), (0, ar mo), (1, ai k), (2, ai sc), (3, ai r), (4, ai 3), (5, al mi)]) rfl (by decide) dX11_plannedBy_91 ?_
        refine v_iload (pc := 93) 2 rfl dX11_plannedBy_93 ?_
        refine v_i2l (pc := 95) (by unfold iB; omega) dX11_plannedBy_95 ?_
        refine v_lload (pc := 96) 0 rfl dX11_plannedBy_96 ?_
        refine v_lmul (pc := 98) dX11_plannedBy_98 ?_
        refine v_bipush (pc := 99) dX11_plannedBy_99 (by decide) ?_
        refine v_iload (pc := 101) 2 rfl dX11_plannedBy_101 ?_
        refine v_isub (pc := 103) dX11_plannedBy_103 ?_
        refine v_i2l (pc := 104) (by unfold iB; omega) dX11_plannedBy_104 ?_
        refine v_lload (pc := 105) 10 rfl dX11_plannedBy_105 ?_
        refine v_lmul (pc := 107) dX11_plannedBy_107 ?_
        refine v_ladd (pc := 108) dX11_plannedBy_108 ?_
        exact hret () _ _ _ _ _ _ trivial (congrArg (fun z => some (al z)) (by rw [hmi]; unfold plV; rw [← ho, show (if sc < 5 * k + 5 then 5 * k + 5 else sc) = (if sc < 5 * (k + 1) then 5 * (k + 1) else sc) by (split <;> split <;> omega), skr_ls hf3 hr.1, show 5 * k + 5 = 5 * (k + 1) by omega]; first | (rw [if_pos (show -5 ≤ 5 * (k + 1) - sc ∧ 5 * (k + 1) - sc ≤ 5 by omega)]; done) | (rw [if_neg (show ¬ (-5 ≤ 5 * (k + 1) - sc ∧ 5 * (k + 1) - sc ≤ 5) by omega)]; done) | (rw [show o = 0 by omega, Int.zero_mul, Int.zero_mul]))) rfl (Nat.le_of_ble_eq_true rfl) (Nat.le_of_ble_eq_true rfl) dX11_plannedBy_109
      · skip
        refine v_lconst0 (pc := 71) dX11_plannedBy_71 ?_
        refine v_goto (pc := 72) 91 dX11_plannedBy_72 (by decide) ?_
        refine v_lstore (pc := 91) (L2 := [(11, al 0), (10, ai r), (9, ai o), (8, ai (5 * (k + 1))), (7, ai ((r * 12) + k)), (0, ar mo), (1, ai k), (2, ai sc), (3, ai r), (4, ai 3), (5, al mi)]) rfl (by decide) dX11_plannedBy_91 ?_
        refine v_iload (pc := 93) 2 rfl dX11_plannedBy_93 ?_
        refine v_i2l (pc := 95) (by unfold iB; omega) dX11_plannedBy_95 ?_
        refine v_lload (pc := 96) 0 rfl dX11_plannedBy_96 ?_
        refine v_lmul (pc := 98) dX11_plannedBy_98 ?_
        refine v_bipush (pc := 99) dX11_plannedBy_99 (by decide) ?_
        refine v_iload (pc := 101) 2 rfl dX11_plannedBy_101 ?_
        refine v_isub (pc := 103) dX11_plannedBy_103 ?_
        refine v_i2l (pc := 104) (by unfold iB; omega) dX11_plannedBy_104 ?_
        refine v_lload (pc := 105) 10 rfl dX11_plannedBy_105 ?_
        refine v_lmul (pc := 107) dX11_plannedBy_107 ?_
        refine v_ladd (pc := 108) dX11_plannedBy_108 ?_
        exact hret () _ _ _ _ _ _ trivial (congrArg (fun z => some (al z)) (by rw [hmi]; unfold plV; rw [← ho, show (if sc < 5 * k + 5 then 5 * k + 5 else sc) = (if sc < 5 * (k + 1) then 5 * (k + 1) else sc) by (split <;> split <;> omega), skr_ls hf3 hr.1, show 5 * k + 5 = 5 * (k + 1) by omega]; first | (rw [if_pos (show -5 ≤ 5 * (k + 1) - sc ∧ 5 * (k + 1) - sc ≤ 5 by omega)]; done) | (rw [if_neg (show ¬ (-5 ≤ 5 * (k + 1) - sc ∧ 5 * (k + 1) - sc ≤ 5) by omega)]; done) | (rw [show o = 0 by omega, Int.zero_mul, Int.zero_mul]))) rfl (Nat.le_of_ble_eq_true rfl) (Nat.le_of_ble_eq_true rfl) dX11_plannedBy_109
    · skip
      refine v_iload_n (pc := 57) 6 rfl dX11_plannedBy_57 ?_
      refine v_iconst (pc := 58) dX11_plannedBy_58 ?_
      refine v_iadd (pc := 59) dX11_plannedBy_59 ?_
      refine v_goto (pc := 60) 64 dX11_plannedBy_60 (by decide) ?_
      refine v_istore (pc := 64) (L2 := [(10, ai (r + 1)), (9, ai o), (8, ai (5 * (k + 1))), (7, ai ((r * 12) + k)), (0, ar mo), (1, ai k), (2, ai sc), (3, ai r), (4, ai 3), (5, al mi)]) rfl (by decide) dX11_plannedBy_64 ?_
      refine v_iload (pc := 66) 1 rfl dX11_plannedBy_66 ?_
      refine v_if_ne (pc := 68) 75 dX11_plannedBy_68 (by decide) (by unfold iB; omega) (fun c_5 => ?_) (fun c_5 => ?_)
      · skip
        refine v_aload_n (pc := 75) 4 rfl dX11_plannedBy_75 ?_
        refine v_iload_n (pc := 76) 6 rfl dX11_plannedBy_76 ?_
        refine v_iload (pc := 77) 2 rfl dX11_plannedBy_77 ?_
        refine v_callS (pc := 79) [] [] [] (As := [ai sc, ai (5 * (k + 1))]) (rest := [ar mo]) (c_J9_max_7cf53 sc (5 * (k + 1)) (by first | omega | assumption) (by first | omega | assumption)) wl_X11_191 ws_J9_max_7cf53 wk_J9_max_7cf53 wz_J9 md_J9_max_7cf53 rfl (Nat.le_of_ble_eq_true rfl) ⟨Nat.le_of_ble_eq_true rfl, Nat.le_of_ble_eq_true rfl, Nat.le_of_ble_eq_true rfl, Nat.le_of_ble_eq_true rfl⟩ rfl rfl rfl rfl (by decide) ro_nil dX11_plannedBy_79 (fun u hu => ?_)
        show V x cX11_plannedBy RX11 13 (rmU 5 180 0 0) [] 82 [(10, ai (r + 1)), (9, ai o), (8, ai (5 * (k + 1))), (7, ai ((r * 12) + k)), (0, ar mo), (1, ai k), (2, ai sc), (3, ai r), (4, ai 3), (5, al mi)] [ai (if sc < (5 * (k + 1)) then (5 * (k + 1)) else sc), ar mo] 0 0
        refine v_iload (pc := 82) 0 rfl dX11_plannedBy_82 ?_
        refine v_iload (pc := 84) 8 rfl dX11_plannedBy_84 ?_
        refine v_iconst (pc := 86) dX11_plannedBy_86 ?_
        refine v_isub (pc := 87) dX11_plannedBy_87 ?_
        refine v_callV (pc := 88) [] [] [] (As := [ai (if sc < (5 * (k + 1)) then (5 * (k + 1)) else sc), ai (r + 1), ai 2]) (rest := []) (c_X11_planned_d2 mo kw pi ta ms pt po hi nw f p T po0 (if sc < (5 * (k + 1)) then (5 * (k + 1)) else sc) (r + 1) (by assumption) (by first | omega | assumption) (by omega) (by assumption) (by first | omega | assumption) (by omega)) (c := 11) rfl (Or.inl r0) wl_X11_202 wi_X11_planned wv_X11_X11_planned_X11_planned wk_X11_planned wz_X11 md_X11_planned rfl (Nat.le_of_ble_eq_true rfl) ⟨Nat.le_of_ble_eq_true rfl, Nat.le_of_ble_eq_true rfl, Nat.le_of_ble_eq_true rfl, Nat.le_of_ble_eq_true rfl⟩ rfl rfl rfl rfl (by decide) (ro_cons (Or.inl r0) (ro_cons (Or.inl r1) ro_nil)) dX11_plannedBy_88 (fun u hu => ?_)
        show V x cX11_plannedBy RX11 13 (rmU 5 180 0 0) [] 91 [(10, ai (r + 1)), (9, ai o), (8, ai (5 * (k + 1))), (7, ai ((r * 12) + k)), (0, ar mo), (1, ai k), (2, ai sc), (3, ai r), (4, ai 3), (5, al mi)] [al (plN (kPB f p) 2 (if sc < (5 * (k + 1)) then (5 * (k + 1)) else sc) (skr (f (19 + p)) (r + 1)))] 0 0
        refine v_lstore (pc := 91) (L2 := [(11, al (plN (kPB f p) 2 (if sc < (5 * (k + 1)) then (5 * (k + 1)) else sc) (skr (f (19 + p)) (r + 1)))), (10, ai (r + 1)), (9, ai o), (8, ai (5 * (k + 1))), (7, ai ((r * 12) + k)), (0, ar mo), (1, ai k), (2, ai sc), (3, ai r), (4, ai 3), (5, al mi)]) rfl (by decide) dX11_plannedBy_91 ?_
        refine v_iload (pc := 93) 2 rfl dX11_plannedBy_93 ?_
        refine v_i2l (pc := 95) (by unfold iB; omega) dX11_plannedBy_95 ?_
        refine v_lload (pc := 96) 0 rfl dX11_plannedBy_96 ?_
        refine v_lmul (pc := 98) dX11_plannedBy_98 ?_
        refine v_bipush (pc := 99) dX11_plannedBy_99 (by decide) ?_
        refine v_iload (pc := 101) 2 rfl dX11_plannedBy_101 ?_
        refine v_isub (pc := 103) dX11_plannedBy_103 ?_
        refine v_i2l (pc := 104) (by unfold iB; omega) dX11_plannedBy_104 ?_
        refine v_lload (pc := 105) 10 rfl dX11_plannedBy_105 ?_
        refine v_lmul (pc := 107) dX11_plannedBy_107 ?_
        refine v_ladd (pc := 108) dX11_plannedBy_108 ?_
        exact hret () _ _ _ _ _ _ trivial (congrArg (fun z => some (al z)) (by rw [hmi]; unfold plV; rw [← ho, show (if sc < 5 * k + 5 then 5 * k + 5 else sc) = (if sc < 5 * (k + 1) then 5 * (k + 1) else sc) by (split <;> split <;> omega), skr_ls hf3 hr.1, show 5 * k + 5 = 5 * (k + 1) by omega]; first | (rw [if_pos (show -5 ≤ 5 * (k + 1) - sc ∧ 5 * (k + 1) - sc ≤ 5 by omega)]; done) | (rw [if_neg (show ¬ (-5 ≤ 5 * (k + 1) - sc ∧ 5 * (k + 1) - sc ≤ 5) by omega)]; done) | (rw [show o = 0 by omega, Int.zero_mul, Int.zero_mul]))) rfl (Nat.le_of_ble_eq_true rfl) (Nat.le_of_ble_eq_true rfl) dX11_plannedBy_109
      · skip
        refine v_lconst0 (pc := 71) dX11_plannedBy_71 ?_
        refine v_goto (pc := 72) 91 dX11_plannedBy_72 (by decide) ?_
        refine v_lstore (pc := 91) (L2 := [(11, al 0), (10, ai (r + 1)), (9, ai o), (8, ai (5 * (k + 1))), (7, ai ((r * 12) + k)), (0, ar mo), (1, ai k), (2, ai sc), (3, ai r), (4, ai 3), (5, al mi)]) rfl (by decide) dX11_plannedBy_91 ?_
        refine v_iload (pc := 93) 2 rfl dX11_plannedBy_93 ?_
        refine v_i2l (pc := 95) (by unfold iB; omega) dX11_plannedBy_95 ?_
        refine v_lload (pc := 96) 0 rfl dX11_plannedBy_96 ?_
        refine v_lmul (pc := 98) dX11_plannedBy_98 ?_
        refine v_bipush (pc := 99) dX11_plannedBy_99 (by decide) ?_
        refine v_iload (pc := 101) 2 rfl dX11_plannedBy_101 ?_
        refine v_isub (pc := 103) dX11_plannedBy_103 ?_
        refine v_i2l (pc := 104) (by unfold iB; omega) dX11_plannedBy_104 ?_
        refine v_lload (pc := 105) 10 rfl dX11_plannedBy_105 ?_
        refine v_lmul (pc := 107) dX11_plannedBy_107 ?_
        refine v_ladd (pc := 108) dX11_plannedBy_108 ?_
        exact hret () _ _ _ _ _ _ trivial (congrArg (fun z => some (al z)) (by rw [hmi]; unfold plV; rw [← ho, show (if sc < 5 * k + 5 then 5 * k + 5 else sc) = (if sc < 5 * (k + 1) then 5 * (k + 1) else sc) by (split <;> split <;> omega), skr_ls hf3 hr.1, show 5 * k + 5 = 5 * (k + 1) by omega]; first | (rw [if_pos (show -5 ≤ 5 * (k + 1) - sc ∧ 5 * (k + 1) - sc ≤ 5 by omega)]; done) | (rw [if_neg (show ¬ (-5 ≤ 5 * (k + 1) - sc ∧ 5 * (k + 1) - sc ≤ 5) by omega)]; done) | (rw [show o = 0 by omega, Int.zero_mul, Int.zero_mul]))) rfl (Nat.le_of_ble_eq_true rfl) (Nat.le_of_ble_eq_true rfl) dX11_plannedBy_109
  · skip
    exfalso; omega
set_option maxHeartbeats 4000000 in
set_option maxRecDepth 100000 in
theorem c_X11_planned_d3 {gS : sG} (mo : Nat) (kw : Nat) (pi : Nat) (ta : Nat) (ms : Nat) (pt : Nat) (po : Nat) (hi : Int) (nw : Nat) (f : Int → Int) (p : Int) (T : Int) (po0 : Int → Int) (sc : Int) (r : Int) (hS : SOK f) (hp : 0 ≤ p ∧ p < 6) (hsc : 0 ≤ sc ∧ sc ≤ 99) (hpo : pOK f p T po0) (hT : T ≤ 3) (hr : 0 ≤ r ∧ r + 3 ≤ T) : Ct gS (S := Unit) yX11_planned cX11_planned 9 (some .long) 6 212 0 0 [ar mo, ai sc, ai r, ai 3] [] (fun q => q ∈ ([(mo, co 11 [ar nw, ar kw, ar pi, ar ta, ar ms, ar pt, ar po, ai hi]), (po, cn 0 36 po0)] : aW)) (fun _ => True) (fun _ => some (al (plN (kPB f p) 3 sc (skr (f (19 + p)) r)))) (fun _ => []) := by
  refine ct_L RX11 [(0, ar mo), (1, ai sc), (2, ai r), (3, ai 3)] (by decide) rfl (Nat.le_of_ble_eq_true rfl) rfl (fun x hgS hro hret => ?_)
  subst hgS
  have r0 := hro _ (mem_at 0 rfl)
  have r1 := hro _ (mem_at 1 rfl)
  obtain ⟨⟨hg0, hg1, hg2, hg3, hg4, hg5, hg6, hg7⟩, hSp, hSh, hSs, hSb, hSt, hSw⟩ := id hS
  obtain ⟨hpp, hf1, hf2, hf3, hf4, hf5, hf6, hf7, hf8⟩ := hSp p hp.1 hp.2
  have hvb : ∀ k : Int, 0 ≤ k → k < ((12 : Nat) : Int) → 0 ≤ (plV (kPB f p) (plN (kPB f p) 2) sc (skr (f (19 + p)) r)) k ∧ (plV (kPB f p) (plN (kPB f p) 2) sc (skr (f (19 + p)) r)) k ≤ 10 * (99 * 10 ^ 2) := fun k k0 k1 => plV_b (fun _ _ => kPB_b) (fun a b c d => plN_b (fun _ _ => kPB_b) 2 a b c d) hsc ⟨k0, k1⟩
  have hbd := bst_bd 12 (by decide) hvb
  show V x cX11_planned RX11 9 (rmU 6 212 0 0) [] 0 [(0, ar mo), (1, ai sc), (2, ai r), (3, ai 3)] [] 0 0
  refine v_iload_n (pc := 0) 3 rfl dX11_planned_0 ?_
  refine v_if_gt (pc := 1) 7 dX11_planned_1 (by decide) (by unfold iB; omega) (fun c_1 => ?_) (fun c_1 => by exfalso; omega)
  refine v_aload_n (pc := 7) 0 rfl dX11_planned_7 ?_
  refine v_iload_n (pc := 8) 1 rfl dX11_planned_8 ?_
  refine v_iload_n (pc := 9) 2 rfl dX11_planned_9 ?_
  refine v_iload_n (pc := 10) 3 rfl dX11_planned_10 ?_
  refine v_iconst (pc := 11) dX11_planned_11 ?_
  refine v_isub (pc := 12) dX11_planned_12 ?_
  refine v_callV (pc := 13) [] [] [] (As := [ai sc, ai r, ai 2]) (rest := []) (c_X11_planned_d2 mo kw pi ta ms pt po hi nw f p T po0 sc r (by assumption) (by first | omega | assumption) (by first | omega | assumption) (by assumption) (by first | omega | assumption) (by omega)) (c := 11) rfl (Or.inl r0) wl_X11_202 wi_X11_planned wv_X11_X11_planned_X11_planned wk_X11_planned wz_X11 md_X11_planned rfl (Nat.le_of_ble_eq_true rfl) ⟨Nat.le_of_ble_eq_true rfl, Nat.le_of_ble_eq_true rfl, Nat.le_of_ble_eq_true rfl, Nat.le_of_ble_eq_true rfl⟩ rfl rfl rfl rfl (by decide) (ro_cons (Or.inl r0) (ro_cons (Or.inl r1) ro_nil)) dX11_planned_13 (fun u hu => ?_)
  show V x cX11_planned RX11 9 (rmU 6 212 0 0) [] 16 [(0, ar mo), (1, ai sc), (2, ai r), (3, ai 3)] [al (plN (kPB f p) 2 sc (skr (f (19 + p)) r))] 0 0
  refine v_lstore (pc := 16) (L2 := [(4, al (plN (kPB f p) 2 sc (skr (f (19 + p)) r))), (0, ar mo), (1, ai sc), (2, ai r), (3, ai 3)]) rfl (by decide) dX11_planned_16 ?_
  refine v_lconst0 (pc := 18) dX11_planned_18 ?_
  refine v_lstore (pc := 19) (L2 := [(6, al 0), (4, al (plN (kPB f p) 2 sc (skr (f (19 + p)) r))), (0, ar mo), (1, ai sc), (2, ai r), (3, ai 3)]) rfl (by decide) dX11_planned_19 ?_
  refine v_iconst (pc := 21) dX11_planned_21 ?_
  refine v_istore (pc := 22) (L2 := [(8, ai 0), (6, al 0), (4, al (plN (kPB f p) 2 sc (skr (f (19 + p)) r))), (0, ar mo), (1, ai sc), (2, ai r), (3, ai 3)]) rfl (by decide) dX11_planned_22 ?_
  have lp24 : ∀ (mm : Nat) (k : Int) (mx : Int), (12 - k).toNat = mm → (0 ≤ k ∧ k ≤ 12) → (mx = (if k = 0 then 0 else (bst (plV (kPB f p) (plN (kPB f p) 2) sc (skr (f (19 + p)) r)) k.toNat).1)) → V x cX11_planned RX11 9 (rmU 6 212 0 0) [] 24 [(0, ar mo), (1, ai sc), (2, ai r), (3, ai 3), (4, al (plN (kPB f p) 2 sc (skr (f (19 + p)) r))), (6, al mx), (8, ai k)] [] 0 0 := by
    intro mm
    induction mm using Nat.strongRecOn with
    | _ mm ih =>
      intro k mx hmm hk hmx
      have hmb2 : 0 ≤ mx ∧ mx ≤ 10 * (99 * 10 ^ 2) := by rw [hmx]; split; exact ⟨by decide, by decide⟩; have q := hbd k.toNat (by omega); exact ⟨(q.2.2 (by omega)).1, q.2.1⟩
      have hk0 : k = 0 → (bst (plV (kPB f p) (plN (kPB f p) 2) sc (skr (f (19 + p)) r)) k.toNat).1 = -1 := fun q => by subst q; rfl
      refine v_iload (pc := 24) 6 rfl dX11_planned_24 ?_
      refine v_bipush (pc := 26) dX11_planned_26 (by decide) ?_
      refine v_icmp_ge (pc := 28) 55 dX11_planned_28 (by decide) (by unfold iB; omega) (by unfold iB; omega) (fun c_2 => ?_) (fun c_2 => ?_)
      · skip
        refine v_lload (pc := 55) 5 rfl dX11_planned_55 ?_
        exact hret () _ _ _ _ _ _ trivial (congrArg (fun z => some (al z)) (by rw [hmx, if_neg (by omega), show k.toNat = 12 by omega]; rfl)) rfl (Nat.le_of_ble_eq_true rfl) (Nat.le_of_ble_eq_true rfl) dX11_planned_57
      · skip
        refine v_lload (pc := 31) 5 rfl dX11_planned_31 ?_
        refine v_aload_n (pc := 33) 0 rfl dX11_planned_33 ?_
        refine v_iload (pc := 34) 6 rfl dX11_planned_34 ?_
        refine v_iload_n (pc := 36) 1 rfl dX11_planned_36 ?_
        refine v_iload_n (pc := 37) 2 rfl dX11_planned_37 ?_
        refine v_iload_n (pc := 38) 3 rfl dX11_planned_38 ?_
        refine v_lload (pc := 39) 4 rfl dX11_planned_39 ?_
        refine v_callV (pc := 41) [] [] [] (As := [ai k, ai sc, ai r, ai 3, al (plN (kPB f p) 2 sc (skr (f (19 + p)) r))]) (rest := [al mx]) (c_X11_plannedBy_d3 mo kw pi ta ms pt po hi nw f p T po0 k sc r (plN (kPB f p) 2 sc (skr (f (19 + p)) r)) (by assumption) (by first | omega | assumption) (by first | omega | assumption) (by assumption) (by first | omega | assumption) (by first | omega | assumption) (by first | omega | assumption) (by first | omega | assumption)) (c := 11) rfl (Or.inl r0) wl_X11_212 wi_X11_plannedBy wv_X11_X11_plannedBy_X11_plannedBy wk_X11_plannedBy wz_X11 md_X11_plannedBy rfl (Nat.le_of_ble_eq_true rfl) ⟨Nat.le_of_ble_eq_true rfl, Nat.le_of_ble_eq_true rfl, Nat.le_of_ble_eq_true rfl, Nat.le_of_ble_eq_true rfl⟩ rfl rfl rfl rfl (by decide) (ro_cons (Or.inl r0) (ro_cons (Or.inl r1) ro_nil)) dX11_planned_41 (fun u hu => ?_)
        show V x cX11_planned RX11 9 (rmU 6 212 0 0) [] 44 [(0, ar mo), (1, ai sc), (2, ai r), (3, ai 3), (4, al (plN (kPB f p) 2 sc (skr (f (19 + p)) r))), (6, al mx), (8, ai k)] [al (plV (kPB f p) (plN (kPB f p) 2) sc (skr (f (19 + p)) r) k), al mx] 0 0
        have hvk := hvb k hk.1 (by omega)
        have hbs := bst_succ (plV (kPB f p) (plN (kPB f p) 2) sc (skr (f (19 + p)) r)) k.toNat
        rw [show ((k.toNat : Nat) : Int) = k by omega, show k.toNat + 1 = (k + 1).toNat by omega] at hbs
        have hbk := hbd k.toNat (by omega)
        refine v_callS (pc := 44) [] [] [] (As := [al mx, al (plV (kPB f p) (plN (kPB f p) 2) sc (skr (f (19 + p)) r) k)]) (rest := []) (c_J9_max_f86c9 mx (plV (kPB f p) (plN (kPB f p) 2) sc (skr (f (19 + p)) r) k) (by first | omega | assumption) (by first | omega | assumption)) wl_X11_294 ws_J9_max_f86c9 wk_J9_max_f86c9 wz_J9 md_J9_max_f86c9 rfl (Nat.le_of_ble_eq_true rfl) ⟨Nat.le_of_ble_eq_true rfl, Nat.le_of_ble_eq_true rfl, Nat.le_of_ble_eq_true rfl, Nat.le_of_ble_eq_true rfl⟩ rfl rfl rfl rfl (by decide) ro_nil dX11_planned_44 (fun u hu => ?_)
        show V x cX11_planned RX11 9 (rmU 6 212 0 0) [] 47 [(0, ar mo), (1, ai sc), (2, ai r), (3, ai 3), (4, al (plN (kPB f p) 2 sc (skr (f (19 + p)) r))), (6, al mx), (8, ai k)] [al (if mx < (plV (kPB f p) (plN (kPB f p) 2) sc (skr (f (19 + p)) r) k) then (plV (kPB f p) (plN (kPB f p) 2) sc (skr (f (19 + p)) r) k) else mx)] 0 0
        refine v_lstore (pc := 47) (L2 := [(6, al (if mx < (plV (kPB f p) (plN (kPB f p) 2) sc (skr (f (19 + p)) r) k) then (plV (kPB f p) (plN (kPB f p) 2) sc (skr (f (19 + p)) r) k) else mx)), (0, ar mo), (1, ai sc), (2, ai r), (3, ai 3), (4, al (plN (kPB f p) 2 sc (skr (f (19 + p)) r))), (8, ai k)]) rfl (by decide) dX11_planned_47 ?_
        refine v_iinc (pc := 49) 6 (L2 := [(8, ai (k + 1)), (6, al (if mx < (plV (kPB f p) (plN (kPB f p) 2) sc (skr (f (19 + p)) r) k) then (plV (kPB f p) (plN (kPB f p) 2) sc (skr (f (19 + p)) r) k) else mx)), (0, ar mo), (1, ai sc), (2, ai r), (3, ai 3), (4, al (plN (kPB f p) 2 sc (skr (f (19 + p)) r)))]) rfl rfl (by decide) dX11_planned_49 ?_
        refine v_goto (pc := 52) 24 dX11_planned_52 (by decide) ?_
        refine v_sub (L2 := [(0, ar mo), (1, ai sc), (2, ai r), (3, ai 3), (4, al (plN (kPB f p) 2 sc (skr (f (19 + p)) r))), (6, al (if mx < (plV (kPB f p) (plN (kPB f p) 2) sc (skr (f (19 + p)) r) k) then (plV (kPB f p) (plN (kPB f p) 2) sc (skr (f (19 + p)) r) k) else mx)), (8, ai (k + 1))]) [2, 3, 4, 5, 6, 1, 0] rfl ?_
        exact ih _ (by omega) (k + 1) (if mx < (plV (kPB f p) (plN (kPB f p) 2) sc (skr (f (19 + p)) r) k) then (plV (kPB f p) (plN (kPB f p) 2) sc (skr (f (19 + p)) r) k) else mx) rfl (by omega) (by rw [if_neg (show ¬ k + 1 = 0 by omega), hbs]; rcases Classical.em (k = 0) with q | q; (rw [if_pos (show (bst (plV (kPB f p) (plN (kPB f p) 2) sc (skr (f (19 + p)) r)) k.toNat).1 < (plV (kPB f p) (plN (kPB f p) 2) sc (skr (f (19 + p)) r)) k by have := hk0 q; omega), show mx = 0 by rw [hmx, if_pos q]]; show (if 0 < (plV (kPB f p) (plN (kPB f p) 2) sc (skr (f (19 + p)) r)) k then (plV (kPB f p) (plN (kPB f p) 2) sc (skr (f (19 + p)) r)) k else 0) = (plV (kPB f p) (plN (kPB f p) 2) sc (skr (f (19 + p)) r)) k; split <;> omega); (rw [hmx, if_neg q]; split <;> rfl))
  refine v_sub (L2 := [(0, ar mo), (1, ai sc), (2, ai r), (3, ai 3), (4, al (plN (kPB f p) 2 sc (skr (f (19 + p)) r))), (6, al 0), (8, ai 0)]) [3, 4, 5, 6, 2, 1, 0] rfl ?_
  exact lp24 _ 0 0 rfl (by omega) (by rfl)
