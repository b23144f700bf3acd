/-- what a new player is -/
theorem qPlayer_v {f : Int → Int} {k v s h u : Int} (h1 : 0 ≤ k ∧ k ≤ 6) (h2 : (0 ≤ v ∧ v ≤ 9) ∧ (0 ≤ s ∧ s ≤ 20) ∧ (1 ≤ h ∧ h ≤ 9) ∧ (0 ≤ u ∧ u ≤ 9999)) (h3 : 0 ≤ f 0 ∧ f 0 < 6) :
    (qPlayer f k v s h u).1 = f 0 ∧ (qPlayer f k v s h u).2 0 = f 0 + 1 ∧ (qPlayer f k v s h u).2 (7 + f 0) = k ∧ (qPlayer f k v s h u).2 (13 + f 0) = v ∧ (qPlayer f k v s h u).2 (19 + f 0) = s ∧ (qPlayer f k v s h u).2 (25 + f 0) = h ∧ (qPlayer f k v s h u).2 (31 + f 0) = 0 ∧ (qPlayer f k v s h u).2 (37 + f 0) = 0 ∧ (qPlayer f k v s h u).2 (43 + f 0) = u ∧ (∀ j : Int, 0 ≤ j → j < 4 → (qPlayer f k v s h u).2 (49 + 4 * f 0 + j) = 4) ∧
    ∀ j : Int, j ≠ 0 → j ≠ 7 + f 0 → j ≠ 13 + f 0 → j ≠ 19 + f 0 → j ≠ 25 + f 0 → j ≠ 31 + f 0 → j ≠ 37 + f 0 → j ≠ 43 + f 0 → (j < 49 + 4 * f 0 ∨ 53 + 4 * f 0 ≤ j) → (qPlayer f k v s h u).2 j = f j := by
  have e : qPlayer f k v s h u = (f 0, aup (plF (aup (aup (aup (aup (aup (aup (aup f (7 + f 0) k) (13 + f 0) v) (19 + f 0) s) (25 + f 0) h) (31 + f 0) 0) (37 + f 0) 0) (43 + f 0) u) (f 0) 4) 0 (f 0 + 1)) := by
    unfold qPlayer
    rw [if_neg (by omega), if_neg (by omega), if_neg (by omega)]
  rw [e]
  generalize f 0 = n at h3
  have hs : ∀ (G : Int → Int) (j : Int), 0 ≤ j → j < 4 → plF G n 4 (49 + 4 * n + j) = 4 := by
    intro G j j0 j1
    show aup (aup (aup (aup G (49 + 4 * n + ((0 : Nat) : Int)) 4) (49 + 4 * n + ((1 : Nat) : Int)) 4) (49 + 4 * n + ((2 : Nat) : Int)) 4) (49 + 4 * n + ((3 : Nat) : Int)) 4 (49 + 4 * n + j) = 4
    rcases (show j = 0 ∨ j = 1 ∨ j = 2 ∨ j = 3 by omega) with rfl | rfl | rfl | rfl
    · rw [aup_n _ _ (by omega), aup_n _ _ (by omega), aup_n _ _ (by omega)]; exact aup_s _ _ _
    · rw [aup_n _ _ (by omega), aup_n _ _ (by omega)]; exact aup_s _ _ _
    · rw [aup_n _ _ (by omega)]; exact aup_s _ _ _
    · exact aup_s _ _ _
  have ho : ∀ (G : Int → Int) (j : Int), (j < 49 + 4 * n ∨ 53 + 4 * n ≤ j) → plF G n 4 j = G j := by
    intro G j hj
    show aup (aup (aup (aup G (49 + 4 * n + ((0 : Nat) : Int)) 4) (49 + 4 * n + ((1 : Nat) : Int)) 4) (49 + 4 * n + ((2 : Nat) : Int)) 4) (49 + 4 * n + ((3 : Nat) : Int)) 4 j = G j
    rw [aup_n _ _ (by omega), aup_n _ _ (by omega), aup_n _ _ (by omega), aup_n _ _ (by omega)]
  dsimp only
  refine ⟨rfl, aup_s _ _ _, ?_, ?_, ?_, ?_, ?_, ?_, ?_, fun j j0 j1 => ?_, fun j j1 j2 j3 j4 j5 j6 j7 j8 j9 => ?_⟩
  · rw [aup_n _ _ (show (7 + n : Int) ≠ 0 by omega), ho _ _ (by omega), aup_n _ _ (show (7 + n : Int) ≠ 43 + n by omega), aup_n _ _ (show (7 + n : Int) ≠ 37 + n by omega), aup_n _ _ (show (7 + n : Int) ≠ 31 + n by omega), aup_n _ _ (show (7 + n : Int) ≠ 25 + n by omega), aup_n _ _ (show (7 + n : Int) ≠ 19 + n by omega), aup_n _ _ (show (7 + n : Int) ≠ 13 + n by omega), aup_s]
  · rw [aup_n _ _ (show (13 + n : Int) ≠ 0 by omega), ho _ _ (by omega), aup_n _ _ (show (13 + n : Int) ≠ 43 + n by omega), aup_n _ _ (show (13 + n : Int) ≠ 37 + n by omega), aup_n _ _ (show (13 + n : Int) ≠ 31 + n by omega), aup_n _ _ (show (13 + n : Int) ≠ 25 + n by omega), aup_n _ _ (show (13 + n : Int) ≠ 19 + n by omega), aup_s]
  · rw [aup_n _ _ (show (19 + n : Int) ≠ 0 by omega), ho _ _ (by omega), aup_n _ _ (show (19 + n : Int) ≠ 43 + n by omega), aup_n _ _ (show (19 + n : Int) ≠ 37 + n by omega), aup_n _ _ (show (19 + n : Int) ≠ 31 + n by omega), aup_n _ _ (show (19 + n : Int) ≠ 25 + n by omega), aup_s]
  · rw [aup_n _ _ (show (25 + n : Int) ≠ 0 by omega), ho _ _ (by omega), aup_n _ _ (show (25 + n : Int) ≠ 43 + n by omega), aup_n _ _ (show (25 + n : Int) ≠ 37 + n by omega), aup_n _ _ (show (25 + n : Int) ≠ 31 + n by omega), aup_s]
  · rw [aup_n _ _ (show (31 + n : Int) ≠ 0 by omega), ho _ _ (by omega), aup_n _ _ (show (31 + n : Int) ≠ 43 + n by omega), aup_n _ _ (show (31 + n : Int) ≠ 37 + n by omega), aup_s]
  · rw [aup_n _ _ (show (37 + n : Int) ≠ 0 by omega), ho _ _ (by omega), aup_n _ _ (show (37 + n : Int) ≠ 43 + n by omega), aup_s]
  · rw [aup_n _ _ (show (43 + n : Int) ≠ 0 by omega), ho _ _ (by omega), aup_s]
  · rw [aup_n _ _ (show (49 + 4 * n + j : Int) ≠ 0 by omega)]
    exact hs _ j j0 j1
  · rw [aup_n _ _ j1, ho _ _ j9, aup_n _ _ j8, aup_n _ _ j7, aup_n _ _ j6, aup_n _ _ j5, aup_n _ _ j4, aup_n _ _ j3, aup_n _ _ j2]
theorem qPlayer_n {f : Int → Int} {k v s h u : Int} (hn : ¬ ((0 ≤ k ∧ k ≤ 6) ∧ ((0 ≤ v ∧ v ≤ 9) ∧ (0 ≤ s ∧ s ≤ 20) ∧ (1 ≤ h ∧ h ≤ 9) ∧ (0 ≤ u ∧ u ≤ 9999)) ∧ f 0 ≠ 6)) : (qPlayer f k v s h u).2 = f ∧ (qPlayer f k v s h u).1 = (if ¬ (0 ≤ k ∧ k ≤ 6) then -1 else if ¬ ((0 ≤ v ∧ v ≤ 9) ∧ (0 ≤ s ∧ s ≤ 20) ∧ (1 ≤ h ∧ h ≤ 9) ∧ (0 ≤ u ∧ u ≤ 9999)) then -2 else -4) := by
  unfold qPlayer
  split
  · exact ⟨rfl, rfl⟩
  · split
    · exact ⟨rfl, rfl⟩
    · split
      · exact ⟨rfl, rfl⟩
      · exfalso; omega
/-- the players' row and the new cells behind the call -/
def plG (ta : Nat) (f f2 : Int → Int) (pv pv2 : Int → Option Nat) (nl : aW) : Prop := (f2 = f ∧ pv2 = pv ∧ nl = []) ∨ ∃ a b : Nat, (f 0 < 6 ∧ f2 0 = f 0 + 1 ∧ ∀ p : Int, 0 ≤ p → p < f 0 → f2 (7 + p) = f (7 + p) ∧ zpO ta f2 p = zpO ta f p ∧ tnF f2 p = tnF f p) ∧ pv2 = aupq pv (f 0) (some a) ∧ nl = zpW ta f2 (fun _ => a) (fun _ => b) (f 0)
set_option maxHeartbeats 4000000 in
set_option maxRecDepth 100000 in
theorem c_X11_image {gS : sG} (mo : Nat) (kw : Nat) (pi : Nat) (ta : Nat) (ms : Nat) (pt : Nat) (po : Nat) (hi : Int) (pls2 : Nat) (ins2 : Nat) (tap2 : Nat) (d3 : Nat) (d4 : Nat) (d5 : Nat) (d6 : Nat) (d7 : Nat) (d8 : Nat) (bar2 : Nat) (z0 : Int) (z1 : Int) (z2 : Int) (z3 : Int) (z4 : Int) (z5 : Int) (pv2 : Int → Option Nat) (iv2 : Int → Option Nat) (u0 : Int → Int) (u1 : Int → Int) (u2 : Int → Int) (u3 : Int → Int) (u4 : Int → Int) (u5 : Int → Int) (u6 : Int → Int) (nw : Nat) (pls : Nat) (ins : Nat) (tap : Nat) (e3 : Nat) (e4 : Nat) (e5 : Nat) (e6 : Nat) (e7 : Nat) (e8 : Nat) (bar : Nat) (pv : Int → Option Nat) (pl : Int → Nat) (tu : Int → Nat) (iv : Int → Option Nat) (il : aW) (f : Int → Int) (tp : Int → Int) (sp : Int → Int) (sm : Int → Int) (sf : Int → Int) (sc : Int → Int) (bp : Int → Int) (bm : Int → Int) (hS : SOK f) (hpv : ∀ j : Int, 0 ≤ j → j < 6 → pv j = if j < f 0 then some (pl j) else none) (hil : ∀ (j : Int) (b : Nat), 0 ≤ j → j < 5 → iv j = some b → ∃ fs, (b, co 3 fs) ∈ il) : Ct gS (S := (Int → Option Nat) × (Int → Option Nat) × (Int → Nat) × (Int → Nat)) yX11_image cX11_image 1 (some .int) 7 141 12 84 [ar mo] [(mo, co 11 [ar nw, ar kw, ar pi, ar ta, ar ms, ar pt, ar po, ai hi]), (kw, co 10 [ar pls2, ar ins2, ar tap2, ar d3, ar d4, ar d5, ar d6, ar d7, ar d8, ai z0, ai z1, ai z2, ai z3, ai z4, ai z5, ar bar2]), (pls2, cq 3 6 pv2), (ins2, cq 2 5 iv2), (tap2, cn 0 100 u0), (d3, cn 0 8 u1), (d4, cn 0 8 u2), (d5, cn 0 8 u3), (d6, cn 0 8 u4), (d7, cn 0 8 u5), (d8, cn 0 8 u6)] (fun q => q ∈ ([(nw, co 10 [ar pls, ar ins, ar tap, ar e3, ar e4, ar e5, ar e6, ar e7, ar e8, ai (f 0), ai (f 1), ai (f 4), ai (f 2), ai (f 3), ai (f 6), ar bar]), (pls, cq 3 6 pv), (ins, cq 2 5 iv), (tap, cn 0 100 tp), (e3, cn 0 8 sp), (e4, cn 0 8 sm), (e5, cn 0 8 sf), (e6, cn 0 8 sc), (e7, cn 0 8 bp), (e8, cn 0 8 bm)] : aW) ++ (zpA ta f pl tu ++ il)) (fun u => (∀ j : Int, 0 ≤ j → j < 6 → u.1 j = if j < f 0 then some (u.2.2.1 j) else none) ∧ ∀ j : Int, 0 ≤ j → j < 5 → u.2.1 j = iv j) (fun u => some (ai (f 0))) (fun u => ([(mo, co 11 [ar nw, ar kw, ar pi, ar ta, ar ms, ar pt, ar po, ai 1]), (kw, co 10 [ar pls2, ar ins2, ar tap2, ar d3, ar d4, ar d5, ar d6, ar d7, ar d8, ai (f 0), ai (f 1), ai (f 4), ai (f 2), ai (f 3), ai (f 6), ar bar2]), (pls2, cq 3 6 u.1), (ins2, cq 2 5 u.2.1), (tap2, cn 0 100 tp), (d3, cn 0 8 sp), (d4, cn 0 8 sm), (d5, cn 0 8 sf), (d6, cn 0 8 sc), (d7, cn 0 8 bp), (d8, cn 0 8 bm)] ++ zpS ta f u.2.2.1 u.2.2.2 (f 0).toNat)) := by
  refine ct_I RX11 [(0, ar mo)] (by decide) rfl (Nat.le_of_ble_eq_true rfl) rfl (fun x hgS hro hret => ?_)
  subst hgS
  have r0 := hro _ (List.mem_append_left _ (mem_at 0 rfl))
  have r1 := hro _ (List.mem_append_left _ (mem_at 1 rfl))
  have r2 := hro _ (List.mem_append_left _ (mem_at 2 rfl))
  have r3 := hro _ (List.mem_append_left _ (mem_at 3 rfl))
  have r4 := hro _ (List.mem_append_left _ (mem_at 4 rfl))
  have r5 := hro _ (List.mem_append_left _ (mem_at 5 rfl))
  have r6 := hro _ (List.mem_append_left _ (mem_at 6 rfl))
  have r7 := hro _ (List.mem_append_left _ (mem_at 7 rfl))
  have r8 := hro _ (List.mem_append_left _ (mem_at 8 rfl))
  have r9 := hro _ (List.mem_append_left _ (mem_at 9 rfl))
  have hra : ∀ q, q ∈ (zpA ta f pl tu ++ il) → Ro x q := fun q h => hro _ (List.mem_append_right _ h)
  obtain ⟨⟨hg0, hg1, hg2, hg3, hg4, hg5, hg6, hg7⟩, hSp, hSh, hSs, hSb, hSt, hSw⟩ := id hS
  show V x cX11_image RX11 1 (rmU 7 141 12 84) [(mo, co 11 [ar nw, ar kw, ar pi, ar ta, ar ms, ar pt, ar po, ai hi]), (kw, co 10 [ar pls2, ar ins2, ar tap2, ar d3, ar d4, ar d5, ar d6, ar d7, ar d8, ai z0, ai z1, ai z2, ai z3, ai z4, ai z5, ar bar2]), (pls2, cq 3 6 pv2), (ins2, cq 2 5 iv2), (tap2, cn 0 100 u0), (d3, cn 0 8 u1), (d4, cn 0 8 u2), (d5, cn 0 8 u3), (d6, cn 0 8 u4), (d7, cn 0 8 u5), (d8, cn 0 8 u6)] 0 [(0, ar mo)] [] 0 0
  refine v_aload_n (pc := 0) 0 rfl dX11_image_0 ?_
  refine v_get (pc := 1) (v := ar kw) 1 (Or.inr ⟨0, rfl⟩) fl_11_18_11 rfl dX11_image_1 ?_
  refine v_aload_n (pc := 4) 0 rfl dX11_image_4 ?_
  refine v_get (pc := 5) (v := ar nw) 0 (Or.inr ⟨0, rfl⟩) fl_11_12_11 rfl dX11_image_5 ?_
  refine v_callV (pc := 8) [1, 2, 3, 4, 5, 6, 7, 8, 9, 10] [0] [(mo, co 11 [ar nw, ar kw, ar pi, ar ta, ar ms, ar pt, ar po, ai hi])] (As := [ar nw]) (rest := []) (c_X10_copyFrom kw pls2 ins2 tap2 d3 d4 d5 d6 d7 d8 bar2 z0 z1 z2 z3 z4 z5 pv2 iv2 u0 u1 u2 u3 u4 u5 u6 nw pls ins tap e3 e4 e5 e6 e7 e8 bar ta pv pl tu iv il f tp sp sm sf sc bp bm (by assumption) (by assumption) (by assumption)) (c := 10) rfl (Or.inr ⟨1, rfl⟩) wl_X11_282 wi_X10_copyFrom wv_X10_X10_copyFrom_X10_copyFrom wk_X10_copyFrom wz_X10 md_X10_copyFrom rfl (Nat.le_of_ble_eq_true rfl) ⟨Nat.le_of_ble_eq_true rfl, Nat.le_of_ble_eq_true rfl, Nat.le_of_ble_eq_true rfl, Nat.le_of_ble_eq_true rfl⟩ rfl rfl rfl rfl (by decide) (ro_app (ro_cons (Or.inl r0) (ro_cons (Or.inl r1) (ro_cons (Or.inl r2) (ro_cons (Or.inl r3) (ro_cons (Or.inl r4) (ro_cons (Or.inl r5) (ro_cons (Or.inl r6) (ro_cons (Or.inl r7) (ro_cons (Or.inl r8) (ro_cons (Or.inl r9) ro_nil)))))))))) (fun q h => Or.inl (hra q h))) dX11_image_8 (fun u hu => ?_)
  obtain ⟨pv3_1, iv3_2, p2_3, t2_4⟩ := u
  have g_5 : (∀ j : Int, 0 ≤ j → j < 6 → pv3_1 j = if j < f 0 then some (p2_3 j) else none) ∧ ∀ j : Int, 0 ≤ j → j < 5 → iv3_2 j = iv j := hu
  show V x cX11_image RX11 1 (rmU 7 141 12 84) ([(mo, co 11 [ar nw, ar kw, ar pi, ar ta, ar ms, ar pt, ar po, ai hi]), (kw, co 10 [ar pls2, ar ins2, ar tap2, ar d3, ar d4, ar d5, ar d6, ar d7, ar d8, ai (f 0), ai (f 1), ai (f 4), ai (f 2), ai (f 3), ai (f 6), ar bar2]), (pls2, cq 3 6 pv3_1), (ins2, cq 2 5 iv3_2), (tap2, cn 0 100 tp), (d3, cn 0 8 sp), (d4, cn 0 8 sm), (d5, cn 0 8 sf), (d6, cn 0 8 sc), (d7, cn 0 8 bp), (d8, cn 0 8 bm)] ++ zpS ta f p2_3 t2_4 (f 0).toNat) 11 [(0, ar mo)] [] 12 84
  refine v_aload_n (pc := 11) 0 rfl dX11_image_11 ?_
  refine v_iconst (pc := 12) dX11_image_12 ?_
  refine v_put (pc := 13) 7 0 rfl fl_11_286_11 ck_11 ft_11_7 okV_z1 (Nat.le_of_ble_eq_true rfl) (ws2 := ([(mo, co 11 [ar nw, ar kw, ar pi, ar ta, ar ms, ar pt, ar po, ai 1]), (kw, co 10 [ar pls2, ar ins2, ar tap2, ar d3, ar d4, ar d5, ar d6, ar d7, ar d8, ai (f 0), ai (f 1), ai (f 4), ai (f 2), ai (f 3), ai (f 6), ar bar2]), (pls2, cq 3 6 pv3_1), (ins2, cq 2 5 iv3_2), (tap2, cn 0 100 tp), (d3, cn 0 8 sp), (d4, cn 0 8 sm), (d5, cn 0 8 sf), (d6, cn 0 8 sc), (d7, cn 0 8 bp), (d8, cn 0 8 bm)] ++ zpS ta f p2_3 t2_4 (f 0).toNat)) rfl dX11_image_13 ?_
  refine v_aload_n (pc := 16) 0 rfl dX11_image_16 ?_
  refine v_get (pc := 17) (v := ar nw) 0 (Or.inr ⟨0, rfl⟩) fl_11_12_11 rfl dX11_image_17 ?_
  refine v_get (pc := 20) (v := ai (f 0)) 9 (Or.inl r0) fl_11_71_10 rfl dX11_image_20 ?_
  exact hret (pv3_1, iv3_2, p2_3, t2_4) _ _ _ _ _ _ (by exact g_5) (congrArg (fun z => some (ai z)) (by rfl)) rfl (Nat.le_of_ble_eq_true rfl) (Nat.le_of_ble_eq_true rfl) dX11_image_23
set_option maxHeartbeats 4000000 in
set_option maxRecDepth 100000 in
theorem c_X11_undo_0 {gS : sG} (mo : Nat) (kw : Nat) (pi : Nat) (ta : Nat) (ms : Nat) (pt : Nat) (po : Nat) (hi : Int) (nw : Nat) : Ct gS (S := Unit) yX11_undo cX11_undo 1 (some .int) 7 141 12 84 [ar mo] [] (fun q => q ∈ ([(mo, co 11 [ar nw, ar kw, ar pi, ar ta, ar ms, ar pt, ar po, ai 0])] : aW)) (fun _ => True) (fun _ => some (ai (-3))) (fun _ => []) := by
  refine ct_I RX11 [(0, ar mo)] (by decide) rfl (Nat.le_of_ble_eq_true rfl) rfl (fun x hgS hro hret => ?_)
  subst hgS
  have r0 := hro _ (mem_at 0 rfl)
  show V x cX11_undo RX11 1 (rmU 7 141 12 84) [] 0 [(0, ar mo)] [] 0 0
  refine v_aload_n (pc := 0) 0 rfl dX11_undo_0 ?_
  refine v_get (pc := 1) (v := ai 0) 7 (Or.inl r0) fl_11_286_11 rfl dX11_undo_1 ?_
  refine v_if_ne (pc := 4) 10 dX11_undo_4 (by decide) (by unfold iB; omega) (fun c_1 => by exfalso; omega) (fun c_1 => ?_)
  refine v_bipush (pc := 7) dX11_undo_7 (by decide) ?_
  exact hret () _ _ _ _ _ _ trivial (congrArg (fun z => some (ai z)) (by rfl)) rfl (Nat.le_of_ble_eq_true rfl) (Nat.le_of_ble_eq_true rfl) dX11_undo_9
set_option maxHeartbeats 4000000 in
set_option maxRecDepth 100000 in
theorem c_X11_undo_1 {gS : sG} (mo : Nat) (kw : Nat) (pi : Nat) (ta : Nat) (ms : Nat) (pt : Nat) (po : Nat) (hi : Int) (nw : Nat) (pls2 : Nat) (ins2 : Nat) (tap2 : Nat) (d3 : Nat) (d4 : Nat) (d5 : Nat) (d6 : Nat) (d7 : Nat) (d8 : Nat) (bar2 : Nat) (z0 : Int) (z1 : Int) (z2 : Int) (z3 : Int) (z4 : Int) (z5 : Int) (pv2 : Int → Option Nat) (iv2 : Int → Option Nat) (u0 : Int → Int) (u1 : Int → Int) (u2 : Int → Int) (u3 : Int → Int) (u4 : Int → Int) (u5 : Int → Int) (u6 : Int → Int) (pls : Nat) (ins : Nat) (tap : Nat) (e3 : Nat) (e4 : Nat) (e5 : Nat) (e6 : Nat) (e7 : Nat) (e8 : Nat) (bar : Nat) (pv : Int → Option Nat) (pl : Int → Nat) (tu : Int → Nat) (iv : Int → Option Nat) (il : aW) (f : Int → Int) (tp : Int → Int) (sp : Int → Int) (sm : Int → Int) (sf : Int → Int) (sc : Int → Int) (bp : Int → Int) (bm : Int → Int) (hS : SOK f) (hpv : ∀ j : Int, 0 ≤ j → j < 6 → pv j = if j < f 0 then some (pl j) else none) (hil : ∀ (j : Int) (b : Nat), 0 ≤ j → j < 5 → iv j = some b → ∃ fs, (b, co 3 fs) ∈ il) : Ct gS (S := (Int → Option Nat) × (Int → Option Nat) × (Int → Nat) × (Int → Nat)) yX11_undo cX11_undo 1 (some .int) 7 141 12 84 [ar mo] [(nw, co 10 [ar pls2, ar ins2, ar tap2, ar d3, ar d4, ar d5, ar d6, ar d7, ar d8, ai z0, ai z1, ai z2, ai z3, ai z4, ai z5, ar bar2]), (pls2, cq 3 6 pv2), (ins2, cq 2 5 iv2), (tap2, cn 0 100 u0), (d3, cn 0 8 u1), (d4, cn 0 8 u2), (d5, cn 0 8 u3), (d6, cn 0 8 u4), (d7, cn 0 8 u5), (d8, cn 0 8 u6)] (fun q => q ∈ ([(mo, co 11 [ar nw, ar kw, ar pi, ar ta, ar ms, ar pt, ar po, ai 1]), (kw, co 10 [ar pls, ar ins, ar tap, ar e3, ar e4, ar e5, ar e6, ar e7, ar e8, ai (f 0), ai (f 1), ai (f 4), ai (f 2), ai (f 3), ai (f 6), ar bar]), (pls, cq 3 6 pv), (ins, cq 2 5 iv), (tap, cn 0 100 tp), (e3, cn 0 8 sp), (e4, cn 0 8 sm), (e5, cn 0 8 sf), (e6, cn 0 8 sc), (e7, cn 0 8 bp), (e8, cn 0 8 bm)] : aW) ++ (zpA ta f pl tu ++ il)) (fun u => (∀ j : Int, 0 ≤ j → j < 6 → u.1 j = if j < f 0 then some (u.2.2.1 j) else none) ∧ ∀ j : Int, 0 ≤ j → j < 5 → u.2.1 j = iv j) (fun u => some (ai (f 0))) (fun u => ([(nw, co 10 [ar pls2, ar ins2, ar tap2, ar d3, ar d4, ar d5, ar d6, ar d7, ar d8, ai (f 0), ai (f 1), ai (f 4), ai (f 2), ai (f 3), ai (f 6), ar bar2]), (pls2, cq 3 6 u.1), (ins2, cq 2 5 u.2.1), (tap2, cn 0 100 tp), (d3, cn 0 8 sp), (d4, cn 0 8 sm), (d5, cn 0 8 sf), (d6, cn 0 8 sc), (d7, cn 0 8 bp), (d8, cn 0 8 bm)] ++ zpS ta f u.2.2.1 u.2.2.2 (f 0).toNat)) := by
  refine ct_I RX11 [(0, ar mo)] (by decide) rfl (Nat.le_of_ble_eq_true rfl) rfl (fun x hgS hro hret => ?_)
  subst hgS
  have r0 := hro _ (List.mem_append_left _ (mem_at 0 rfl))
  have r1 := hro _ (List.mem_append_left _ (mem_at 1 rfl))
  have r2 := hro _ (List.mem_append_left _ (mem_at 2 rfl))
  have r3 := hro _ (List.mem_append_left _ (mem_at 3 rfl))
  have r4 := hro _ (List.mem_append_left _ (mem_at 4 rfl))
  have r5 := hro _ (List.mem_append_left _ (mem_at 5 rfl))
  have r6 := hro _ (List.mem_append_left _ (mem_at 6 rfl))
  have r7 := hro _ (List.mem_append_left _ (mem_at 7 rfl))
  have r8 := hro _ (List.mem_append_left _ (mem_at 8 rfl))
  have r9 := hro _ (List.mem_append_left _ (mem_at 9 rfl))
  have r10 := hro _ (List.mem_append_left _ (mem_at 10 rfl))
  have hra : ∀ q, q ∈ (zpA ta f pl tu ++ il) → Ro x q := fun q h => hro _ (List.mem_append_right _ h)
  obtain ⟨⟨hg0, hg1, hg2, hg3, hg4, hg5, hg6, hg7⟩, hSp, hSh, hSs, hSb, hSt, hSw⟩ := id hS
  show V x cX11_undo RX11 1 (rmU 7 141 12 84) [(nw, co 10 [ar pls2, ar ins2, ar tap2, ar d3, ar d4, ar d5, ar d6, ar d7, ar d8, ai z0, ai z1, ai z2, ai z3, ai z4, ai z5, ar bar2]), (pls2, cq 3 6 pv2), (ins2, cq 2 5 iv2), (tap2, cn 0 100 u0), (d3, cn 0 8 u1), (d4, cn 0 8 u2), (d5, cn 0 8 u3), (d6, cn 0 8 u4), (d7, cn 0 8 u5), (d8, cn 0 8 u6)] 0 [(0, ar mo)] [] 0 0
  refine v_aload_n (pc := 0) 0 rfl dX11_undo_0 ?_
  refine v_get (pc := 1) (v := ai 1) 7 (Or.inl r0) fl_11_286_11 rfl dX11_undo_1 ?_
  refine v_if_ne (pc := 4) 10 dX11_undo_4 (by decide) (by unfold iB; omega) (fun c_1 => ?_) (fun c_1 => by exfalso; omega)
  refine v_aload_n (pc := 10) 0 rfl dX11_undo_10 ?_
  refine v_get (pc := 11) (v := ar nw) 0 (Or.inl r0) fl_11_12_11 rfl dX11_undo_11 ?_
  refine v_aload_n (pc := 14) 0 rfl dX11_undo_14 ?_
  refine v_get (pc := 15) (v := ar kw) 1 (Or.inl r0) fl_11_18_11 rfl dX11_undo_15 ?_
  refine v_callV (pc := 18) [0, 1, 2, 3, 4, 5, 6, 7, 8, 9] [] [] (As := [ar kw]) (rest := []) (c_X10_copyFrom nw pls2 ins2 tap2 d3 d4 d5 d6 d7 d8 bar2 z0 z1 z2 z3 z4 z5 pv2 iv2 u0 u1 u2 u3 u4 u5 u6 kw pls ins tap e3 e4 e5 e6 e7 e8 bar ta pv pl tu iv il f tp sp sm sf sc bp bm (by assumption) (by assumption) (by assumption)) (c := 10) rfl (Or.inr ⟨0, rfl⟩) wl_X11_282 wi_X10_copyFrom wv_X10_X10_copyFrom_X10_copyFrom wk_X10_copyFrom wz_X10 md_X10_copyFrom rfl (Nat.le_of_ble_eq_true rfl) ⟨Nat.le_of_ble_eq_true rfl, Nat.le_of_ble_eq_true rfl, Nat.le_of_ble_eq_true rfl, Nat.le_of_ble_eq_true rfl⟩ rfl rfl rfl rfl (by decide) (ro_app (ro_cons (Or.inl r1) (ro_cons (Or.inl r2) (ro_cons (Or.inl r3) (ro_cons (Or.inl r4) (ro_cons (Or.inl r5) (ro_cons (Or.inl r6) (ro_cons (Or.inl r7) (ro_cons (Or.inl r8) (ro_cons (Or.inl r9) (ro_cons (Or.inl r10) ro_nil)))))))))) (fun q h => Or.inl (hra q h))) dX11_undo_18 (fun u hu => ?_)
  obtain ⟨pv3_2, iv3_3, p2_4, t2_5⟩ := u
  have g_6 : (∀ j : Int, 0 ≤ j → j < 6 → pv3_2 j = if j < f 0 then some (p2_4 j) else none) ∧ ∀ j : Int, 0 ≤ j → j < 5 → iv3_3 j = iv j := hu
  show V x cX11_undo RX11 1 (rmU 7 141 12 84) ([(nw, co 10 [ar pls2, ar ins2, ar tap2, ar d3, ar d4, ar d5, ar d6, ar d7, ar d8, ai (f 0), ai (f 1), ai (f 4), ai (f 2), ai (f 3), ai (f 6), ar bar2]), (pls2, cq 3 6 pv3_2), (ins2, cq 2 5 iv3_3), (tap2, cn 0 100 tp), (d3, cn 0 8 sp), (d4, cn 0 8 sm), (d5, cn 0 8 sf), (d6, cn 0 8 sc), (d7, cn 0 8 bp), (d8, cn 0 8 bm)] ++ zpS ta f p2_4 t2_5 (f 0).toNat) 21 [(0, ar mo)] [] 12 84
  refine v_aload_n (pc := 21) 0 rfl dX11_undo_21 ?_
  refine v_get (pc := 22) (v := ar nw) 0 (Or.inl r0) fl_11_12_11 rfl dX11_undo_22 ?_
  refine v_get (pc := 25) (v := ai (f 0)) 9 (Or.inr ⟨0, rfl⟩) fl_11_71_10 rfl dX11_undo_25 ?_
  exact hret (pv3_2, iv3_3, p2_4, t2_5) _ _ _ _ _ _ (by exact g_6) (congrArg (fun z => some (ai z)) (by rfl)) rfl (Nat.le_of_ble_eq_true rfl) (Nat.le_of_ble_eq_true rfl) dX11_undo_28
set_option maxHeartbeats 4000000 in
set_option maxRecDepth 100000 in
theorem c_X11_player_k0 {gS : sG} (mo : Nat) (kw : Nat) (pi : Nat) (ta : Nat) (ms : Nat) (pt : Nat) (po : Nat) (hi : Int) (nw : Nat) (pls : Nat) (ins : Nat) (tap : Nat) (e3 : Nat) (e4 : Nat) (e5 : Nat) (e6 : Nat) (e7 : Nat) (e8 : Nat) (bar : Nat) (pv : Int → Option Nat) (f : Int → Int) (vv : Int) (skill : Int) (hand : Int) (purse : Int) (hS : SOK f) (hb_vv : -2147483648 ≤ vv ∧ vv < 2147483648) (hb_skill : -2147483648 ≤ skill ∧ skill < 2147483648) (hb_hand : -2147483648 ≤ hand ∧ hand < 2147483648) (hb_purse : -2147483648 ≤ purse ∧ purse < 2147483648) : Ct gS (S := Int × (Int → Int) × (Int → Option Nat) × aW) yX11_player cX11_player 7 (some .int) 3 55 1 9 [ar mo, ai 0, ai vv, ai skill, ai hand, ai purse] [(nw, co 10 [ar pls, ar ins, ar tap, ar e3, ar e4, ar e5, ar e6, ar e7, ar e8, ai (f 0), ai (f 1), ai (f 4), ai (f 2), ai (f 3), ai (f 6), ar bar]), (pls, cq 3 6 pv)] (fun q => q ∈ ([(mo, co 11 [ar nw, ar kw, ar pi, ar ta, ar ms, ar pt, ar po, ai hi])] : aW)) (fun u => (u.1, u.2.1) = (qPlayer f 0 vv skill hand purse) ∧ plG ta f u.2.1 pv u.2.2.1 u.2.2.2) (fun u => some (ai u.1)) (fun u => ([(nw, co 10 [ar pls, ar ins, ar tap, ar e3, ar e4, ar e5, ar e6, ar e7, ar e8, ai (u.2.1 0), ai (u.2.1 1), ai (u.2.1 4), ai (u.2.1 2), ai (u.2.1 3), ai (u.2.1 6), ar bar]), (pls, cq 3 6 u.2.2.1)] ++ u.2.2.2)) := by
  refine ct_I RX11 [(0, ar mo), (1, ai 0), (2, ai vv), (3, ai skill), (4, ai hand), (5, ai purse)] (by decide) rfl (Nat.le_of_ble_eq_true rfl) rfl (fun x hgS hro hret => ?_)
  subst hgS
  have r0 := hro _ (mem_at 0 rfl)
  obtain ⟨⟨hg0, hg1, hg2, hg3, hg4, hg5, hg6, hg7⟩, hSp, hSh, hSs, hSb, hSt, hSw⟩ := id hS
  show V x cX11_player RX11 7 (rmU 3 55 1 9) [(nw, co 10 [ar pls, ar ins, ar tap, ar e3, ar e4, ar e5, ar e6, ar e7, ar e8, ai (f 0), ai (f 1), ai (f 4), ai (f 2), ai (f 3), ai (f 6), ar bar]), (pls, cq 3 6 pv)] 0 [(0, ar mo), (1, ai 0), (2, ai vv), (3, ai skill), (4, ai hand), (5, ai purse)] [] 0 0
  refine v_iload_n (pc := 0) 1 rfl dX11_player_0 ?_
  refine v_iconst (pc := 1) dX11_player_1 ?_
  refine v_bipush (pc := 2) dX11_player_2 (by decide) ?_
  refine v_callS (pc := 4) [] [0, 1] [(nw, co 10 [ar pls, ar ins, ar tap, ar e3, ar e4, ar e5, ar e6, ar e7, ar e8, ai (f 0), ai (f 1), ai (f 4), ai (f 2), ai (f 3), ai (f 6), ar bar]), (pls, cq 3 6 pv)] (As := [ai 0, ai 0, ai 6]) (rest := []) (c_X11_isOut 0 0 6 (by first | omega | assumption) (by first | omega | assumption) (by first | omega | assumption)) wl_X11_41 ws_X11_isOut wk_X11_isOut wz_X11 md_X11_isOut rfl (Nat.le_of_ble_eq_true rfl) ⟨Nat.le_of_ble_eq_true rfl, Nat.le_of_ble_eq_true rfl, Nat.le_of_ble_eq_true rfl, Nat.le_of_ble_eq_true rfl⟩ rfl rfl rfl rfl (by decide) ro_nil dX11_player_4 (fun u hu => ?_)
  show V x cX11_player RX11 7 (rmU 3 55 1 9) [(nw, co 10 [ar pls, ar ins, ar tap, ar e3, ar e4, ar e5, ar e6, ar e7, ar e8, ai (f 0), ai (f 1), ai (f 4), ai (f 2), ai (f 3), ai (f 6), ar bar]), (pls, cq 3 6 pv)] 7 [(0, ar mo), (1, ai 0), (2, ai vv), (3, ai skill), (4, ai hand), (5, ai purse)] [ai (if 0 < 0 ∨ 6 < 0 then 1 else 0)] 0 0
  refine v_ifb_eq (pc := 7) 12 dX11_player_7 (by decide) (fun c_1 => ?_) (fun c_1 => ?_)
  · skip
    refine v_iload_n (pc := 12) 2 rfl dX11_player_12 ?_
    refine v_iconst (pc := 13) dX11_player_13 ?_
    refine v_bipush (pc := 14) dX11_player_14 (by decide) ?_
    refine v_callS (pc := 16) [] [0, 1] [(nw, co 10 [ar pls, ar ins, ar tap, ar e3, ar e4, ar e5, ar e6, ar e7, ar e8, ai (f 0), ai (f 1), ai (f 4), ai (f 2), ai (f 3), ai (f 6), ar bar]), (pls, cq 3 6 pv)] (As := [ai vv, ai 0, ai 9]) (rest := []) (c_X11_isOut vv 0 9 (by first | omega | assumption) (by first | omega | assumption) (by first | omega | assumption)) wl_X11_41 ws_X11_isOut wk_X11_isOut wz_X11 md_X11_isOut rfl (Nat.le_of_ble_eq_true rfl) ⟨Nat.le_of_ble_eq_true rfl, Nat.le_of_ble_eq_true rfl, Nat.le_of_ble_eq_true rfl, Nat.le_of_ble_eq_true rfl⟩ rfl rfl rfl rfl (by decide) ro_nil dX11_player_16 (fun u hu => ?_)
    show V x cX11_player RX11 7 (rmU 3 55 1 9) [(nw, co 10 [ar pls, ar ins, ar tap, ar e3, ar e4, ar e5, ar e6, ar e7, ar e8, ai (f 0), ai (f 1), ai (f 4), ai (f 2), ai (f 3), ai (f 6), ar bar]), (pls, cq 3 6 pv)] 19 [(0, ar mo), (1, ai 0), (2, ai vv), (3, ai skill), (4, ai hand), (5, ai purse)] [ai (if vv < 0 ∨ 9 < vv then 1 else 0)] 0 0
    refine v_ifb_ne (pc := 19) 55 dX11_player_19 (by decide) (fun c_2 => ?_) (fun c_2 => ?_)
    · skip
      refine v_bipush (pc := 55) dX11_player_55 (by decide) ?_
      have hqn := qPlayer_n (f := f) (k := 0) (v := vv) (s := skill) (h := hand) (u := purse) (by omega)
      refine v_ws (ws2 := ([(nw, co 10 [ar pls, ar ins, ar tap, ar e3, ar e4, ar e5, ar e6, ar e7, ar e8, ai (((qPlayer f 0 vv skill hand purse).2) 0), ai (((qPlayer f 0 vv skill hand purse).2) 1), ai (((qPlayer f 0 vv skill hand purse).2) 4), ai (((qPlayer f 0 vv skill hand purse).2) 2), ai (((qPlayer f 0 vv skill hand purse).2) 3), ai (((qPlayer f 0 vv skill hand purse).2) 6), ar bar]), (pls, cq 3 6 pv)] ++ [])) (by rw [hqn.1]; exact (List.append_nil _).symm) ?_
      exact hret ((qPlayer f 0 vv skill hand purse).1, ((qPlayer f 0 vv skill hand purse).2), pv, []) _ _ _ _ _ _ (by refine ⟨rfl, Or.inl ⟨hqn.1, rfl, rfl⟩⟩) (congrArg (fun z => some (ai z)) (by rw [hqn.2]; (repeat' split) <;> first | rfl | (exfalso; omega))) rfl (Nat.le_of_ble_eq_true rfl) (Nat.le_of_ble_eq_true rfl) dX11_player_57
    · skip
      refine v_iload_n (pc := 22) 3 rfl dX11_player_22 ?_
      refine v_iconst (pc := 23) dX11_player_23 ?_
      refine v_bipush (pc := 24) dX11_player_24 (by decide) ?_
      refine v_callS (pc := 26) [] [0, 1] [(nw, co 10 [ar pls, ar ins, ar tap, ar e3, ar e4, ar e5, ar e6, ar e7, ar e8, ai (f 0), ai (f 1), ai (f 4), ai (f 2), ai (f 3), ai (f 6), ar bar]), (pls, cq 3 6 pv)] (As := [ai skill, ai 0, ai 20]) (rest := []) (c_X11_isOut skill 0 20 (by first | omega | assumption) (by first | omega | assumption) (by first | omega | assumption)) wl_X11_41 ws_X11_isOut wk_X11_isOut wz_X11 md_X11_isOut rfl (Nat.le_of_ble_eq_true rfl) ⟨Nat.le_of_ble_eq_true rfl, Nat.le_of_ble_eq_true rfl, Nat.le_of_ble_eq_true rfl, Nat.le_of_ble_eq_true rfl⟩ rfl rfl rfl rfl (by decide) ro_nil dX11_player_26 (fun u hu => ?_)
      show V x cX11_player RX11 7 (rmU 3 55 1 9) [(nw, co 10 [ar pls, ar ins, ar tap, ar e3, ar e4, ar e5, ar e6, ar e7, ar e8, ai (f 0), ai (f 1), ai (f 4), ai (f 2), ai (f 3), ai (f 6), ar bar]), (pls, cq 3 6 pv)] 29 [(0, ar mo), (1, ai 0), (2, ai vv), (3, ai skill), (4, ai hand), (5, ai purse)] [ai (if skill < 0 ∨ 20 < skill then 1 else 0)] 0 0
      refine v_ifb_ne (pc := 29) 55 dX11_player_29 (by decide) (fun c_3 => ?_) (fun c_3 => ?_)
      · skip
        refine v_bipush (pc := 55) dX11_player_55 (by decide) ?_
        have hqn := qPlayer_n (f := f) (k := 0) (v := vv) (s := skill) (h := hand) (u := purse) (by omega)
        refine v_ws (ws2 := ([(nw, co 10 [ar pls, ar ins, ar tap, ar e3, ar e4, ar e5, ar e6, ar e7, ar e8, ai (((qPlayer f 0 vv skill hand purse).2) 0), ai (((qPlayer f 0 vv skill hand purse).2) 1), ai (((qPlayer f 0 vv skill hand purse).2) 4), ai (((qPlayer f 0 vv skill hand purse).2) 2), ai (((qPlayer f 0 vv skill hand purse).2) 3), ai (((qPlayer f 0 vv skill hand purse).2) 6), ar bar]), (pls, cq 3 6 pv)] ++ [])) (by rw [hqn.1]; exact (List.append_nil _).symm) ?_
        exact hret ((qPlayer f 0 vv skill hand purse).1, ((qPlayer f 0 vv skill hand purse).2), pv, []) _ _ _ _ _ _ (by refine ⟨rfl, Or.inl ⟨hqn.1, rfl, rfl⟩⟩) (congrArg (fun z => some (ai z)) (by rw [hqn.2]; (repeat' split) <;> first | rfl | (exfalso; omega))) rfl (Nat.le_of_ble_eq_true rfl) (Nat.le_of_ble_eq_true rfl) dX11_player_57
      · skip
        refine v_iload (pc := 32) 4 rfl dX11_player_32 ?_
        refine v_iconst (pc := 34) dX11_player_34 ?_
        refine v_bipush (pc := 35) dX11_player_35 (by decide) ?_
        refine v_callS (pc := 37) [] [0, 1] [(nw, co 10 [ar pls, ar ins, ar tap, ar e3, ar e4, ar e5, ar e6, ar e7, ar e8, ai (f 0), ai (f 1), ai (f 4), ai (f 2), ai (f 3), ai (f 6), ar bar]), (pls, cq 3 6 pv)] (As := [ai hand, ai 1, ai 9]) (rest := []) (c_X11_isOut hand 1 9 (by first | omega | assumption) (by first | omega | assumption) (by first | omega | assumption)) wl_X11_41 ws_X11_isOut wk_X11_isOut wz_X11 md_X11_isOut rfl (Nat.le_of_ble_eq_true rfl) ⟨Nat.le_of_ble_eq_true rfl, Nat.le_of_ble_eq_true rfl, Nat.le_of_ble_eq_true rfl, Nat.le_of_ble_eq_true rfl⟩ rfl rfl rfl rfl (by decide) ro_nil dX11_player_37 (fun u hu => ?_)
        show V x cX11_player RX11 7 (rmU 3 55 1 9) [(nw, co 10 [ar pls, ar ins, ar tap, ar e3, ar e4, ar e5, ar e6, ar e7, ar e8, ai (f 0), ai (f 1), ai (f 4), ai (f 2), ai (f 3), ai (f 6), ar bar]), (pls, cq 3 6 pv)] 40 [(0, ar mo), (1, ai 0), (2, ai vv), (3, ai skill), (4, ai hand), (5, ai purse)] [ai (if hand < 1 ∨ 9 < hand then 1 else 0)] 0 0
        refine v_ifb_ne (pc := 40) 55 dX11_player_40 (by decide) (fun c_4 => ?_) (fun c_4 => ?_)
        · skip
          refine v_bipush (pc := 55) dX11_player_55 (by decide) ?_
          have hqn := qPlayer_n (f := f) (k := 0) (v := vv) (s := skill) (h := hand) (u := purse) (by omega)
          refine v_ws (ws2 := ([(nw, co 10 [ar pls, ar ins, ar tap, ar e3, ar e4, ar e5, ar e6, ar e7, ar e8, ai (((qPlayer f 0 vv skill hand purse).2) 0), ai (((qPlayer f 0 vv skill hand purse).2) 1), ai (((qPlayer f 0 vv skill hand purse).2) 4), ai (((qPlayer f 0 vv skill hand purse).2) 2), ai (((qPlayer f 0 vv skill hand purse).2) 3), ai (((qPlayer f 0 vv skill hand purse).2) 6), ar bar]), (pls, cq 3 6 pv)] ++ [])) (by rw [hqn.1]; exact (List.append_nil _).symm) ?_
          exact hret ((qPlayer f 0 vv skill hand purse).1, ((qPlayer f 0 vv skill hand purse).2), pv, []) _ _ _ _ _ _ (by refine ⟨rfl, Or.inl ⟨hqn.1, rfl, rfl⟩⟩) (congrArg (fun z => some (ai z)) (by rw [hqn.2]; (repeat' split) <;> first | rfl | (exfalso; omega))) rfl (Nat.le_of_ble_eq_true rfl) (Nat.le_of_ble_eq_true rfl) dX11_player_57
        · skip
          refine v_iload (pc := 43) 5 rfl dX11_player_43 ?_
          refine v_iconst (pc := 45) dX11_player_45 ?_
          refine v_sipush (pc := 46) dX11_player_46 (by decide) ?_
          refine v_callS (pc := 49) [] [0, 1] [(nw, co 10 [ar pls, ar ins, ar tap, ar e3, ar e4, ar e5, ar e6, ar e7, ar e8, ai (f 0), ai (f 1), ai (f 4), ai (f 2), ai (f 3), ai (f 6), ar bar]), (pls, cq 3 6 pv)] (As := [ai purse, ai 0, ai 9999]) (rest := []) (c_X11_isOut purse 0 9999 (by first | omega | assumption) (by first | omega | assumption) (by first | omega | assumption)) wl_X11_41 ws_X11_isOut wk_X11_isOut wz_X11 md_X11_isOut rfl (Nat.le_of_ble_eq_true rfl) ⟨Nat.le_of_ble_eq_true rfl, Nat.le_of_ble_eq_true rfl, Nat.le_of_ble_eq_true rfl, Nat.le_of_ble_eq_true rfl⟩ rfl rfl rfl rfl (by decide) ro_nil dX11_player_49 (fun u hu => ?_)
          show V x cX11_player RX11 7 (rmU 3 55 1 9) [(nw, co 10 [ar pls, ar ins, ar tap, ar e3, ar e4, ar e5, ar e6, ar e7, ar e8, ai (f 0), ai (f 1), ai (f 4), ai (f 2), ai (f 3), ai (f 6), ar bar]), (pls, cq 3 6 pv)] 52 [(0, ar mo), (1, ai 0), (2, ai vv), (3, ai skill), (4, ai hand), (5, ai purse)] [ai (if purse < 0 ∨ 9999 < purse then 1 else 0)] 0 0
          refine v_ifb_eq (pc := 52) 58 dX11_player_52 (by decide) (fun c_5 => ?_) (fun c_5 => ?_)
          · skip
            refine v_aload_n (pc := 58) 0 rfl dX11_player_58 ?_
            refine v_get (pc := 59) (v := ar nw) 0 (Or.inl r0) fl_11_12_11 rfl dX11_player_59 ?_
            refine v_get (pc := 62) (v := ai (f 0)) 9 (Or.inr ⟨0, rfl⟩) fl_11_71_10 rfl dX11_player_62 ?_
            refine v_bipush (pc := 65) dX11_player_65 (by decide) ?_
            refine v_icmp_lt (pc := 67) 73 dX11_player_67 (by decide) (by unfold iB; omega) (by unfold iB; omega) (fun c_6 => ?_) (fun c_6 => ?_)
            · skip
              refine v_iload_n (pc := 73) 1 rfl dX11_player_73 ?_
              refine v_aload_n (pc := 74) 0 rfl dX11_player_74 ?_
              refine v_get (pc := 75) (v := ar ta) 3 (Or.inl r0) fl_11_28_11 rfl dX11_player_75 ?_
              refine v_callS (pc := 78) [] [0, 1] [(nw, co 10 [ar pls, ar ins, ar tap, ar e3, ar e4, ar e5, ar e6, ar e7, ar e8, ai (f 0), ai (f 1), ai (f 4), ai (f 2), ai (f 3), ai (f 6), ar bar]), (pls, cq 3 6 pv)] (As := [ai 0, ar ta]) (rest := []) (c_X5_ofKind_k5 ta ) wl_X11_74 ws_X5_ofKind wk_X5_ofKind wz_X5 md_X5_ofKind rfl (Nat.le_of_ble_eq_true rfl) ⟨Nat.le_of_ble_eq_true rfl, Nat.le_of_ble_eq_true rfl, Nat.le_of_ble_eq_true rfl, Nat.le_of_ble_eq_true rfl⟩ rfl rfl rfl rfl (by decide) ro_nil dX11_player_78 (fun u hu => ?_)
              obtain ⟨q_7, rfl⟩ : ∃ z, z = u := ⟨_, rfl⟩
              show V x cX11_player RX11 7 (rmU 3 55 1 9) [(nw, co 10 [ar pls, ar ins, ar tap, ar e3, ar e4, ar e5, ar e6, ar e7, ar e8, ai (f 0), ai (f 1), ai (f 4), ai (f 2), ai (f 3), ai (f 6), ar bar]), (pls, cq 3 6 pv), (q_7, co 5 [ar ta, ai 0, ai 0, ai 0, ai 0, ai 0, ai 0, ai 0, ai 0])] 81 [(0, ar mo), (1, ai 0), (2, ai vv), (3, ai skill), (4, ai hand), (5, ai purse)] [ar q_7] 1 9
              refine v_astore (pc := 81) (L2 := [(6, ar q_7), (0, ar mo), (1, ai 0), (2, ai vv), (3, ai skill), (4, ai hand), (5, ai purse)]) rfl (by decide) dX11_player_81 ?_
              refine v_aload (pc := 83) 0 rfl dX11_player_83 ?_
              refine v_aload_n (pc := 85) 1 rfl dX11_player_85 ?_
              refine v_get (pc := 86) (v := ar nw) 0 (Or.inl r0) fl_11_12_11 rfl dX11_player_86 ?_
              refine v_get (pc := 89) (v := ai (f 0)) 9 (Or.inr ⟨0, rfl⟩) fl_11_71_10 rfl dX11_player_89 ?_
              refine v_put (pc := 92) 2 2 rfl fl_11_80_5 ck_5 ft_5_2 (okV_i _) (Nat.le_of_ble_eq_true rfl) (ws2 := [(nw, co 10 [ar pls, ar ins, ar tap, ar e3, ar e4, ar e5, ar e6, ar e7, ar e8, ai (f 0), ai (f 1), ai (f 4), ai (f 2), ai (f 3), ai (f 6), ar bar]), (pls, cq 3 6 pv), (q_7, co 5 [ar ta, ai 0, ai (f 0), ai 0, ai 0, ai 0, ai 0, ai 0, ai 0])]) rfl dX11_player_92 ?_
              refine v_aload (pc := 95) 0 rfl dX11_player_95 ?_
              refine v_iload_n (pc := 97) 3 rfl dX11_player_97 ?_
              refine v_put (pc := 98) 3 2 rfl fl_11_83_5 ck_5 ft_5_3 (okV_i _) (Nat.le_of_ble_eq_true rfl) (ws2 := [(nw, co 10 [ar pls, ar ins, ar tap, ar e3, ar e4, ar e5, ar e6, ar e7, ar e8, ai (f 0), ai (f 1), ai (f 4), ai (f 2), ai (f 3), ai (f 6), ar bar]), (pls, cq 3 6 pv), (q_7, co 5 [ar ta, ai 0, ai (f 0), ai vv, ai 0, ai 0, ai 0, ai 0, ai 0])]) rfl dX11_player_98 ?_
              refine v_aload (pc := 101) 0 rfl dX11_player_101 ?_
              refine v_iload_n (pc := 103) 4 rfl dX11_player_103 ?_
              refine v_put (pc := 104) 4 2 rfl fl_11_86_5 ck_5 ft_5_4 (okV_i _) (Nat.le_of_ble_eq_true rfl) (ws2 := [(nw, co 10 [ar pls, ar ins, ar tap, ar e3, ar e4, ar e5, ar e6, ar e7, ar e8, ai (f 0), ai (f 1), ai (f 4), ai (f 2), ai (f 3), ai (f 6), ar bar]), (pls, cq 3 6 pv), (q_7, co 5 [ar ta, ai 0, ai (f 0), ai vv, ai skill, ai 0, ai 0, ai 0, ai 0])]) rfl dX11_player_104 ?_
              refine v_aload (pc := 107) 0 rfl dX11_player_107 ?_
              refine v_iload (pc := 109) 5 rfl dX11_player_109 ?_
              refine v_put (pc := 111) 5 2 rfl fl_11_89_5 ck_5 ft_5_5 (okV_i _) (Nat.le_of_ble_eq_true rfl) (ws2 := [(nw, co 10 [ar pls, ar ins, ar tap, ar e3, ar e4, ar e5, ar e6, ar e7, ar e8, ai (f 0), ai (f 1), ai (f 4), ai (f 2), ai (f 3), ai (f 6), ar bar]), (pls, cq 3 6 pv), (q_7, co 5 [ar ta, ai 0, ai (f 0), ai vv, ai skill, ai hand, ai 0, ai 0, ai 0])]) rfl dX11_player_111 ?_
              refine v_aload (pc := 114) 0 rfl dX11_player_114 ?_
              refine v_iload (pc := 116) 6 rfl dX11_player_116 ?_
              refine v_put (pc := 118) 8 2 rfl fl_11_92_5 ck_5 ft_5_8 (okV_i _) (Nat.le_of_ble_eq_true rfl) (ws2 := [(nw, co 10 [ar pls, ar ins, ar tap, ar e3, ar e4, ar e5, ar e6, ar e7, ar e8, ai (f 0), ai (f 1), ai (f 4), ai (f 2), ai (f 3), ai (f 6), ar bar]), (pls, cq 3 6 pv), (q_7, co 5 [ar ta, ai 0, ai (f 0), ai vv, ai skill, ai hand, ai 0, ai 0, ai purse])]) rfl dX11_player_118 ?_
              refine v_aload_n (pc := 121) 1 rfl dX11_player_121 ?_
              refine v_get (pc := 122) (v := ar nw) 0 (Or.inl r0) fl_11_12_11 rfl dX11_player_122 ?_
              refine v_get (pc := 125) (v := ar pls) 0 (Or.inr ⟨0, rfl⟩) fl_11_95_10 rfl dX11_player_125 ?_
              refine v_aload_n (pc := 128) 1 rfl dX11_player_128 ?_
              refine v_get (pc := 129) (v := ar nw) 0 (Or.inl r0) fl_11_12_11 rfl dX11_player_129 ?_
              refine v_get (pc := 132) (v := ai (f 0)) 9 (Or.inr ⟨0, rfl⟩) fl_11_71_10 rfl dX11_player_132 ?_
              refine v_aload (pc := 135) 0 rfl dX11_player_135 ?_
              refine v_aastO (pc := 137) (o := (some q_7)) 1 tQ_3 rfl (fun b h => by cases h; exact ⟨5, _, _, rfl, (Or.inr ⟨2, rfl⟩), (Or.inl rfl)⟩) (by omega) (by omega) (by decide) (ws2 := [(nw, co 10 [ar pls, ar ins, ar tap, ar e3, ar e4, ar e5, ar e6, ar e7, ar e8, ai (f 0), ai (f 1), ai (f 4), ai (f 2), ai (f 3), ai (f 6), ar bar]), (pls, cq 3 6 (aupq pv (f 0) (some q_7))), (q_7, co 5 [ar ta, ai 0, ai (f 0), ai vv, ai skill, ai hand, ai 0, ai 0, ai purse])]) rfl dX11_player_137 ?_
              refine v_aload_n (pc := 138) 1 rfl dX11_player_138 ?_
              refine v_get (pc := 139) (v := ar nw) 0 (Or.inl r0) fl_11_12_11 rfl dX11_player_139 ?_
              refine v_dup (pc := 142) rfl dX11_player_142 ?_
              refine v_get (pc := 143) (v := ai (f 0)) 9 (Or.inr ⟨0, rfl⟩) fl_11_71_10 rfl dX11_player_143 ?_
              refine v_iconst (pc := 146) dX11_player_146 ?_
              refine v_iadd (pc := 147) dX11_player_147 ?_
              refine v_put (pc := 148) 9 0 rfl fl_11_71_10 ck_10 ft_10_9 (okV_i _) (Nat.le_of_ble_eq_true rfl) (ws2 := [(nw, co 10 [ar pls, ar ins, ar tap, ar e3, ar e4, ar e5, ar e6, ar e7, ar e8, ai ((f 0) + 1), ai (f 1), ai (f 4), ai (f 2), ai (f 3), ai (f 6), ar bar]), (pls, cq 3 6 (aupq pv (f 0) (some q_7))), (q_7, co 5 [ar ta, ai 0, ai (f 0), ai vv, ai skill, ai hand, ai 0, ai 0, ai purse])]) rfl dX11_player_148 ?_
              refine v_aload (pc := 151) 0 rfl dX11_player_151 ?_
              refine v_get (pc := 153) (v := ai (f 0)) 2 (Or.inr ⟨2, rfl⟩) fl_11_80_5 rfl dX11_player_153 ?_
              obtain ⟨w1, w0, wk, wv, wsk, wh, wg, wsc, wp, wt, wo⟩ := qPlayer_v (f := f) (k := 0) (v := vv) (s := skill) (h := hand) (u := purse) (by omega) (by omega) (by omega)
              have o1 : ((qPlayer f 0 vv skill hand purse).2) 1 = f 1 := wo 1 (by omega) (by omega) (by omega) (by omega) (by omega) (by omega) (by omega) (by omega) (by omega)
              have o4 : ((qPlayer f 0 vv skill hand purse).2) 4 = f 4 := wo 4 (by omega) (by omega) (by omega) (by omega) (by omega) (by omega) (by omega) (by omega) (by omega)
              have o2 : ((qPlayer f 0 vv skill hand purse).2) 2 = f 2 := wo 2 (by omega) (by omega) (by omega) (by omega) (by omega) (by omega) (by omega) (by omega) (by omega)
              have o3 : ((qPlayer f 0 vv skill hand purse).2) 3 = f 3 := wo 3 (by omega) (by omega) (by omega) (by omega) (by omega) (by omega) (by omega) (by omega) (by omega)
              have o6 : ((qPlayer f 0 vv skill hand purse).2) 6 = f 6 := wo 6 (by omega) (by omega) (by omega) (by omega) (by omega) (by omega) (by omega) (by omega) (by omega)
              refine v_ws (ws2 := ([(nw, co 10 [ar pls, ar ins, ar tap, ar e3, ar e4, ar e5, ar e6, ar e7, ar e8, ai (((qPlayer f 0 vv skill hand purse).2) 0), ai (((qPlayer f 0 vv skill hand purse).2) 1), ai (((qPlayer f 0 vv skill hand purse).2) 4), ai (((qPlayer f 0 vv skill hand purse).2) 2), ai (((qPlayer f 0 vv skill hand purse).2) 3), ai (((qPlayer f 0 vv skill hand purse).2) 6), ar bar]), (pls, cq 3 6 (aupq pv (f 0) (some q_7)))] ++ zpW ta ((qPlayer f 0 vv skill hand purse).2) (fun _ => q_7) (fun _ => 0) (f 0))) (by rw [zpW_o (show ((qPlayer f 0 vv skill hand purse).2) (7 + f 0) ≠ 6 by rw [wk]; decide), zpO_k (show ((qPlayer f 0 vv skill hand purse).2) (7 + f 0) = 0 from wk) rfl rfl]; unfold zpL; rw [w0, o1, o4, o2, o3, o6, wk, wv, wsk, wh, wg, wsc, wp]; rfl) ?_
              exact hret ((qPlayer f 0 vv skill hand purse).1, ((qPlayer f 0 vv skill hand purse).2), aupq pv (f 0) (some q_7), zpW ta ((qPlayer f 0 vv skill hand purse).2) (fun _ => q_7) (fun _ => 0) (f 0)) _ _ _ _ _ _ (by refine ⟨rfl, Or.inr ⟨q_7, 0, ⟨by omega, w0, fun p p0 p1 => ?_⟩, rfl, rfl⟩⟩; have ee : ∀ o : Int, o = 7 ∨ o = 13 ∨ o = 19 ∨ o = 25 ∨ o = 31 ∨ o = 37 ∨ o = 43 → ((qPlayer f 0 vv skill hand purse).2) (o + p) = f (o + p) := (fun o ho => wo _ (by omega) (by omega) (by omega) (by omega) (by omega) (by omega) (by omega) (by omega) (by omega)); refine ⟨ee 7 (by omega), ?_, ?_⟩; (funext t; show co (kC (((qPlayer f 0 vv skill hand purse).2) (7 + p))) (zpL ta ((qPlayer f 0 vv skill hand purse).2) p (zpT (((qPlayer f 0 vv skill hand purse).2) (7 + p)) t)) = co (kC (f (7 + p))) (zpL ta f p (zpT (f (7 + p)) t)); unfold zpL; rw [ee 7 (by omega), ee 13 (by omega), ee 19 (by omega), ee 25 (by omega), ee 31 (by omega), ee 37 (by omega), ee 43 (by omega)]); (exact tnF_cg (fun j j0 j1 => wo _ (by omega) (by omega) (by omega) (by omega) (by omega) (by omega) (by omega) (by omega) (by omega)))) (congrArg (fun z => some (ai z)) (by exact w1)) rfl (Nat.le_of_ble_eq_true rfl) (Nat.le_of_ble_eq_true rfl) dX11_player_156
            · skip
              refine v_bipush (pc := 70) dX11_player_70 (by decide) ?_
              have hqn := qPlayer_n (f := f) (k := 0) (v := vv) (s := skill) (h := hand) (u := purse) (by omega)
              refine v_ws (ws2 := ([(nw, co 10 [ar pls, ar ins, ar tap, ar e3, ar e4, ar e5, ar e6, ar e7, ar e8, ai (((qPlayer f 0 vv skill hand purse).2) 0), ai (((qPlayer f 0 vv skill hand purse).2) 1), ai (((qPlayer f 0 vv skill hand purse).2) 4), ai (((qPlayer f 0 vv skill hand purse).2) 2), ai (((qPlayer f 0 vv skill hand purse).2) 3), ai (((qPlayer f 0 vv skill hand purse).2) 6), ar bar]), (pls, cq 3 6 pv)] ++ [])) (by rw [hqn.1]; exact (List.append_nil _).symm) ?_
              exact hret ((qPlayer f 0 vv skill hand purse).1, ((qPlayer f 0 vv skill hand purse).2), pv, []) _ _ _ _ _ _ (by refine ⟨rfl, Or.inl ⟨hqn.1, rfl, rfl⟩⟩) (congrArg (fun z => some (ai z)) (by rw [hqn.2]; (repeat' split) <;> first | rfl | (exfalso; omega))) rfl (Nat.le_of_ble_eq_true rfl) (Nat.le_of_ble_eq_true rfl) dX11_player_72
          · skip
            refine v_bipush (pc := 55) dX11_player_55 (by decide) ?_
            have hqn := qPlayer_n (f := f) (k := 0) (v := vv) (s := skill) (h := hand) (u := purse) (by omega)
            refine v_ws (ws2 := ([(nw, co 10 [ar pls, ar ins, ar tap, ar e3, ar e4, ar e5, ar e6, ar e7, ar e8, ai (((qPlayer f 0 vv skill hand purse).2) 0), ai (((qPlayer f 0 vv skill hand purse).2) 1), ai (((qPlayer f 0 vv skill hand purse).2) 4), ai (((qPlayer f 0 vv skill hand purse).2) 2), ai (((qPlayer f 0 vv skill hand purse).2) 3), ai (((qPlayer f 0 vv skill hand purse).2) 6), ar bar]), (pls, cq 3 6 pv)] ++ [])) (by rw [hqn.1]; exact (List.append_nil _).symm) ?_
            exact hret ((qPlayer f 0 vv skill hand purse).1, ((qPlayer f 0 vv skill hand purse).2), pv, []) _ _ _ _ _ _ (by refine ⟨rfl, Or.inl ⟨hqn.1, rfl, rfl⟩⟩) (congrArg (fun z => some (ai z)) (by rw [hqn.2]; (repeat' split) <;> first | rfl | (exfalso; omega))) rfl (Nat.le_of_ble_eq_true rfl) (Nat.le_of_ble_eq_true rfl) dX11_player_57
  · skip
    exfalso; omega
set_option maxHeartbeats 4000000 in
set_option maxRecDepth 100000 in
theorem c_X11_player_k1 {gS : sG} (mo : Nat) (kw : Nat) (pi : Nat) (ta : Nat) (ms : Nat) (pt : Nat) (po : Nat) (hi : Int) (nw : Nat) (pls : Nat) (ins : Nat) (tap : Nat) (e3 : Nat) (e4 : Nat) (e5 : Nat) (e6 : Nat) (e7 : Nat) (e8 : Nat) (bar : Nat) (pv : Int → Option Nat) (f : Int → Int) (vv : Int) (skill : Int) (hand : Int) (purse : Int) (hS : SOK f) (hb_vv : -2147483648 ≤ vv ∧ vv < 2147483648) (hb_skill : -2147483648 ≤ skill ∧ skill < 2147483648) (hb_hand : -2147483648 ≤ hand ∧ hand < 2147483648) (hb_purse : -2147483648 ≤ purse ∧ purse < 2147483648) : Ct gS (S := Int × (Int → Int) × (Int → Option Nat) × aW) yX11_player cX11_player 7 (some .int) 4 76 1 9 [ar mo, ai 1, ai vv, ai skill, ai hand, ai purse] [(nw, co 10 [ar pls, ar ins, ar tap, ar e3, ar e4, ar e5, ar e6, ar e7, ar e8, ai (f 0), ai (f 1), ai (f 4), ai (f 2), ai (f 3), ai (f 6), ar bar]), (pls, cq 3 6 pv)] (fun q => q ∈ ([(mo, co 11 [ar nw, ar kw, ar pi, ar ta, ar ms, ar pt, ar po, ai hi])] : aW)) (fun u => (u.1, u.2.1) = (qPlayer f 1 vv skill hand purse) ∧ plG ta f u.2.1 pv u.2.2.1 u.2.2.2) (fun u => some (ai u.1)) (fun u => ([(nw, co 10 [ar pls, ar ins, ar tap, ar e3, ar e4, ar e5, ar e6, ar e7, ar e8, ai (u.2.1 0), ai (u.2.1 1), ai (u.2.1 4), ai (u.2.1 2), ai (u.2.1 3), ai (u.2.1 6), ar bar]), (pls, cq 3 6 u.2.2.1)] ++ u.2.2.2)) := by
  refine ct_I RX11 [(0, ar mo), (1, ai 1), (2, ai vv), (3, ai skill), (4, ai hand), (5, ai purse)] (by decide) rfl (Nat.le_of_ble_eq_true rfl) rfl (fun x hgS hro hret => ?_)
  subst hgS
  have r0 := hro _ (mem_at 0 rfl)
  obtain ⟨⟨hg0, hg1, hg2, hg3, hg4, hg5, hg6, hg7⟩, hSp, hSh, hSs, hSb, hSt, hSw⟩ := id hS
  show V x cX11_player RX11 7 (rmU 4 76 1 9) [(nw, co 10 [ar pls, ar ins, ar tap, ar e3, ar e4, ar e5, ar e6, ar e7, ar e8, ai (f 0), ai (f 1), ai (f 4), ai (f 2), ai (f 3), ai (f 6), ar bar]), (pls, cq 3 6 pv)] 0 [(0, ar mo), (1, ai 1), (2, ai vv), (3, ai skill), (4, ai hand), (5, ai purse)] [] 0 0
  refine v_iload_n (pc := 0) 1 rfl dX11_player_0 ?_
  refine v_iconst (pc := 1) dX11_player_1 ?_
  refine v_bipush (pc := 2) dX11_player_2 (by decide) ?_
  refine v_callS (pc := 4) [] [0, 1] [(nw, co 10 [ar pls, ar ins, ar tap, ar e3, ar e4, ar e5, ar e6, ar e7, ar e8, ai (f 0), ai (f 1), ai (f 4), ai (f 2), ai (f 3), ai (f 6), ar bar]), (pls, cq 3 6 pv)] (As := [ai 1, ai 0, ai 6]) (rest := []) (c_X11_isOut 1 0 6 (by first | omega | assumption) (by first | omega | assumption) (by first | omega | assumption)) wl_X11_41 ws_X11_isOut wk_X11_isOut wz_X11 md_X11_isOut rfl (Nat.le_of_ble_eq_true rfl) ⟨Nat.le_of_ble_eq_true rfl, Nat.le_of_ble_eq_true rfl, Nat.le_of_ble_eq_true rfl, Nat.le_of_ble_eq_true rfl⟩ rfl rfl rfl rfl (by decide) ro_nil dX11_player_4 (fun u hu => ?_)
  show V x cX11_player RX11 7 (rmU 4 76 1 9) [(nw, co 10 [ar pls, ar ins, ar tap, ar e3, ar e4, ar e5, ar e6, ar e7, ar e8, ai (f 0), ai (f 1), ai (f 4), ai (f 2), ai (f 3), ai (f 6), ar bar]), (pls, cq 3 6 pv)] 7 [(0, ar mo), (1, ai 1), (2, ai vv), (3, ai skill), (4, ai hand), (5, ai purse)] [ai (if 1 < 0 ∨ 6 < 1 then 1 else 0)] 0 0
  refine v_ifb_eq (pc := 7) 12 dX11_player_7 (by decide) (fun c_1 => ?_) (fun c_1 => ?_)
  · skip
    refine v_iload_n (pc := 12) 2 rfl dX11_player_12 ?_
    refine v_iconst (pc := 13) dX11_player_13 ?_
    refine v_bipush (pc := 14) dX11_player_14 (by decide) ?_
    refine v_callS (pc := 16) [] [0, 1] [(nw, co 10 [ar pls, ar ins, ar tap, ar e3, ar e4, ar e5, ar e6, ar e7, ar e8, ai (f 0), ai (f 1), ai (f 4), ai (f 2), ai (f 3), ai (f 6), ar bar]), (pls, cq 3 6 pv)] (As := [ai vv, ai 0, ai 9]) (rest := []) (c_X11_isOut vv 0 9 (by first | omega | assumption) (by first | omega | assumption) (by first | omega | assumption)) wl_X11_41 ws_X11_isOut wk_X11_isOut wz_X11 md_X11_isOut rfl (Nat.le_of_ble_eq_true rfl) ⟨Nat.le_of_ble_eq_true rfl, Nat.le_of_ble_eq_true rfl, Nat.le_of_ble_eq_true rfl, Nat.le_of_ble_eq_true rfl⟩ rfl rfl rfl rfl (by decide) ro_nil dX11_player_16 (fun u hu => ?_)
    show V x cX11_player RX11 7 (rmU 4 76 1 9) [(nw, co 10 [ar pls, ar ins, ar tap, ar e3, ar e4, ar e5, ar e6, ar e7, ar e8, ai (f 0), ai (f 1), ai (f 4), ai (f 2), ai (f 3), ai (f 6), ar bar]), (pls, cq 3 6 pv)] 19 [(0, ar mo), (1, ai 1), (2, ai vv), (3, ai skill), (4, ai hand), (5, ai purse)] [ai (if vv < 0 ∨ 9 < vv then 1 else 0)] 0 0
    refine v_ifb_ne (pc := 19) 55 dX11_player_19 (by decide) (fun c_2 => ?_) (fun c_2 => ?_)
    · skip
      refine v_bipush (pc := 55) dX11_player_55 (by decide) ?_
      have hqn := qPlayer_n (f := f) (k := 1) (v := vv) (s := skill) (h := hand) (u := purse) (by omega)
      refine v_ws (ws2 := ([(nw, co 10 [ar pls, ar ins, ar tap, ar e3, ar e4, ar e5, ar e6, ar e7, ar e8, ai (((qPlayer f 1 vv skill hand purse).2) 0), ai (((qPlayer f 1 vv skill hand purse).2) 1), ai (((qPlayer f 1 vv skill hand purse).2) 4), ai (((qPlayer f 1 vv skill hand purse).2) 2), ai (((qPlayer f 1 vv skill hand purse).2) 3), ai (((qPlayer f 1 vv skill hand purse).2) 6), ar bar]), (pls, cq 3 6 pv)] ++ [])) (by rw [hqn.1]; exact (List.append_nil _).symm) ?_
      exact hret ((qPlayer f 1 vv skill hand purse).1, ((qPlayer f 1 vv skill hand purse).2), pv, []) _ _ _ _ _ _ (by refine ⟨rfl, Or.inl ⟨hqn.1, rfl, rfl⟩⟩) (congrArg (fun z => some (ai z)) (by rw [hqn.2]; (repeat' split) <;> first | rfl | (exfalso; omega))) rfl (Nat.le_of_ble_eq_true rfl) (Nat.le_of_ble_eq_true rfl) dX11_player_57
    · skip
      refine v_iload_n (pc := 22) 3 rfl dX11_player_22 ?_
      refine v_iconst (pc := 23) dX11_player_23 ?_
      refine v_bipush (pc := 24) dX11_player_24 (by decide) ?_
      refine v_callS (pc := 26) [] [0, 1] [(nw, co 10 [ar pls, ar ins, ar tap, ar e3, ar e4, ar e5, ar e6, ar e7, ar e8, ai (f 0), ai (f 1), ai (f 4), ai (f 2), ai (f 3), ai (f 6), ar bar]), (pls, cq 3 6 pv)] (As := [ai skill, ai 0, ai 20]) (rest := []) (c_X11_isOut skill 0 20 (by first | omega | assumption) (by first | omega | assumption) (by first | omega | assumption)) wl_X11_41 ws_X11_isOut wk_X11_isOut wz_X11 md_X11_isOut rfl (Nat.le_of_ble_eq_true rfl) ⟨Nat.le_of_ble_eq_true rfl, Nat.le_of_ble_eq_true rfl, Nat.le_of_ble_eq_true rfl, Nat.le_of_ble_eq_true rfl⟩ rfl rfl rfl rfl (by decide) ro_nil dX11_player_26 (fun u hu => ?_)
      show V x cX11_player RX11 7 (rmU 4 76 1 9) [(nw, co 10 [ar pls, ar ins, ar tap, ar e3, ar e4, ar e5, ar e6, ar e7, ar e8, ai (f 0), ai (f 1), ai (f 4), ai (f 2), ai (f 3), ai (f 6), ar bar]), (pls, cq 3 6 pv)] 29 [(0, ar mo), (1, ai 1), (2, ai vv), (3, ai skill), (4, ai hand), (5, ai purse)] [ai (if skill < 0 ∨ 20 < skill then 1 else 0)] 0 0
      refine v_ifb_ne (pc := 29) 55 dX11_player_29 (by decide) (fun c_3 => ?_) (fun c_3 => ?_)
      · skip
        refine v_bipush (pc := 55) dX11_player_55 (by decide) ?_
        have hqn := qPlayer_n (f := f) (k := 1) (v := vv) (s := skill) (h := hand) (u := purse) (by omega)
        refine v_ws (ws2 := ([(nw, co 10 [ar pls, ar ins, ar tap, ar e3, ar e4, ar e5, ar e6, ar e7, ar e8, ai (((qPlayer f 1 vv skill hand purse).2) 0), ai (((qPlayer f 1 vv skill hand purse).2) 1), ai (((qPlayer f 1 vv skill hand purse).2) 4), ai (((qPlayer f 1 vv skill hand purse).2) 2), ai (((qPlayer f 1 vv skill hand purse).2) 3), ai (((qPlayer f 1 vv skill hand purse).2) 6), ar bar]), (pls, cq 3 6 pv)] ++ [])) (by rw [hqn.1]; exact (List.append_nil _).symm) ?_
        exact hret ((qPlayer f 1 vv skill hand purse).1, ((qPlayer f 1 vv skill hand purse).2), pv, []) _ _ _ _ _ _ (by refine ⟨rfl, Or.inl ⟨hqn.1, rfl, rfl⟩⟩) (congrArg (fun z => some (ai z)) (by rw [hqn.2]; (repeat' split) <;> first | rfl | (exfalso; omega))) rfl (Nat.le_of_ble_eq_true rfl) (Nat.le_of_ble_eq_true rfl) dX11_player_57
      · skip
        refine v_iload (pc := 32) 4 rfl dX11_player_32 ?_
        refine v_iconst (pc := 34) dX11_player_34 ?_
        refine v_bipush (pc := 35) dX11_player_35 (by decide) ?_
        refine v_callS (pc := 37) [] [0, 1] [(nw, co 10 [ar pls, ar ins, ar tap, ar e3, ar e4, ar e5, ar e6, ar e7, ar e8, ai (f 0), ai (f 1), ai (f 4), ai (f 2), ai (f 3), ai (f 6), ar bar]), (pls, cq 3 6 pv)] (As := [ai hand, ai 1, ai 9]) (rest := []) (c_X11_isOut hand 1 9 (by first | omega | assumption) (by first | omega | assumption) (by first | omega | assumption)) wl_X11_41 ws_X11_isOut wk_X11_isOut wz_X11 md_X11_isOut rfl (Nat.le_of_ble_eq_true rfl) ⟨Nat.le_of_ble_eq_true rfl, Nat.le_of_ble_eq_true rfl, Nat.le_of_ble_eq_true rfl, Nat.le_of_ble_eq_true rfl⟩ rfl rfl rfl rfl (by decide) ro_nil dX11_player_37 (fun u hu => ?_)
        show V x cX11_player RX11 7 (rmU 4 76 1 9) [(nw, co 10 [ar pls, ar ins, ar tap, ar e3, ar e4, ar e5, ar e6, ar e7, ar e8, ai (f 0), ai (f 1), ai (f 4), ai (f 2), ai (f 3), ai (f 6), ar bar]), (pls, cq 3 6 pv)] 40 [(0, ar mo), (1, ai 1), (2, ai vv), (3, ai skill), (4, ai hand), (5, ai purse)] [ai (if hand < 1 ∨ 9 < hand then 1 else 0)] 0 0
        refine v_ifb_ne (pc := 40) 55 dX11_player_40 (by decide) (fun c_4 => ?_) (fun c_4 => ?_)
        · skip
          refine v_bipush (pc := 55) dX11_player_55 (by decide) ?_
          have hqn := qPlayer_n (f := f) (k := 1) (v := vv) (s := skill) (h := hand) (u := purse) (by omega)
          refine v_ws (ws2 := ([(nw, co 10 [ar pls, ar ins, ar tap, ar e3, ar e4, ar e5, ar e6, ar e7, ar e8, ai (((qPlayer f 1 vv skill hand purse).2) 0), ai (((qPlayer f 1 vv skill hand purse).2) 1), ai (((qPlayer f 1 vv skill hand purse).2) 4), ai (((qPlayer f 1 vv skill hand purse).2) 2), ai (((qPlayer f 1 vv skill hand purse).2) 3), ai (((qPlayer f 1 vv skill hand purse).2) 6), ar bar]), (pls, cq 3 6 pv)] ++ [])) (by rw [hqn.1]; exact (List.append_nil _).symm) ?_
          exact hret ((qPlayer f 1 vv skill hand purse).1, ((qPlayer f 1 vv skill hand purse).2), pv, []) _ _ _ _ _ _ (by refine ⟨rfl, Or.inl ⟨hqn.1, rfl, rfl⟩⟩) (congrArg (fun z => some (ai z)) (by rw [hqn.2]; (repeat' split) <;> first | rfl | (exfalso; omega))) rfl (Nat.le_of_ble_eq_true rfl) (Nat.le_of_ble_eq_true rfl) dX11_player_57
        · skip
          refine v_iload (pc := 43) 5 rfl dX11_player_43 ?_
          refine v_iconst (pc := 45) dX11_player_45 ?_
          refine v_sipush (pc := 46) dX11_player_46 (by decide) ?_
          refine v_callS (pc := 49) [] [0, 1] [(nw, co 10 [ar pls, ar ins, ar tap, ar e3, ar e4, ar e5, ar e6, ar e7, ar e8, ai (f 0), ai (f 1), ai (f 4), ai (f 2), ai (f 3), ai (f 6), ar bar]), (pls, cq 3 6 pv)] (As := [ai purse, ai 0, ai 9999]) (rest := []) (c_X11_isOut purse 0 9999 (by first | omega | assumption) (by first | omega | assumption) (by first | omega | assumption)) wl_X11_41 ws_X11_isOut wk_X11_isOut wz_X11 md_X11_isOut rfl (Nat.le_of_ble_eq_true rfl) ⟨Nat.le_of_ble_eq_true rfl, Nat.le_of_ble_eq_true rfl, Nat.le_of_ble_eq_true rfl, Nat.le_of_ble_eq_true rfl⟩ rfl rfl rfl rfl (by decide) ro_nil dX11_player_49 (fun u hu => ?_)
          show V x cX11_player RX11 7 (rmU 4 76 1 9) [(nw, co 10 [ar pls, ar ins, ar tap, ar e3, ar e4, ar e5, ar e6, ar e7, ar e8, ai (f 0), ai (f 1), ai (f 4), ai (f 2), ai (f 3), ai (f 6), ar bar]), (pls, cq 3 6 pv)] 52 [(0, ar mo), (1, ai 1), (2, ai vv), (3, ai skill), (4, ai hand), (5, ai purse)] [ai (if purse < 0 ∨ 9999 < purse then 1 else 0)] 0 0
          refine v_ifb_eq (pc := 52) 58 dX11_player_52 (by decide) (fun c_5 => ?_) (fun c_5 => ?_)
          · skip
            refine v_aload_n (pc := 58) 0 rfl dX11_player_58 ?_
            refine v_get (pc := 59) (v := ar nw) 0 (Or.inl r0) fl_11_12_11 rfl dX11_player_59 ?_
            refine v_get (pc := 62) (v := ai (f 0)) 9 (Or.inr ⟨0, rfl⟩) fl_11_71_10 rfl dX11_player_62 ?_
            refine v_bipush (pc := 65) dX11_player_65 (by decide) ?_
            refine v_icmp_lt (pc := 67) 73 dX11_player_67 (by decide) (by unfold iB; omega) (by unfold iB; omega) (fun c_6 => ?_) (fun c_6 => ?_)
            · skip
              refine v_iload_n (pc := 73) 1 rfl dX11_player_73 ?_
              refine v_aload_n (pc := 74) 0 rfl dX11_player_74 ?_
              refine v_get (pc := 75) (v := ar ta) 3 (Or.inl r0) fl_11_28_11 rfl dX11_player_75 ?_
              refine v_callS (pc := 78) [] [0, 1] [(nw, co 10 [ar pls, ar ins, ar tap, ar e3, ar e4, ar e5, ar e6, ar e7, ar e8, ai (f 0), ai (f 1), ai (f 4), ai (f 2), ai (f 3), ai (f 6), ar bar]), (pls, cq 3 6 pv)] (As := [ai 1, ar ta]) (rest := []) (c_X5_ofKind_k8 ta ) wl_X11_74 ws_X5_ofKind wk_X5_ofKind wz_X5 md_X5_ofKind rfl (Nat.le_of_ble_eq_true rfl) ⟨Nat.le_of_ble_eq_true rfl, Nat.le_of_ble_eq_true rfl, Nat.le_of_ble_eq_true rfl, Nat.le_of_ble_eq_true rfl⟩ rfl rfl rfl rfl (by decide) ro_nil dX11_player_78 (fun u hu => ?_)
              obtain ⟨q_7, rfl⟩ : ∃ z, z = u := ⟨_, rfl⟩
              show V x cX11_player RX11 7 (rmU 4 76 1 9) [(nw, co 10 [ar pls, ar ins, ar tap, ar e3, ar e4, ar e5, ar e6, ar e7, ar e8, ai (f 0), ai (f 1), ai (f 4), ai (f 2), ai (f 3), ai (f 6), ar bar]), (pls, cq 3 6 pv), (q_7, co 8 [ar ta, ai 1, ai 0, ai 0, ai 0, ai 0, ai 0, ai 0, ai 0])] 81 [(0, ar mo), (1, ai 1), (2, ai vv), (3, ai skill), (4, ai hand), (5, ai purse)] [ar q_7] 1 9
              refine v_astore (pc := 81) (L2 := [(6, ar q_7), (0, ar mo), (1, ai 1), (2, ai vv), (3, ai skill), (4, ai hand), (5, ai purse)]) rfl (by decide) dX11_player_81 ?_
              refine v_aload (pc := 83) 0 rfl dX11_player_83 ?_
              refine v_aload_n (pc := 85) 1 rfl dX11_player_85 ?_
              refine v_get (pc := 86) (v := ar nw) 0 (Or.inl r0) fl_11_12_11 rfl dX11_player_86 ?_
              refine v_get (pc := 89) (v := ai (f 0)) 9 (Or.inr ⟨0, rfl⟩) fl_11_71_10 rfl dX11_player_89 ?_
              refine v_put (pc := 92) 2 2 rfl fl_11_80_8 ck_8 ft_8_2 (okV_i _) (Nat.le_of_ble_eq_true rfl) (ws2 := [(nw, co 10 [ar pls, ar ins, ar tap, ar e3, ar e4, ar e5, ar e6, ar e7, ar e8, ai (f 0), ai (f 1), ai (f 4), ai (f 2), ai (f 3), ai (f 6), ar bar]), (pls, cq 3 6 pv), (q_7, co 8 [ar ta, ai 1, ai (f 0), ai 0, ai 0, ai 0, ai 0, ai 0, ai 0])]) rfl dX11_player_92 ?_
              refine v_aload (pc := 95) 0 rfl dX11_player_95 ?_
              refine v_iload_n (pc := 97) 3 rfl dX11_player_97 ?_
              refine v_put (pc := 98) 3 2 rfl fl_11_83_8 ck_8 ft_8_3 (okV_i _) (Nat.le_of_ble_eq_true rfl) (ws2 := [(nw, co 10 [ar pls, ar ins, ar tap, ar e3, ar e4, ar e5, ar e6, ar e7, ar e8, ai (f 0), ai (f 1), ai (f 4), ai (f 2), ai (f 3), ai (f 6), ar bar]), (pls, cq 3 6 pv), (q_7, co 8 [ar ta, ai 1, ai (f 0), ai vv, ai 0, ai 0, ai 0, ai 0, ai 0])]) rfl dX11_player_98 ?_
              refine v_aload (pc := 101) 0 rfl dX11_player_101 ?_
              refine v_iload_n (pc := 103) 4 rfl dX11_player_103 ?_
              refine v_put (pc := 104) 4 2 rfl fl_11_86_8 ck_8 ft_8_4 (okV_i _) (Nat.le_of_ble_eq_true rfl) (ws2 := [(nw, co 10 [ar pls, ar ins, ar tap, ar e3, ar e4, ar e5, ar e6, ar e7, ar e8, ai (f 0), ai (f 1), ai (f 4), ai (f 2), ai (f 3), ai (f 6), ar bar]), (pls, cq 3 6 pv), (q_7, co 8 [ar ta, ai 1, ai (f 0), ai vv, ai skill, ai 0, ai 0, ai 0, ai 0])]) rfl dX11_player_104 ?_
              refine v_aload (pc := 107) 0 rfl dX11_player_107 ?_
              refine v_iload (pc := 109) 5 rfl dX11_player_109 ?_
              refine v_put (pc := 111) 5 2 rfl fl_11_89_8 ck_8 ft_8_5 (okV_i _) (Nat.le_of_ble_eq_true rfl) (ws2 := [(nw, co 10 [ar pls, ar ins, ar tap, ar e3, ar e4, ar e5, ar e6, ar e7, ar e8, ai (f 0), ai (f 1), ai (f 4), ai (f 2), ai (f 3), ai (f 6), ar bar]), (pls, cq 3 6 pv), (q_7, co 8 [ar ta, ai 1, ai (f 0), ai vv, ai skill, ai hand, ai 0, ai 0, ai 0])]) rfl dX11_player_111 ?_
              refine v_aload (pc := 114) 0 rfl dX11_player_114 ?_
              refine v_iload (pc := 116) 6 rfl dX11_player_116 ?_
              refine v_put (pc := 118) 8 2 rfl fl_11_92_8 ck_8 ft_8_8 (okV_i _) (Nat.le_of_ble_eq_true rfl) (ws2 := [(nw, co 10 [ar pls, ar ins, ar tap, ar e3, ar e4, ar e5, ar e6, ar e7, ar e8, ai (f 0), ai (f 1), ai (f 4), ai (f 2), ai (f 3), ai (f 6), ar bar]), (pls, cq 3 6 pv), (q_7, co 8 [ar ta, ai 1, ai (f 0), ai vv, ai skill, ai hand, ai 0, ai 0, ai purse])]) rfl dX11_player_118 ?_
              refine v_aload_n (pc := 121) 1 rfl dX11_player_121 ?_
              refine v_get (pc := 122) (v := ar nw) 0 (Or.inl r0) fl_11_12_11 rfl dX11_player_122 ?_
              refine v_get (pc := 125) (v := ar pls) 0 (Or.inr ⟨0, rfl⟩) fl_11_95_10 rfl dX11_player_125 ?_
              refine v_aload_n (pc := 128) 1 rfl dX11_player_128 ?_
              refine v_get (pc := 129) (v := ar nw) 0 (Or.inl r0) fl_11_12_11 rfl dX11_player_129 ?_
              refine v_get (pc := 132) (v := ai (f 0)) 9 (Or.inr ⟨0, rfl⟩) fl_11_71_10 rfl dX11_player_132 ?_
              refine v_aload (pc := 135) 0 rfl dX11_player_135 ?_
              refine v_aastO (pc := 137) (o := (some q_7)) 1 tQ_3 rfl (fun b h => by cases h; exact ⟨8, _, _, rfl, (Or.inr ⟨2, rfl⟩), (Or.inr (List.mem_of_getElem? (i := 6) rfl))⟩) (by omega) (by omega) (by decide) (ws2 := [(nw, co 10 [ar pls, ar ins, ar tap, ar e3, ar e4, ar e5, ar e6, ar e7, ar e8, ai (f 0), ai (f 1), ai (f 4), ai (f 2), ai (f 3), ai (f 6), ar bar]), (pls, cq 3 6 (aupq pv (f 0) (some q_7))), (q_7, co 8 [ar ta, ai 1, ai (f 0), ai vv, ai skill, ai hand, ai 0, ai 0, ai purse])]) rfl dX11_player_137 ?_
              refine v_aload_n (pc := 138) 1 rfl dX11_player_138 ?_
              refine v_get (pc := 139) (v := ar nw) 0 (Or.inl r0) fl_11_12_11 rfl dX11_player_139 ?_
              refine v_dup (pc := 142) rfl dX11_player_142 ?_
              refine v_get (pc := 143) (v := ai (f 0)) 9 (Or.inr ⟨0, rfl⟩) fl_11_71_10 rfl dX11_player_143 ?_
              refine v_iconst (pc := 146) dX11_player_146 ?_
              refine v_iadd (pc := 147) dX11_player_147 ?_
              refine v_put (pc := 148) 9 0 rfl fl_11_71_10 ck_10 ft_10_9 (okV_i _) (Nat.le_of_ble_eq_true rfl) (ws2 := [(nw, co 10 [ar pls, ar ins, ar tap, ar e3, ar e4, ar e5, ar e6, ar e7, ar e8, ai ((f 0) + 1), ai (f 1), ai (f 4), ai (f 2), ai (f 3), ai (f 6), ar bar]), (pls, cq 3 6 (aupq pv (f 0) (some q_7))), (q_7, co 8 [ar ta, ai 1, ai (f 0), ai vv, ai skill, ai hand, ai 0, ai 0, ai purse])]) rfl dX11_player_148 ?_
              refine v_aload (pc := 151) 0 rfl dX11_player_151 ?_
              refine v_get (pc := 153) (v := ai (f 0)) 2 (Or.inr ⟨2, rfl⟩) fl_11_80_8 rfl dX11_player_153 ?_
              obtain ⟨w1, w0, wk, wv, wsk, wh, wg, wsc, wp, wt, wo⟩ := qPlayer_v (f := f) (k := 1) (v := vv) (s := skill) (h := hand) (u := purse) (by omega) (by omega) (by omega)
              have o1 : ((qPlayer f 1 vv skill hand purse).2) 1 = f 1 := wo 1 (by omega) (by omega) (by omega) (by omega) (by omega) (by omega) (by omega) (by omega) (by omega)
              have o4 : ((qPlayer f 1 vv skill hand purse).2) 4 = f 4 := wo 4 (by omega) (by omega) (by omega) (by omega) (by omega) (by omega) (by omega) (by omega) (by omega)
              have o2 : ((qPlayer f 1 vv skill hand purse).2) 2 = f 2 := wo 2 (by omega) (by omega) (by omega) (by omega) (by omega) (by omega) (by omega) (by omega) (by omega)
              have o3 : ((qPlayer f 1 vv skill hand purse).2) 3 = f 3 := wo 3 (by omega) (by omega) (by omega) (by omega) (by omega) (by omega) (by omega) (by omega) (by omega)
              have o6 : ((qPlayer f 1 vv skill hand purse).2) 6 = f 6 := wo 6 (by omega) (by omega) (by omega) (by omega) (by omega) (by omega) (by omega) (by omega) (by omega)
              refine v_ws (ws2 := ([(nw, co 10 [ar pls, ar ins, ar tap, ar e3, ar e4, ar e5, ar e6, ar e7, ar e8, ai (((qPlayer f 1 vv skill hand purse).2) 0), ai (((qPlayer f 1 vv skill hand purse).2) 1), ai (((qPlayer f 1 vv skill hand purse).2) 4), ai (((qPlayer f 1 vv skill hand purse).2) 2), ai (((qPlayer f 1 vv skill hand purse).2) 3), ai (((qPlayer f 1 vv skill hand purse).2) 6), ar bar]), (pls, cq 3 6 (aupq pv (f 0) (some q_7)))] ++ zpW ta ((qPlayer f 1 vv skill hand purse).2) (fun _ => q_7) (fun _ => 0) (f 0))) (by rw [zpW_o (show ((qPlayer f 1 vv skill hand purse).2) (7 + f 0) ≠ 6 by rw [wk]; decide), zpO_k (show ((qPlayer f 1 vv skill hand purse).2) (7 + f 0) = 1 from wk) rfl rfl]; unfold zpL; rw [w0, o1, o4, o2, o3, o6, wk, wv, wsk, wh, wg, wsc, wp]; rfl) ?_
              exact hret ((qPlayer f 1 vv skill hand purse).1, ((qPlayer f 1 vv skill hand purse).2), aupq pv (f 0) (some q_7), zpW ta ((qPlayer f 1 vv skill hand purse).2) (fun _ => q_7) (fun _ => 0) (f 0)) _ _ _ _ _ _ (by refine ⟨rfl, Or.inr ⟨q_7, 0, ⟨by omega, w0, fun p p0 p1 => ?_⟩, rfl, rfl⟩⟩; have ee : ∀ o : Int, o = 7 ∨ o = 13 ∨ o = 19 ∨ o = 25 ∨ o = 31 ∨ o = 37 ∨ o = 43 → ((qPlayer f 1 vv skill hand purse).2) (o + p) = f (o + p) := (fun o ho => wo _ (by omega) (by omega) (by omega) (by omega) (by omega) (by omega) (by omega) (by omega) (by omega)); refine ⟨ee 7 (by omega), ?_, ?_⟩; (funext t; show co (kC (((qPlayer f 1 vv skill hand purse).2) (7 + p))) (zpL ta ((qPlayer f 1 vv skill hand purse).2) p (zpT (((qPlayer f 1 vv skill hand purse).2) (7 + p)) t)) = co (kC (f (7 + p))) (zpL ta f p (zpT (f (7 + p)) t)); unfold zpL; rw [ee 7 (by omega), ee 13 (by omega), ee 19 (by omega), ee 25 (by omega), ee 31 (by omega), ee 37 (by omega), ee 43 (by omega)]); (exact tnF_cg (fun j j0 j1 => wo _ (by omega) (by omega) (by omega) (by omega) (by omega) (by omega) (by omega) (by omega) (by omega)))) (congrArg (fun z => some (ai z)) (by exact w1)) rfl (Nat.le_of_ble_eq_true rfl) (Nat.le_of_ble_eq_true rfl) dX11_player_156
            · skip
              refine v_bipush (pc := 70) dX11_player_70 (by decide) ?_
              have hqn := qPlayer_n (f := f) (k := 1) (v := vv) (s := skill) (h := hand) (u := purse) (by omega)
              refine v_ws (ws2 := ([(nw, co 10 [ar pls, ar ins, ar tap, ar e3, ar e4, ar e5, ar e6, ar e7, ar e8, ai (((qPlayer f 1 vv skill hand purse).2) 0), ai (((qPlayer f 1 vv skill hand purse).2) 1), ai (((qPlayer f 1 vv skill hand purse).2) 4), ai (((qPlayer f 1 vv skill hand purse).2) 2), ai (((qPlayer f 1 vv skill hand purse).2) 3), ai (((qPlayer f 1 vv skill hand purse).2) 6), ar bar]), (pls, cq 3 6 pv)] ++ [])) (by rw [hqn.1]; exact (List.append_nil _).symm) ?_
              exact hret ((qPlayer f 1 vv skill hand purse).1, ((qPlayer f 1 vv skill hand purse).2), pv, []) _ _ _ _ _ _ (by refine ⟨rfl, Or.inl ⟨hqn.1, rfl, rfl⟩⟩) (congrArg (fun z => some (ai z)) (by rw [hqn.2]; (repeat' split) <;> first | rfl | (exfalso; omega))) rfl (Nat.le_of_ble_eq_true rfl) (Nat.le_of_ble_eq_true rfl) dX11_player_72
          · skip
            refine v_bipush (pc := 55) dX11_player_55 (by decide) ?_
            have hqn := qPlayer_n (f := f) (k := 1) (v := vv) (s := skill) (h := hand) (u := purse) (by omega)
            refine v_ws (ws2 := ([(nw, co 10 [ar pls, ar ins, ar tap, ar e3, ar e4, ar e5, ar e6, ar e7, ar e8, ai (((qPlayer f 1 vv skill hand purse).2) 0), ai (((qPlayer f 1 vv skill hand purse).2) 1), ai (((qPlayer f 1 vv skill hand purse).2) 4), ai (((qPlayer f 1 vv skill hand purse).2) 2), ai (((qPlayer f 1 vv skill hand purse).2) 3), ai (((qPlayer f 1 vv skill hand purse).2) 6), ar bar]), (pls, cq 3 6 pv)] ++ [])) (by rw [hqn.1]; exact (List.append_nil _).symm) ?_
            exact hret ((qPlayer f 1 vv skill hand purse).1, ((qPlayer f 1 vv skill hand purse).2), pv, []) _ _ _ _ _ _ (by refine ⟨rfl, Or.inl ⟨hqn.1, rfl, rfl⟩⟩) (congrArg (fun z => some (ai z)) (by rw [hqn.2]; (repeat' split) <;> first | rfl | (exfalso; omega))) rfl (Nat.le_of_ble_eq_true rfl) (Nat.le_of_ble_eq_true rfl) dX11_player_57
  · skip
    exfalso; omega
set_option maxHeartbeats 4000000 in
set_option maxRecDepth 100000 in
theorem c_X11_player_k2 {gS : sG} (mo : Nat) (kw : Nat) (pi : Nat) (ta : Nat) (ms : Nat) (pt : Nat) (po : Nat) (hi : Int) (nw : Nat) (pls : Nat) (ins : Nat) (tap : Nat) (e3 : Nat) (e4 : Nat) (e5 : Nat) (e6 : Nat) (e7 : Nat) (e8 : Nat) (bar : Nat) (pv : Int → Option Nat) (f : Int → Int) (vv : Int) (skill : Int) (hand : Int) (purse : Int) (hS : SOK f) (hb_vv : -2147483648 ≤ vv ∧ vv < 2147483648) (hb_skill : -2147483648 ≤ skill ∧ skill < 2147483648) (hb_hand : -2147483648 ≤ hand ∧ hand < 2147483648) (hb_purse : -2147483648 ≤ purse ∧ purse < 2147483648) : Ct gS (S := Int × (Int → Int) × (Int → Option Nat) × aW) yX11_player cX11_player 7 (some .int) 4 76 1 9 [ar mo, ai 2, ai vv, ai skill, ai hand, ai purse] [(nw, co 10 [ar pls, ar ins, ar tap, ar e3, ar e4, ar e5, ar e6, ar e7, ar e8, ai (f 0), ai (f 1), ai (f 4), ai (f 2), ai (f 3), ai (f 6), ar bar]), (pls, cq 3 6 pv)] (fun q => q ∈ ([(mo, co 11 [ar nw, ar kw, ar pi, ar ta, ar ms, ar pt, ar po, ai hi])] : aW)) (fun u => (u.1, u.2.1) = (qPlayer f 2 vv skill hand purse) ∧ plG ta f u.2.1 pv u.2.2.1 u.2.2.2) (fun u => some (ai u.1)) (fun u => ([(nw, co 10 [ar pls, ar ins, ar tap, ar e3, ar e4, ar e5, ar e6, ar e7, ar e8, ai (u.2.1 0), ai (u.2.1 1), ai (u.2.1 4), ai (u.2.1 2), ai (u.2.1 3), ai (u.2.1 6), ar bar]), (pls, cq 3 6 u.2.2.1)] ++ u.2.2.2)) := by
  refine ct_I RX11 [(0, ar mo), (1, ai 2), (2, ai vv), (3, ai skill), (4, ai hand), (5, ai purse)] (by decide) rfl (Nat.le_of_ble_eq_true rfl) rfl (fun x hgS hro hret => ?_)
  subst hgS
  have r0 := hro _ (mem_at 0 rfl)
  obtain ⟨⟨hg0, hg1, hg2, hg3, hg4, hg5, hg6, hg7⟩, hSp, hSh, hSs, hSb, hSt, hSw⟩ := id hS
  show V x cX11_player RX11 7 (rmU 4 76 1 9) [(nw, co 10 [ar pls, ar ins, ar tap, ar e3, ar e4, ar e5, ar e6, ar e7, ar e8, ai (f 0), ai (f 1), ai (f 4), ai (f 2), ai (f 3), ai (f 6), ar bar]), (pls, cq 3 6 pv)] 0 [(0, ar mo), (1, ai 2), (2, ai vv), (3, ai skill), (4, ai hand), (5, ai purse)] [] 0 0
  refine v_iload_n (pc := 0) 1 rfl dX11_player_0 ?_
  refine v_iconst (pc := 1) dX11_player_1 ?_
  refine v_bipush (pc := 2) dX11_player_2 (by decide) ?_
  refine v_callS (pc := 4) [] [0, 1] [(nw, co 10 [ar pls, ar ins, ar tap, ar e3, ar e4, ar e5, ar e6, ar e7, ar e8, ai (f 0), ai (f 1), ai (f 4), ai (f 2), ai (f 3), ai (f 6), ar bar]), (pls, cq 3 6 pv)] (As := [ai 2, ai 0, ai 6]) (rest := []) (c_X11_isOut 2 0 6 (by first | omega | assumption) (by first | omega | assumption) (by first | omega | assumption)) wl_X11_41 ws_X11_isOut wk_X11_isOut wz_X11 md_X11_isOut rfl (Nat.le_of_ble_eq_true rfl) ⟨Nat.le_of_ble_eq_true rfl, Nat.le_of_ble_eq_true rfl, Nat.le_of_ble_eq_true rfl, Nat.le_of_ble_eq_true rfl⟩ rfl rfl rfl rfl (by decide) ro_nil dX11_player_4 (fun u hu => ?_)
  show V x cX11_player RX11 7 (rmU 4 76 1 9) [(nw, co 10 [ar pls, ar ins, ar tap, ar e3, ar e4, ar e5, ar e6, ar e7, ar e8, ai (f 0), ai (f 1), ai (f 4), ai (f 2), ai (f 3), ai (f 6), ar bar]), (pls, cq 3 6 pv)] 7 [(0, ar mo), (1, ai 2), (2, ai vv), (3, ai skill), (4, ai hand), (5, ai purse)] [ai (if 2 < 0 ∨ 6 < 2 then 1 else 0)] 0 0
  refine v_ifb_eq (pc := 7) 12 dX11_player_7 (by decide) (fun c_1 => ?_) (fun c_1 => ?_)
  · skip
    refine v_iload_n (pc := 12) 2 rfl dX11_player_12 ?_
    refine v_iconst (pc := 13) dX11_player_13 ?_
    refine v_bipush (pc := 14) dX11_player_14 (by decide) ?_
    refine v_callS (pc := 16) [] [0, 1] [(nw, co 10 [ar pls, ar ins, ar tap, ar e3, ar e4, ar e5, ar e6, ar e7, ar e8, ai (f 0), ai (f 1), ai (f 4), ai (f 2), ai (f 3), ai (f 6), ar bar]), (pls, cq 3 6 pv)] (As := [ai vv, ai 0, ai 9]) (rest := []) (c_X11_isOut vv 0 9 (by first | omega | assumption) (by first | omega | assumption) (by first | omega | assumption)) wl_X11_41 ws_X11_isOut wk_X11_isOut wz_X11 md_X11_isOut rfl (Nat.le_of_ble_eq_true rfl) ⟨Nat.le_of_ble_eq_true rfl, Nat.le_of_ble_eq_true rfl, Nat.le_of_ble_eq_true rfl, Nat.le_of_ble_eq_true rfl⟩ rfl rfl rfl rfl (by decide) ro_nil dX11_player_16 (fun u hu => ?_)
    show V x cX11_player RX11 7 (rmU 4 76 1 9) [(nw, co 10 [ar pls, ar ins, ar tap, ar e3, ar e4, ar e5, ar e6, ar e7, ar e8, ai (f 0), ai (f 1), ai (f 4), ai (f 2), ai (f 3), ai (f 6), ar bar]), (pls, cq 3 6 pv)] 19 [(0, ar mo), (1, ai 2), (2, ai vv), (3, ai skill), (4, ai hand), (5, ai purse)] [ai (if vv < 0 ∨ 9 < vv then 1 else 0)] 0 0
    refine v_ifb_ne (pc := 19) 55 dX11_player_19 (by decide) (fun c_2 => ?_) (fun c_2 => ?_)
    · skip
      refine v_bipush (pc := 55) dX11_player_55 (by decide) ?_
      have hqn := qPlayer_n (f := f) (k := 2) (v := vv) (s := skill) (h := hand) (u := purse) (by omega)
      refine v_ws (ws2 := ([(nw, co 10 [ar pls, ar ins, ar tap, ar e3, ar e4, ar e5, ar e6, ar e7, ar e8, ai (((qPlayer f 2 vv skill hand purse).2) 0), ai (((qPlayer f 2 vv skill hand purse).2) 1), ai (((qPlayer f 2 vv skill hand purse).2) 4), ai (((qPlayer f 2 vv skill hand purse).2) 2), ai (((qPlayer f 2 vv skill hand purse).2) 3), ai (((qPlayer f 2 vv skill hand purse).2) 6), ar bar]), (pls, cq 3 6 pv)] ++ [])) (by rw [hqn.1]; exact (List.append_nil _).symm) ?_
      exact hret ((qPlayer f 2 vv skill hand purse).1, ((qPlayer f 2 vv skill hand purse).2), pv, []) _ _ _ _ _ _ (by refine ⟨rfl, Or.inl ⟨hqn.1, rfl, rfl⟩⟩) (congrArg (fun z => some (ai z)) (by rw [hqn.2]; (repeat' split) <;> first | rfl | (exfalso; omega))) rfl (Nat.le_of_ble_eq_true rfl) (Nat.le_of_ble_eq_true rfl) dX11_player_57
    · skip
      refine v_iload_n (pc := 22) 3 rfl dX11_player_22 ?_
      refine v_iconst (pc := 23) dX11_player_23 ?_
      refine v_bipush (pc := 24) dX11_player_24 (by decide) ?_
      refine v_callS (pc := 26) [] [0, 1] [(nw, co 10 [ar pls, ar ins, ar tap, ar e3, ar e4, ar e5, ar e6, ar e7, ar e8, ai (f 0), ai (f 1), ai (f 4), ai (f 2), ai (f 3), ai (f 6), ar bar]), (pls, cq 3 6 pv)] (As := [ai skill, ai 0, ai 20]) (rest := []) (c_X11_isOut skill 0 20 (by first | omega | assumption) (by first | omega | assumption) (by first | omega | assumption)) wl_X11_41 ws_X11_isOut wk_X11_isOut wz_X11 md_X11_isOut rfl (Nat.le_of_ble_eq_true rfl) ⟨Nat.le_of_ble_eq_true rfl, Nat.le_of_ble_eq_true rfl, Nat.le_of_ble_eq_true rfl, Nat.le_of_ble_eq_true rfl⟩ rfl rfl rfl rfl (by decide) ro_nil dX11_player_26 (fun u hu => ?_)
      show V x cX11_player RX11 7 (rmU 4 76 1 9) [(nw, co 10 [ar pls, ar ins, ar tap, ar e3, ar e4, ar e5, ar e6, ar e7, ar e8, ai (f 0), ai (f 1), ai (f 4), ai (f 2), ai (f 3), ai (f 6), ar bar]), (pls, cq 3 6 pv)] 29 [(0, ar mo), (1, ai 2), (2, ai vv), (3, ai skill), (4, ai hand), (5, ai purse)] [ai (if skill < 0 ∨ 20 < skill then 1 else 0)] 0 0
      refine v_ifb_ne (pc := 29) 55 dX11_player_29 (by decide) (fun c_3 => ?_) (fun c_3 => ?_)
      · skip
        refine v_bipush (pc := 55) dX11_player_55 (by decide) ?_
        have hqn := qPlayer_n (f := f) (k := 2) (v := vv) (s := skill) (h := hand) (u := purse) (by omega)
        refine v_ws (ws2 := ([(nw, co 10 [ar pls, ar ins, ar tap, ar e3, ar e4, ar e5, ar e6, ar e7, ar e8, ai (((qPlayer f 2 vv skill hand purse).2) 0), ai (((qPlayer f 2 vv skill hand purse).2) 1), ai (((qPlayer f 2 vv skill hand purse).2) 4), ai (((qPlayer f 2 vv skill hand purse).2) 2), ai (((qPlayer f 2 vv skill hand purse).2) 3), ai (((qPlayer f 2 vv skill hand purse).2) 6), ar bar]), (pls, cq 3 6 pv)] ++ [])) (by rw [hqn.1]; exact (List.append_nil _).symm) ?_
        exact hret ((qPlayer f 2 vv skill hand purse).1, ((qPlayer f 2 vv skill hand purse).2), pv, []) _ _ _ _ _ _ (by refine ⟨rfl, Or.inl ⟨hqn.1, rfl, rfl⟩⟩) (congrArg (fun z => some (ai z)) (by rw [hqn.2]; (repeat' split) <;> first | rfl | (exfalso; omega))) rfl (Nat.le_of_ble_eq_true rfl) (Nat.le_of_ble_eq_true rfl) dX11_player_57
      · skip
        refine v_iload (pc := 32) 4 rfl dX11_player_32 ?_
        refine v_iconst (pc := 34) dX11_player_34 ?_
        refine v_bipush (pc := 35) dX11_player_35 (by decide) ?_
        refine v_callS (pc := 37) [] [0, 1] [(nw, co 10 [ar pls, ar ins, ar tap, ar e3, ar e4, ar e5, ar e6, ar e7, ar e8, ai (f 0), ai (f 1), ai (f 4), ai (f 2), ai (f 3), ai (f 6), ar bar]), (pls, cq 3 6 pv)] (As := [ai hand, ai 1, ai 9]) (rest := []) (c_X11_isOut hand 1 9 (by first | omega | assumption) (by first | omega | assumption) (by first | omega | assumption)) wl_X11_41 ws_X11_isOut wk_X11_isOut wz_X11 md_X11_isOut rfl (Nat.le_of_ble_eq_true rfl) ⟨Nat.le_of_ble_eq_true rfl, Nat.le_of_ble_eq_true rfl, Nat.le_of_ble_eq_true rfl, Nat.le_of_ble_eq_true rfl⟩ rfl rfl rfl rfl (by decide) ro_nil dX11_player_37 (fun u hu => ?_)
        show V x cX11_player RX11 7 (rmU 4 76 1 9) [(nw, co 10 [ar pls, ar ins, ar tap, ar e3, ar e4, ar e5, ar e6, ar e7, ar e8, ai (f 0), ai (f 1), ai (f 4), ai (f 2), ai (f 3), ai (f 6), ar bar]), (pls, cq 3 6 pv)] 40 [(0, ar mo), (1, ai 2), (2, ai vv), (3, ai skill), (4, ai hand), (5, ai purse)] [ai (if hand < 1 ∨ 9 < hand then 1 else 0)] 0 0
        refine v_ifb_ne (pc := 40) 55 dX11_player_40 (by decide) (fun c_4 => ?_) (fun c_4 => ?_)
        · skip
          refine v_bipush (pc := 55) dX11_player_55 (by decide) ?_
          have hqn := qPlayer_n (f := f) (k := 2) (v := vv) (s := skill) (h := hand) (u := purse) (by omega)
          refine v_ws (ws2 := ([(nw, co 10 [ar pls, ar ins, ar tap, ar e3, ar e4, ar e5, ar e6, ar e7, ar e8, ai (((qPlayer f 2 vv skill hand purse).2) 0), ai (((qPlayer f 2 vv skill hand purse).2) 1), ai (((qPlayer f 2 vv skill hand purse).2) 4), ai (((qPlayer f 2 vv skill hand purse).2) 2), ai (((qPlayer f 2 vv skill hand purse).2) 3), ai (((qPlayer f 2 vv skill hand purse).2) 6), ar bar]), (pls, cq 3 6 pv)] ++ [])) (by rw [hqn.1]; exact (List.append_nil _).symm) ?_
          exact hret ((qPlayer f 2 vv skill hand purse).1, ((qPlayer f 2 vv skill hand purse).2), pv, []) _ _ _ _ _ _ (by refine ⟨rfl, Or.inl ⟨hqn.1, rfl, rfl⟩⟩) (congrArg (fun z => some (ai z)) (by rw [hqn.2]; (repeat' split) <;> first | rfl | (exfalso; omega))) rfl (Nat.le_of_ble_eq_true rfl) (Nat.le_of_ble_eq_true rfl) dX11_player_57
        · skip
          refine v_iload (pc := 43) 5 rfl dX11_player_43 ?_
          refine v_iconst (pc := 45) dX11_player_45 ?_
          refine v_sipush (pc := 46) dX11_player_46 (by decide) ?_
          refine v_callS (pc := 49) [] [0, 1] [(nw, co 10 [ar pls, ar ins, ar tap, ar e3, ar e4, ar e5, ar e6, ar e7, ar e8, ai (f 0), ai (f 1), ai (f 4), ai (f 2), ai (f 3), ai (f 6), ar bar]), (pls, cq 3 6 pv)] (As := [ai purse, ai 0, ai 9999]) (rest := []) (c_X11_isOut purse 0 9999 (by first | omega | assumption) (by first | omega | assumption) (by first | omega | assumption)) wl_X11_41 ws_X11_isOut wk_X11_isOut wz_X11 md_X11_isOut rfl (Nat.le_of_ble_eq_true rfl) ⟨Nat.le_of_ble_eq_true rfl, Nat.le_of_ble_eq_true rfl, Nat.le_of_ble_eq_true rfl, Nat.le_of_ble_eq_true rfl⟩ rfl rfl rfl rfl (by decide) ro_nil dX11_player_49 (fun u hu => ?_)
          show V x cX11_player RX11 7 (rmU 4 76 1 9) [(nw, co 10 [ar pls, ar ins, ar tap, ar e3, ar e4, ar e5, ar e6, ar e7, ar e8, ai (f 0), ai (f 1), ai (f 4), ai (f 2), ai (f 3), ai (f 6), ar bar]), (pls, cq 3 6 pv)] 52 [(0, ar mo), (1, ai 2), (2, ai vv), (3, ai skill), (4, ai hand), (5, ai purse)] [ai (if purse < 0 ∨ 9999 < purse then 1 else 0)] 0 0
          refine v_ifb_eq (pc := 52) 58 dX11_player_52 (by decide) (fun c_5 => ?_) (fun c_5 => ?_)
          · skip
            refine v_aload_n (pc := 58) 0 rfl dX11_player_58 ?_
            refine v_get (pc := 59) (v := ar nw) 0 (Or.inl r0) fl_11_12_11 rfl dX11_player_59 ?_
            refine v_get (pc := 62) (v := ai (f 0)) 9 (Or.inr ⟨0, rfl⟩) fl_11_71_10 rfl dX11_player_62 ?_
            refine v_bipush (pc := 65) dX11_player_65 (by decide) ?_
            refine v_icmp_lt (pc := 67) 73 dX11_player_67 (by decide) (by unfold iB; omega) (by unfold iB; omega) (fun c_6 => ?_) (fun c_6 => ?_)
            · skip
              refine v_iload_n (pc := 73) 1 rfl dX11_player_73 ?_
              refine v_aload_n (pc := 74) 0 rfl dX11_player_74 ?_
              refine v_get (pc := 75) (v := ar ta) 3 (Or.inl r0) fl_11_28_11 rfl dX11_player_75 ?_
              refine v_callS (pc := 78) [] [0, 1] [(nw, co 10 [ar pls, ar ins, ar tap, ar e3, ar e4, ar e5, ar e6, ar e7, ar e8, ai (f 0), ai (f 1), ai (f 4), ai (f 2), ai (f 3), ai (f 6), ar bar]), (pls, cq 3 6 pv)] (As := [ai 2, ar ta]) (rest := []) (c_X5_ofKind_k0 ta ) wl_X11_74 ws_X5_ofKind wk_X5_ofKind wz_X5 md_X5_ofKind rfl (Nat.le_of_ble_eq_true rfl) ⟨Nat.le_of_ble_eq_true rfl, Nat.le_of_ble_eq_true rfl, Nat.le_of_ble_eq_true rfl, Nat.le_of_ble_eq_true rfl⟩ rfl rfl rfl rfl (by decide) ro_nil dX11_player_78 (fun u hu => ?_)
              obtain ⟨q_7, rfl⟩ : ∃ z, z = u := ⟨_, rfl⟩
              show V x cX11_player RX11 7 (rmU 4 76 1 9) [(nw, co 10 [ar pls, ar ins, ar tap, ar e3, ar e4, ar e5, ar e6, ar e7, ar e8, ai (f 0), ai (f 1), ai (f 4), ai (f 2), ai (f 3), ai (f 6), ar bar]), (pls, cq 3 6 pv), (q_7, co 0 [ar ta, ai 2, ai 0, ai 0, ai 0, ai 0, ai 0, ai 0, ai 0])] 81 [(0, ar mo), (1, ai 2), (2, ai vv), (3, ai skill), (4, ai hand), (5, ai purse)] [ar q_7] 1 9
              refine v_astore (pc := 81) (L2 := [(6, ar q_7), (0, ar mo), (1, ai 2), (2, ai vv), (3, ai skill), (4, ai hand), (5, ai purse)]) rfl (by decide) dX11_player_81 ?_
              refine v_aload (pc := 83) 0 rfl dX11_player_83 ?_
              refine v_aload_n (pc := 85) 1 rfl dX11_player_85 ?_
              refine v_get (pc := 86) (v := ar nw) 0 (Or.inl r0) fl_11_12_11 rfl dX11_player_86 ?_
              refine v_get (pc := 89) (v := ai (f 0)) 9 (Or.inr ⟨0, rfl⟩) fl_11_71_10 rfl dX11_player_89 ?_
              refine v_put (pc := 92) 2 2 rfl fl_11_80_0 ck_0 ft_0_2 (okV_i _) (Nat.le_of_ble_eq_true rfl) (ws2 := [(nw, co 10 [ar pls, ar ins, ar tap, ar e3, ar e4, ar e5, ar e6, ar e7, ar e8, ai (f 0), ai (f 1), ai (f 4), ai (f 2), ai (f 3), ai (f 6), ar bar]), (pls, cq 3 6 pv), (q_7, co 0 [ar ta, ai 2, ai (f 0), ai 0, ai 0, ai 0, ai 0, ai 0, ai 0])]) rfl dX11_player_92 ?_
              refine v_aload (pc := 95) 0 rfl dX11_player_95 ?_
              refine v_iload_n (pc := 97) 3 rfl dX11_player_97 ?_
              refine v_put (pc := 98) 3 2 rfl fl_11_83_0 ck_0 ft_0_3 (okV_i _) (Nat.le_of_ble_eq_true rfl) (ws2 := [(nw, co 10 [ar pls, ar ins, ar tap, ar e3, ar e4, ar e5, ar e6, ar e7, ar e8, ai (f 0), ai (f 1), ai (f 4), ai (f 2), ai (f 3), ai (f 6), ar bar]), (pls, cq 3 6 pv), (q_7, co 0 [ar ta, ai 2, ai (f 0), ai vv, ai 0, ai 0, ai 0, ai 0, ai 0])]) rfl dX11_player_98 ?_
              refine v_aload (pc := 101) 0 rfl dX11_player_101 ?_
              refine v_iload_n (pc := 103) 4 rfl dX11_player_103 ?_
              refine v_put (pc := 104) 4 2 rfl fl_11_86_0 ck_0 ft_0_4 (okV_i _) (Nat.le_of_ble_eq_true rfl) (ws2 := [(nw, co 10 [ar pls, ar ins, ar tap, ar e3, ar e4, ar e5, ar e6, ar e7, ar e8, ai (f 0), ai (f 1), ai (f 4), ai (f 2), ai (f 3), ai (f 6), ar bar]), (pls, cq 3 6 pv), (q_7, co 0 [ar ta, ai 2, ai (f 0), ai vv, ai skill, ai 0, ai 0, ai 0, ai 0])]) rfl dX11_player_104 ?_
              refine v_aload (pc := 107) 0 rfl dX11_player_107 ?_
              refine v_iload (pc := 109) 5 rfl dX11_player_109 ?_
              refine v_put (pc := 111) 5 2 rfl fl_11_89_0 ck_0 ft_0_5 (okV_i _) (Nat.le_of_ble_eq_true rfl) (ws2 := [(nw, co 10 [ar pls, ar ins, ar tap, ar e3, ar e4, ar e5, ar e6, ar e7, ar e8, ai (f 0), ai (f 1), ai (f 4), ai (f 2), ai (f 3), ai (f 6), ar bar]), (pls, cq 3 6 pv), (q_7, co 0 [ar ta, ai 2, ai (f 0), ai vv, ai skill, ai hand, ai 0, ai 0, ai 0])]) rfl dX11_player_111 ?_
              refine v_aload (pc := 114) 0 rfl dX11_player_114 ?_
              refine v_iload (pc := 116) 6 rfl dX11_player_116 ?_
              refine v_put (pc := 118) 8 2 rfl fl_11_92_0 ck_0 ft_0_8 (okV_i _) (Nat.le_of_ble_eq_true rfl) (ws2 := [(nw, co 10 [ar pls, ar ins, ar tap, ar e3, ar e4, ar e5, ar e6, ar e7, ar e8, ai (f 0), ai (f 1), ai (f 4), ai (f 2), ai (f 3), ai (f 6), ar bar]), (pls, cq 3 6 pv), (q_7, co 0 [ar ta, ai 2, ai (f 0), ai vv, ai skill, ai hand, ai 0, ai 0, ai purse])]) rfl dX11_player_118 ?_
              refine v_aload_n (pc := 121) 1 rfl dX11_player_121 ?_
              refine v_get (pc := 122) (v := ar nw) 0 (Or.inl r0) fl_11_12_11 rfl dX11_player_122 ?_
              refine v_get (pc := 125) (v := ar pls) 0 (Or.inr ⟨0, rfl⟩) fl_11_95_10 rfl dX11_player_125 ?_
              refine v_aload_n (pc := 128) 1 rfl dX11_player_128 ?_
              refine v_get (pc := 129) (v := ar nw) 0 (Or.inl r0) fl_11_12_11 rfl dX11_player_129 ?_
              refine v_get (pc := 132) (v := ai (f 0)) 9 (Or.inr ⟨0, rfl⟩) fl_11_71_10 rfl dX11_player_132 ?_
              refine v_aload (pc := 135) 0 rfl dX11_player_135 ?_
              refine v_aastO (pc := 137) (o := (some q_7)) 1 tQ_3 rfl (fun b h => by cases h; exact ⟨0, _, _, rfl, (Or.inr ⟨2, rfl⟩), (Or.inr (List.mem_of_getElem? (i := 7) rfl))⟩) (by omega) (by omega) (by decide) (ws2 := [(nw, co 10 [ar pls, ar ins, ar tap, ar e3, ar e4, ar e5, ar e6, ar e7, ar e8, ai (f 0), ai (f 1), ai (f 4), ai (f 2), ai (f 3), ai (f 6), ar bar]), (pls, cq 3 6 (aupq pv (f 0) (some q_7))), (q_7, co 0 [ar ta, ai 2, ai (f 0), ai vv, ai skill, ai hand, ai 0, ai 0, ai purse])]) rfl dX11_player_137 ?_
              refine v_aload_n (pc := 138) 1 rfl dX11_player_138 ?_
              refine v_get (pc := 139) (v := ar nw) 0 (Or.inl r0) fl_11_12_11 rfl dX11_player_139 ?_
              refine v_dup (pc := 142) rfl dX11_player_142 ?_
              refine v_get (pc := 143) (v := ai (f 0)) 9 (Or.inr ⟨0, rfl⟩) fl_11_71_10 rfl dX11_player_143 ?_
              refine v_iconst (pc := 146) dX11_player_146 ?_
              refine v_iadd (pc := 147) dX11_player_147 ?_
              refine v_put (pc := 148) 9 0 rfl fl_11_71_10 ck_10 ft_10_9 (okV_i _) (Nat.le_of_ble_eq_true rfl) (ws2 := [(nw, co 10 [ar pls, ar ins, ar tap, ar e3, ar e4, ar e5, ar e6, ar e7, ar e8, ai ((f 0) + 1), ai (f 1), ai (f 4), ai (f 2), ai (f 3), ai (f 6), ar bar]), (pls, cq 3 6 (aupq pv (f 0) (some q_7))), (q_7, co 0 [ar ta, ai 2, ai (f 0), ai vv, ai skill, ai hand, ai 0, ai 0, ai purse])]) rfl dX11_player_148 ?_
              refine v_aload (pc := 151) 0 rfl dX11_player_151 ?_
              refine v_get (pc := 153) (v := ai (f 0)) 2 (Or.inr ⟨2, rfl⟩) fl_11_80_0 rfl dX11_player_153 ?_
              obtain ⟨w1, w0, wk, wv, wsk, wh, wg, wsc, wp, wt, wo⟩ := qPlayer_v (f := f) (k := 2) (v := vv) (s := skill) (h := hand) (u := purse) (by omega) (by omega) (by omega)
              have o1 : ((qPlayer f 2 vv skill hand purse).2) 1 = f 1 := wo 1 (by omega) (by omega) (by omega) (by omega) (by omega) (by omega) (by omega) (by omega) (by omega)
              have o4 : ((qPlayer f 2 vv skill hand purse).2) 4 = f 4 := wo 4 (by omega) (by omega) (by omega) (by omega) (by omega) (by omega) (by omega) (by omega) (by omega)
              have o2 : ((qPlayer f 2 vv skill hand purse).2) 2 = f 2 := wo 2 (by omega) (by omega) (by omega) (by omega) (by omega) (by omega) (by omega) (by omega) (by omega)
              have o3 : ((qPlayer f 2 vv skill hand purse).2) 3 = f 3 := wo 3 (by omega) (by omega) (by omega) (by omega) (by omega) (by omega) (by omega) (by omega) (by omega)
              have o6 : ((qPlayer f 2 vv skill hand purse).2) 6 = f 6 := wo 6 (by omega) (by omega) (by omega) (by omega) (by omega) (by omega) (by omega) (by omega) (by omega)
              refine v_ws (ws2 := ([(nw, co 10 [ar pls, ar ins, ar tap, ar e3, ar e4, ar e5, ar e6, ar e7, ar e8, ai (((qPlayer f 2 vv skill hand purse).2) 0), ai (((qPlayer f 2 vv skill hand purse).2) 1), ai (((qPlayer f 2 vv skill hand purse).2) 4), ai (((qPlayer f 2 vv skill hand purse).2) 2), ai (((qPlayer f 2 vv skill hand purse).2) 3), ai (((qPlayer f 2 vv skill hand purse).2) 6), ar bar]), (pls, cq 3 6 (aupq pv (f 0) (some q_7)))] ++ zpW ta ((qPlayer f 2 vv skill hand purse).2) (fun _ => q_7) (fun _ => 0) (f 0))) (by rw [zpW_o (show ((qPlayer f 2 vv skill hand purse).2) (7 + f 0) ≠ 6 by rw [wk]; decide), zpO_k (show ((qPlayer f 2 vv skill hand purse).2) (7 + f 0) = 2 from wk) rfl rfl]; unfold zpL; rw [w0, o1, o4, o2, o3, o6, wk, wv, wsk, wh, wg, wsc, wp]; rfl) ?_
              exact hret ((qPlayer f 2 vv skill hand purse).1, ((qPlayer f 2 vv skill hand purse).2), aupq pv (f 0) (some q_7), zpW ta ((qPlayer f 2 vv skill hand purse).2) (fun _ => q_7) (fun _ => 0) (f 0)) _ _ _ _ _ _ (by refine ⟨rfl, Or.inr ⟨q_7, 0, ⟨by omega, w0, fun p p0 p1 => ?_⟩, rfl, rfl⟩⟩; have ee : ∀ o : Int, o = 7 ∨ o = 13 ∨ o = 19 ∨ o = 25 ∨ o = 31 ∨ o = 37 ∨ o = 43 → ((qPlayer f 2 vv skill hand purse).2) (o + p) = f (o + p) := (fun o ho => wo _ (by omega) (by omega) (by omega) (by omega) (by omega) (by omega) (by omega) (by omega) (by omega)); refine ⟨ee 7 (by omega), ?_, ?_⟩; (funext t; show co (kC (((qPlayer f 2 vv skill hand purse).2) (7 + p))) (zpL ta ((qPlayer f 2 vv skill hand purse).2) p (zpT (((qPlayer f 2 vv skill hand purse).2) (7 + p)) t)) = co (kC (f (7 + p))) (zpL ta f p (zpT (f (7 + p)) t)); unfold zpL; rw [ee 7 (by omega), ee 13 (by omega), ee 19 (by omega), ee 25 (by omega), ee 31 (by omega), ee 37 (by omega), ee 43 (by omega)]); (exact tnF_cg (fun j j0 j1 => wo _ (by omega) (by omega) (by omega) (by omega) (by omega) (by omega) (by omega) (by omega) (by omega)))) (congrArg (fun z => some (ai z)) (by exact w1)) rfl (Nat.le_of_ble_eq_true rfl) (Nat.le_of_ble_eq_true rfl) dX11_player_156
            · skip
              refine v_bipush (pc := 70) dX11_player_70 (by decide) ?_
              have hqn := qPlayer_n (f := f) (k := 2) (v := vv) (s := skill) (h := hand) (u := purse) (by omega)
              refine v_ws (ws2 := ([(nw, co 10 [ar pls, ar ins, ar tap, ar e3, ar e4, ar e5, ar e6, ar e7, ar e8, ai (((qPlayer f 2 vv skill hand purse).2) 0), ai (((qPlayer f 2 vv skill hand purse).2) 1), ai (((qPlayer f 2 vv skill hand purse).2) 4), ai (((qPlayer f 2 vv skill hand purse).2) 2), ai (((qPlayer f 2 vv skill hand purse).2) 3), ai (((qPlayer f 2 vv skill hand purse).2) 6), ar bar]), (pls, cq 3 6 pv)] ++ [])) (by rw [hqn.1]; exact (List.append_nil _).symm) ?_
              exact hret ((qPlayer f 2 vv skill hand purse).1, ((qPlayer f 2 vv skill hand purse).2), pv, []) _ _ _ _ _ _ (by refine ⟨rfl, Or.inl ⟨hqn.1, rfl, rfl⟩⟩) (congrArg (fun z => some (ai z)) (by rw [hqn.2]; (repeat' split) <;> first | rfl | (exfalso; omega))) rfl (Nat.le_of_ble_eq_true rfl) (Nat.le_of_ble_eq_true rfl) dX11_player_72
          · skip
            refine v_bipush (pc := 55) dX11_player_55 (by decide) ?_
            have hqn := qPlayer_n (f := f) (k := 2) (v := vv) (s := skill) (h := hand) (u := purse) (by omega)
            refine v_ws (ws2 := ([(nw, co 10 [ar pls, ar ins, ar tap, ar e3, ar e4, ar e5, ar e6, ar e7, ar e8, ai (((qPlayer f 2 vv skill hand purse).2) 0), ai (((qPlayer f 2 vv skill hand purse).2) 1), ai (((qPlayer f 2 vv skill hand purse).2) 4), ai (((qPlayer f 2 vv skill hand purse).2) 2), ai (((qPlayer f 2 vv skill hand purse).2) 3), ai (((qPlayer f 2 vv skill hand purse).2) 6), ar bar]), (pls, cq 3 6 pv)] ++ [])) (by rw [hqn.1]; exact (List.append_nil _).symm) ?_
            exact hret ((qPlayer f 2 vv skill hand purse).1, ((qPlayer f 2 vv skill hand purse).2), pv, []) _ _ _ _ _ _ (by refine ⟨rfl, Or.inl ⟨hqn.1, rfl, rfl⟩⟩) (congrArg (fun z => some (ai z)) (by rw [hqn.2]; (repeat' split) <;> first | rfl | (exfalso; omega))) rfl (Nat.le_of_ble_eq_true rfl) (Nat.le_of_ble_eq_true rfl) dX11_player_57
  · skip
    exfalso; omega
set_option maxHeartbeats 4000000 in
set_option maxRecDepth 100000 in
theorem c_X11_player_k3 {gS : sG} (mo : Nat) (kw : Nat) (pi : Nat) (ta : Nat) (ms : Nat) (pt : Nat) (po : Nat) (hi : Int) (nw : Nat) (pls : Nat) (ins : Nat) (tap : Nat) (e3 : Nat) (e4 : Nat) (e5 : Nat) (e6 : Nat) (e7 : Nat) (e8 : Nat) (bar : Nat) (pv : Int → Option Nat) (f : Int → Int) (vv : Int) (skill : Int) (hand : Int) (purse : Int) (hS : SOK f) (hb_vv : -2147483648 ≤ vv ∧ vv < 2147483648) (hb_skill : -2147483648 ≤ skill ∧ skill < 2147483648) (hb_hand : -2147483648 ≤ hand ∧ hand < 2147483648) (hb_purse : -2147483648 ≤ purse ∧ purse < 2147483648) : Ct gS (S := Int × (Int → Int) × (Int → Option Nat) × aW) yX11_player cX11_player 7 (some .int) 4 76 1 9 [ar mo, ai 3, ai vv, ai skill, ai hand, ai purse] [(nw, co 10 [ar pls, ar ins, ar tap, ar e3, ar e4, ar e5, ar e6, ar e7, ar e8, ai (f 0), ai (f 1), ai (f 4), ai (f 2), ai (f 3), ai (f 6), ar bar]), (pls, cq 3 6 pv)] (fun q => q ∈ ([(mo, co 11 [ar nw, ar kw, ar pi, ar ta, ar ms, ar pt, ar po, ai hi])] : aW)) (fun u => (u.1, u.2.1) = (qPlayer f 3 vv skill hand purse) ∧ plG ta f u.2.1 pv u.2.2.1 u.2.2.2) (fun u => some (ai u.1)) (fun u => ([(nw, co 10 [ar pls, ar ins, ar tap, ar e3, ar e4, ar e5, ar e6, ar e7, ar e8, ai (u.2.1 0), ai (u.2.1 1), ai (u.2.1 4), ai (u.2.1 2), ai (u.2.1 3), ai (u.2.1 6), ar bar]), (pls, cq 3 6 u.2.2.1)] ++ u.2.2.2)) := by
  refine ct_I RX11 [(0, ar mo), (1, ai 3), (2, ai vv), (3, ai skill), (4, ai hand), (5, ai purse)] (by decide) rfl (Nat.le_of_ble_eq_true rfl) rfl (fun x hgS hro hret => ?_)
  subst hgS
  have r0 := hro _ (mem_at 0 rfl)
  obtain ⟨⟨hg0, hg1, hg2, hg3, hg4, hg5, hg6, hg7⟩, hSp, hSh, hSs, hSb, hSt, hSw⟩ := id hS
  show V x cX11_player RX11 7 (rmU 4 76 1 9) [(nw, co 10 [ar pls, ar ins, ar tap, ar e3, ar e4, ar e5, ar e6, ar e7, ar e8, ai (f 0), ai (f 1), ai (f 4), ai (f 2), ai (f 3), ai (f 6), ar bar]), (pls, cq 3 6 pv)] 0 [(0, ar mo), (1, ai 3), (2, ai vv), (3, ai skill), (4, ai hand), (5, ai purse)] [] 0 0
  refine v_iload_n (pc := 0) 1 rfl dX11_player_0 ?_
  refine v_iconst (pc := 1) dX11_player_1 ?_
  refine v_bipush (pc := 2) dX11_player_2 (by decide) ?_
  refine v_callS (pc := 4) [] [0, 1] [(nw, co 10 [ar pls, ar ins, ar tap, ar e3, ar e4, ar e5, ar e6, ar e7, ar e8, ai (f 0), ai (f 1), ai (f 4), ai (f 2), ai (f 3), ai (f 6), ar bar]), (pls, cq 3 6 pv)] (As := [ai 3, ai 0, ai 6]) (rest := []) (c_X11_isOut 3 0 6 (by first | omega | assumption) (by first | omega | assumption) (by first | omega | assumption)) wl_X11_41 ws_X11_isOut wk_X11_isOut wz_X11 md_X11_isOut rfl (Nat.le_of_ble_eq_true rfl) ⟨Nat.le_of_ble_eq_true rfl, Nat.le_of_ble_eq_true rfl, Nat.le_of_ble_eq_true rfl, Nat.le_of_ble_eq_true rfl⟩ rfl rfl rfl rfl (by decide) ro_nil dX11_player_4 (fun u hu => ?_)
  show V x cX11_player RX11 7 (rmU 4 76 1 9) [(nw, co 10 [ar pls, ar ins, ar tap, ar e3, ar e4, ar e5, ar e6, ar e7, ar e8, ai (f 0), ai (f 1), ai (f 4), ai (f 2), ai (f 3), ai (f 6), ar bar]), (pls, cq 3 6 pv)] 7 [(0, ar mo), (1, ai 3), (2, ai vv), (3, ai skill), (4, ai hand), (5, ai purse)] [ai (if 3 < 0 ∨ 6 < 3 then 1 else 0)] 0 0
  refine v_ifb_eq (pc := 7) 12 dX11_player_7 (by decide) (fun c_1 => ?_) (fun c_1 => ?_)
  · skip
    refine v_iload_n (pc := 12) 2 rfl dX11_player_12 ?_
    refine v_iconst (pc := 13) dX11_player_13 ?_
    refine v_bipush (pc := 14) dX11_player_14 (by decide) ?_
    refine v_callS (pc := 16) [] [0, 1] [(nw, co 10 [ar pls, ar ins, ar tap, ar e3, ar e4, ar e5, ar e6, ar e7, ar e8, ai (f 0), ai (f 1), ai (f 4), ai (f 2), ai (f 3), ai (f 6), ar bar]), (pls, cq 3 6 pv)] (As := [ai vv, ai 0, ai 9]) (rest := []) (c_X11_isOut vv 0 9 (by first | omega | assumption) (by first | omega | assumption) (by first | omega | assumption)) wl_X11_41 ws_X11_isOut wk_X11_isOut wz_X11 md_X11_isOut rfl (Nat.le_of_ble_eq_true rfl) ⟨Nat.le_of_ble_eq_true rfl, Nat.le_of_ble_eq_true rfl, Nat.le_of_ble_eq_true rfl, Nat.le_of_ble_eq_true rfl⟩ rfl rfl rfl rfl (by decide) ro_nil dX11_player_16 (fun u hu => ?_)
    show V x cX11_player RX11 7 (rmU 4 76 1 9) [(nw, co 10 [ar pls, ar ins, ar tap, ar e3, ar e4, ar e5, ar e6, ar e7, ar e8, ai (f 0), ai (f 1), ai (f 4), ai (f 2), ai (f 3), ai (f 6), ar bar]), (pls, cq 3 6 pv)] 19 [(0, ar mo), (1, ai 3), (2, ai vv), (3, ai skill), (4, ai hand), (5, ai purse)] [ai (if vv < 0 ∨ 9 < vv then 1 else 0)] 0 0
    refine v_ifb_ne (pc := 19) 55 dX11_player_19 (by decide) (fun c_2 => ?_) (fun c_2 => ?_)
    · skip
      refine v_bipush (pc := 55) dX11_player_55 (by decide) ?_
      have hqn := qPlayer_n (f := f) (k := 3) (v := vv) (s := skill) (h := hand) (u := purse) (by omega)
      refine v_ws (ws2 := ([(nw, co 10 [ar pls, ar ins, ar tap, ar e3, ar e4, ar e5, ar e6, ar e7, ar e8, ai (((qPlayer f 3 vv skill hand purse).2) 0), ai (((qPlayer f 3 vv skill hand purse).2) 1), ai (((qPlayer f 3 vv skill hand purse).2) 4), ai (((qPlayer f 3 vv skill hand purse).2) 2), ai (((qPlayer f 3 vv skill hand purse).2) 3), ai (((qPlayer f 3 vv skill hand purse).2) 6), ar bar]), (pls, cq 3 6 pv)] ++ [])) (by rw [hqn.1]; exact (List.append_nil _).symm) ?_
      exact hret ((qPlayer f 3 vv skill hand purse).1, ((qPlayer f 3 vv skill hand purse).2), pv, []) _ _ _ _ _ _ (by refine ⟨rfl, Or.inl ⟨hqn.1, rfl, rfl⟩⟩) (congrArg (fun z => some (ai z)) (by rw [hqn.2]; (repeat' split) <;> first | rfl | (exfalso; omega))) rfl (Nat.le_of_ble_eq_true rfl) (Nat.le_of_ble_eq_true rfl) dX11_player_57
    · skip
      refine v_iload_n (pc := 22) 3 rfl dX11_player_22 ?_
      refine v_iconst (pc := 23) dX11_player_23 ?_
      refine v_bipush (pc := 24) dX11_player_24 (by decide) ?_
      refine v_callS (pc := 26) [] [0, 1] [(nw, co 10 [ar pls, ar ins, ar tap, ar e3, ar e4, ar e5, ar e6, ar e7, ar e8, ai (f 0), ai (f 1), ai (f 4), ai (f 2), ai (f 3), ai (f 6), ar bar]), (pls, cq 3 6 pv)] (As := [ai skill, ai 0, ai 20]) (rest := []) (c_X11_isOut skill 0 20 (by first | omega | assumption) (by first | omega | assumption) (by first | omega | assumption)) wl_X11_41 ws_X11_isOut wk_X11_isOut wz_X11 md_X11_isOut rfl (Nat.le_of_ble_eq_true rfl) ⟨Nat.le_of_ble_eq_true rfl, Nat.le_of_ble_eq_true rfl, Nat.le_of_ble_eq_true rfl, Nat.le_of_ble_eq_true rfl⟩ rfl rfl rfl rfl (by decide) ro_nil dX11_player_26 (fun u hu => ?_)
      show V x cX11_player RX11 7 (rmU 4 76 1 9) [(nw, co 10 [ar pls, ar ins, ar tap, ar e3, ar e4, ar e5, ar e6, ar e7, ar e8, ai (f 0), ai (f 1), ai (f 4), ai (f 2), ai (f 3), ai (f 6), ar bar]), (pls, cq 3 6 pv)] 29 [(0, ar mo), (1, ai 3), (2, ai vv), (3, ai skill), (4, ai hand), (5, ai purse)] [ai (if skill < 0 ∨ 20 < skill then 1 else 0)] 0 0
      refine v_ifb_ne (pc := 29) 55 dX11_player_29 (by decide) (fun c_3 => ?_) (fun c_3 => ?_)
      · skip
        refine v_bipush (pc := 55) dX11_player_55 (by decide) ?_
        have hqn := qPlayer_n (f := f) (k := 3) (v := vv) (s := skill) (h := hand) (u := purse) (by omega)
        refine v_ws (ws2 := ([(nw, co 10 [ar pls, ar ins, ar tap, ar e3, ar e4, ar e5, ar e6, ar e7, ar e8, ai (((qPlayer f 3 vv skill hand purse).2) 0), ai (((qPlayer f 3 vv skill hand purse).2) 1), ai (((qPlayer f 3 vv skill hand purse).2) 4), ai (((qPlayer f 3 vv skill hand purse).2) 2), ai (((qPlayer f 3 vv skill hand purse).2) 3), ai (((qPlayer f 3 vv skill hand purse).2) 6), ar bar]), (pls, cq 3 6 pv)] ++ [])) (by rw [hqn.1]; exact (List.append_nil _).symm) ?_
        exact hret ((qPlayer f 3 vv skill hand purse).1, ((qPlayer f 3 vv skill hand purse).2), pv, []) _ _ _ _ _ _ (by refine ⟨rfl, Or.inl ⟨hqn.1, rfl, rfl⟩⟩) (congrArg (fun z => some (ai z)) (by rw [hqn.2]; (repeat' split) <;> first | rfl | (exfalso; omega))) rfl (Nat.le_of_ble_eq_true rfl) (Nat.le_of_ble_eq_true rfl) dX11_player_57
      · skip
        refine v_iload (pc := 32) 4 rfl dX11_player_32 ?_
        refine v_iconst (pc := 34) dX11_player_34 ?_
        refine v_bipush (pc := 35) dX11_player_35 (by decide) ?_
        refine v_callS (pc := 37) [] [0, 1] [(nw, co 10 [ar pls, ar ins, ar tap, ar e3, ar e4, ar e5, ar e6, ar e7, ar e8, ai (f 0), ai (f 1), ai (f 4), ai (f 2), ai (f 3), ai (f 6), ar bar]), (pls, cq 3 6 pv)] (As := [ai hand, ai 1, ai 9]) (rest := []) (c_X11_isOut hand 1 9 (by first | omega | assumption) (by first | omega | assumption) (by first | omega | assumption)) wl_X11_41 ws_X11_isOut wk_X11_isOut wz_X11 md_X11_isOut rfl (Nat.le_of_ble_eq_true rfl) ⟨Nat.le_of_ble_eq_true rfl, Nat.le_of_ble_eq_true rfl, Nat.le_of_ble_eq_true rfl, Nat.le_of_ble_eq_true rfl⟩ rfl rfl rfl rfl (by decide) ro_nil dX11_player_37 (fun u hu => ?_)
        show V x cX11_player RX11 7 (rmU 4 76 1 9) [(nw, co 10 [ar pls, ar ins, ar tap, ar e3, ar e4, ar e5, ar e6, ar e7, ar e8, ai (f 0), ai (f 1), ai (f 4), ai (f 2), ai (f 3), ai (f 6), ar bar]), (pls, cq 3 6 pv)] 40 [(0, ar mo), (1, ai 3), (2, ai vv), (3, ai skill), (4, ai hand), (5, ai purse)] [ai (if hand < 1 ∨ 9 < hand then 1 else 0)] 0 0
        refine v_ifb_ne (pc := 40) 55 dX11_player_40 (by decide) (fun c_4 => ?_) (fun c_4 => ?_)
        · skip
          refine v_bipush (pc := 55) dX11_player_55 (by decide) ?_
          have hqn := qPlayer_n (f := f) (k := 3) (v := vv) (s := skill) (h := hand) (u := purse) (by omega)
          refine v_ws (ws2 := ([(nw, co 10 [ar pls, ar ins, ar tap, ar e3, ar e4, ar e5, ar e6, ar e7, ar e8, ai (((qPlayer f 3 vv skill hand purse).2) 0), ai (((qPlayer f 3 vv skill hand purse).2) 1), ai (((qPlayer f 3 vv skill hand purse).2) 4), ai (((qPlayer f 3 vv skill hand purse).2) 2), ai (((qPlayer f 3 vv skill hand purse).2) 3), ai (((qPlayer f 3 vv skill hand purse).2) 6), ar bar]), (pls, cq 3 6 pv)] ++ [])) (by rw [hqn.1]; exact (List.append_nil _).symm) ?_
          exact hret ((qPlayer f 3 vv skill hand purse).1, ((qPlayer f 3 vv skill hand purse).2), pv, []) _ _ _ _ _ _ (by refine ⟨rfl, Or.inl ⟨hqn.1, rfl, rfl⟩⟩) (congrArg (fun z => some (ai z)) (by rw [hqn.2]; (repeat' split) <;> first | rfl | (exfalso; omega))) rfl (Nat.le_of_ble_eq_true rfl) (Nat.le_of_ble_eq_true rfl) dX11_player_57
        · skip
          refine v_iload (pc := 43) 5 rfl dX11_player_43 ?_
          refine v_iconst (pc := 45) dX11_player_45 ?_
          refine v_sipush (pc := 46) dX11_player_46 (by decide) ?_
          refine v_callS (pc := 49) [] [0, 1] [(nw, co 10 [ar pls, ar ins, ar tap, ar e3, ar e4, ar e5, ar e6, ar e7, ar e8, ai (f 0), ai (f 1), ai (f 4), ai (f 2), ai (f 3), ai (f 6), ar bar]), (pls, cq 3 6 pv)] (As := [ai purse, ai 0, ai 9999]) (rest := []) (c_X11_isOut purse 0 9999 (by first | omega | assumption) (by first | omega | assumption) (by first | omega | assumption)) wl_X11_41 ws_X11_isOut wk_X11_isOut wz_X11 md_X11_isOut rfl (Nat.le_of_ble_eq_true rfl) ⟨Nat.le_of_ble_eq_true rfl, Nat.le_of_ble_eq_true rfl, Nat.le_of_ble_eq_true rfl, Nat.le_of_ble_eq_true rfl⟩ rfl rfl rfl rfl (by decide) ro_nil dX11_player_49 (fun u hu => ?_)
          show V x cX11_player RX11 7 (rmU 4 76 1 9) [(nw, co 10 [ar pls, ar ins, ar tap, ar e3, ar e4, ar e5, ar e6, ar e7, ar e8, ai (f 0), ai (f 1), ai (f 4), ai (f 2), ai (f 3), ai (f 6), ar bar]), (pls, cq 3 6 pv)] 52 [(0, ar mo), (1, ai 3), (2, ai vv), (3, ai skill), (4, ai hand), (5, ai purse)] [ai (if purse < 0 ∨ 9999 < purse then 1 else 0)] 0 0
          refine v_ifb_eq (pc := 52) 58 dX11_player_52 (by decide) (fun c_5 => ?_) (fun c_5 => ?_)
          · skip
            refine v_aload_n (pc := 58) 0 rfl dX11_player_58 ?_
            refine v_get (pc := 59) (v := ar nw) 0 (Or.inl r0) fl_11_12_11 rfl dX11_player_59 ?_
            refine v_get (pc := 62) (v := ai (f 0)) 9 (Or.inr ⟨0, rfl⟩) fl_11_71_10 rfl dX11_player_62 ?_
            refine v_bipush (pc := 65) dX11_player_65 (by decide) ?_
            refine v_icmp_lt (pc := 67) 73 dX11_player_67 (by decide) (by unfold iB; omega) (by unfold iB; omega) (fun c_6 => ?_) (fun c_6 => ?_)
            · skip
              refine v_iload_n (pc := 73) 1 rfl dX11_player_73 ?_
              refine v_aload_n (pc := 74) 0 rfl dX11_player_74 ?_
              refine v_get (pc := 75) (v := ar ta) 3 (Or.inl r0) fl_11_28_11 rfl dX11_player_75 ?_
              refine v_callS (pc := 78) [] [0, 1] [(nw, co 10 [ar pls, ar ins, ar tap, ar e3, ar e4, ar e5, ar e6, ar e7, ar e8, ai (f 0), ai (f 1), ai (f 4), ai (f 2), ai (f 3), ai (f 6), ar bar]), (pls, cq 3 6 pv)] (As := [ai 3, ar ta]) (rest := []) (c_X5_ofKind_k7 ta ) wl_X11_74 ws_X5_ofKind wk_X5_ofKind wz_X5 md_X5_ofKind rfl (Nat.le_of_ble_eq_true rfl) ⟨Nat.le_of_ble_eq_true rfl, Nat.le_of_ble_eq_true rfl, Nat.le_of_ble_eq_true rfl, Nat.le_of_ble_eq_true rfl⟩ rfl rfl rfl rfl (by decide) ro_nil dX11_player_78 (fun u hu => ?_)
              obtain ⟨q_7, rfl⟩ : ∃ z, z = u := ⟨_, rfl⟩
              show V x cX11_player RX11 7 (rmU 4 76 1 9) [(nw, co 10 [ar pls, ar ins, ar tap, ar e3, ar e4, ar e5, ar e6, ar e7, ar e8, ai (f 0), ai (f 1), ai (f 4), ai (f 2), ai (f 3), ai (f 6), ar bar]), (pls, cq 3 6 pv), (q_7, co 7 [ar ta, ai 3, ai 0, ai 0, ai 0, ai 0, ai 0, ai 0, ai 0])] 81 [(0, ar mo), (1, ai 3), (2, ai vv), (3, ai skill), (4, ai hand), (5, ai purse)] [ar q_7] 1 9
              refine v_astore (pc := 81) (L2 := [(6, ar q_7), (0, ar mo), (1, ai 3), (2, ai vv), (3, ai skill), (4, ai hand), (5, ai purse)]) rfl (by decide) dX11_player_81 ?_
              refine v_aload (pc := 83) 0 rfl dX11_player_83 ?_
              refine v_aload_n (pc := 85) 1 rfl dX11_player_85 ?_
              refine v_get (pc := 86) (v := ar nw) 0 (Or.inl r0) fl_11_12_11 rfl dX11_player_86 ?_
              refine v_get (pc := 89) (v := ai (f 0)) 9 (Or.inr ⟨0, rfl⟩) fl_11_71_10 rfl dX11_player_89 ?_
              refine v_put (pc := 92) 2 2 rfl fl_11_80_7 ck_7 ft_7_2 (okV_i _) (Nat.le_of_ble_eq_true rfl) (ws2 := [(nw, co 10 [ar pls, ar ins, ar tap, ar e3, ar e4, ar e5, ar e6, ar e7, ar e8, ai (f 0), ai (f 1), ai (f 4), ai (f 2), ai (f 3), ai (f 6), ar bar]), (pls, cq 3 6 pv), (q_7, co 7 [ar ta, ai 3, ai (f 0), ai 0, ai 0, ai 0, ai 0, ai 0, ai 0])]) rfl dX11_player_92 ?_
              refine v_aload (pc := 95) 0 rfl dX11_player_95 ?_
              refine v_iload_n (pc := 97) 3 rfl dX11_player_97 ?_
              refine v_put (pc := 98) 3 2 rfl fl_11_83_7 ck_7 ft_7_3 (okV_i _) (Nat.le_of_ble_eq_true rfl) (ws2 := [(nw, co 10 [ar pls, ar ins, ar tap, ar e3, ar e4, ar e5, ar e6, ar e7, ar e8, ai (f 0), ai (f 1), ai (f 4), ai (f 2), ai (f 3), ai (f 6), ar bar]), (pls, cq 3 6 pv), (q_7, co 7 [ar ta, ai 3, ai (f 0), ai vv, ai 0, ai 0, ai 0, ai 0, ai 0])]) rfl dX11_player_98 ?_
              refine v_aload (pc := 101) 0 rfl dX11_player_101 ?_
              refine v_iload_n (pc := 103) 4 rfl dX11_player_103 ?_
              refine v_put (pc := 104) 4 2 rfl fl_11_86_7 ck_7 ft_7_4 (okV_i _) (Nat.le_of_ble_eq_true rfl) (ws2 := [(nw, co 10 [ar pls, ar ins, ar tap, ar e3, ar e4, ar e5, ar e6, ar e7, ar e8, ai (f 0), ai (f 1), ai (f 4), ai (f 2), ai (f 3), ai (f 6), ar bar]), (pls, cq 3 6 pv), (q_7, co 7 [ar ta, ai 3, ai (f 0), ai vv, ai skill, ai 0, ai 0, ai 0, ai 0])]) rfl dX11_player_104 ?_
              refine v_aload (pc := 107) 0 rfl dX11_player_107 ?_
              refine v_iload (pc := 109) 5 rfl dX11_player_109 ?_
              refine v_put (pc := 111) 5 2 rfl fl_11_89_7 ck_7 ft_7_5 (okV_i _) (Nat.le_of_ble_eq_true rfl) (ws2 := [(nw, co 10 [ar pls, ar ins, ar tap, ar e3, ar e4, ar e5, ar e6, ar e7, ar e8, ai (f 0), ai (f 1), ai (f 4), ai (f 2), ai (f 3), ai (f 6), ar bar]), (pls, cq 3 6 pv), (q_7, co 7 [ar ta, ai 3, ai (f 0), ai vv, ai skill, ai hand, ai 0, ai 0, ai 0])]) rfl dX11_player_111 ?_
              refine v_aload (pc := 114) 0 rfl dX11_player_114 ?_
              refine v_iload (pc := 116) 6 rfl dX11_player_116 ?_
              refine v_put (pc := 118) 8 2 rfl fl_11_92_7 ck_7 ft_7_8 (okV_i _) (Nat.le_of_ble_eq_true rfl) (ws2 := [(nw, co 10 [ar pls, ar ins, ar tap, ar e3, ar e4, ar e5, ar e6, ar e7, ar e8, ai (f 0), ai (f 1), ai (f 4), ai (f 2), ai (f 3), ai (f 6), ar bar]), (pls, cq 3 6 pv), (q_7, co 7 [ar ta, ai 3, ai (f 0), ai vv, ai skill, ai hand, ai 0, ai 0, ai purse])]) rfl dX11_player_118 ?_
              refine v_aload_n (pc := 121) 1 rfl dX11_player_121 ?_
              refine v_get (pc := 122) (v := ar nw) 0 (Or.inl r0) fl_11_12_11 rfl dX11_player_122 ?_
              refine v_get (pc := 125) (v := ar pls) 0 (Or.inr ⟨0, rfl⟩) fl_11_95_10 rfl dX11_player_125 ?_
              refine v_aload_n (pc := 128) 1 rfl dX11_player_128 ?_
              refine v_get (pc := 129) (v := ar nw) 0 (Or.inl r0) fl_11_12_11 rfl dX11_player_129 ?_
              refine v_get (pc := 132) (v := ai (f 0)) 9 (Or.inr ⟨0, rfl⟩) fl_11_71_10 rfl dX11_player_132 ?_
              refine v_aload (pc := 135) 0 rfl dX11_player_135 ?_
              refine v_aastO (pc := 137) (o := (some q_7)) 1 tQ_3 rfl (fun b h => by cases h; exact ⟨7, _, _, rfl, (Or.inr ⟨2, rfl⟩), (Or.inr (List.mem_of_getElem? (i := 8) rfl))⟩) (by omega) (by omega) (by decide) (ws2 := [(nw, co 10 [ar pls, ar ins, ar tap, ar e3, ar e4, ar e5, ar e6, ar e7, ar e8, ai (f 0), ai (f 1), ai (f 4), ai (f 2), ai (f 3), ai (f 6), ar bar]), (pls, cq 3 6 (aupq pv (f 0) (some q_7))), (q_7, co 7 [ar ta, ai 3, ai (f 0), ai vv, ai skill, ai hand, ai 0, ai 0, ai purse])]) rfl dX11_player_137 ?_
              refine v_aload_n (pc := 138) 1 rfl dX11_player_138 ?_
              refine v_get (pc := 139) (v := ar nw) 0 (Or.inl r0) fl_11_12_11 rfl dX11_player_139 ?_
              refine v_dup (pc := 142) rfl dX11_player_142 ?_
              refine v_get (pc := 143) (v := ai (f 0)) 9 (Or.inr ⟨0, rfl⟩) fl_11_71_10 rfl dX11_player_143 ?_
              refine v_iconst (pc := 146) dX11_player_146 ?_
              refine v_iadd (pc := 147) dX11_player_147 ?_
              refine v_put (pc := 148) 9 0 rfl fl_11_71_10 ck_10 ft_10_9 (okV_i _) (Nat.le_of_ble_eq_true rfl) (ws2 := [(nw, co 10 [ar pls, ar ins, ar tap, ar e3, ar e4, ar e5, ar e6, ar e7, ar e8, ai ((f 0) + 1), ai (f 1), ai (f 4), ai (f 2), ai (f 3), ai (f 6), ar bar]), (pls, cq 3 6 (aupq pv (f 0) (some q_7))), (q_7, co 7 [ar ta, ai 3, ai (f 0), ai vv, ai skill, ai hand, ai 0, ai 0, ai purse])]) rfl dX11_player_148 ?_
              refine v_aload (pc := 151) 0 rfl dX11_player_151 ?_
              refine v_get (pc := 153) (v := ai (f 0)) 2 (Or.inr ⟨2, rfl⟩) fl_11_80_7 rfl dX11_player_153 ?_
              obtain ⟨w1, w0, wk, wv, wsk, wh, wg, wsc, wp, wt, wo⟩ := qPlayer_v (f := f) (k := 3) (v := vv) (s := skill) (h := hand) (u := purse) (by omega) (by omega) (by omega)
              have o1 : ((qPlayer f 3 vv skill hand purse).2) 1 = f 1 := wo 1 (by omega) (by omega) (by omega) (by omega) (by omega) (by omega) (by omega) (by omega) (by omega)
              have o4 : ((qPlayer f 3 vv skill hand purse).2) 4 = f 4 := wo 4 (by omega) (by omega) (by omega) (by omega) (by omega) (by omega) (by omega) (by omega) (by omega)
              have o2 : ((qPlayer f 3 vv skill hand purse).2) 2 = f 2 := wo 2 (by omega) (by omega) (by omega) (by omega) (by omega) (by omega) (by omega) (by omega) (by omega)
              have o3 : ((qPlayer f 3 vv skill hand purse).2) 3 = f 3 := wo 3 (by omega) (by omega) (by omega) (by omega) (by omega) (by omega) (by omega) (by omega) (by omega)
              have o6 : ((qPlayer f 3 vv skill hand purse).2) 6 = f 6 := wo 6 (by omega) (by omega) (by omega) (by omega) (by omega) (by omega) (by omega) (by omega) (by omega)
              refine v_ws (ws2 := ([(nw, co 10 [ar pls, ar ins, ar tap, ar e3, ar e4, ar e5, ar e6, ar e7, ar e8, ai (((qPlayer f 3 vv skill hand purse).2) 0), ai (((qPlayer f 3 vv skill hand purse).2) 1), ai (((qPlayer f 3 vv skill hand purse).2) 4), ai (((qPlayer f 3 vv skill hand purse).2) 2), ai (((qPlayer f 3 vv skill hand purse).2) 3), ai (((qPlayer f 3 vv skill hand purse).2) 6), ar bar]), (pls, cq 3 6 (aupq pv (f 0) (some q_7)))] ++ zpW ta ((qPlayer f 3 vv skill hand purse).2) (fun _ => q_7) (fun _ => 0) (f 0))) (by rw [zpW_o (show ((qPlayer f 3 vv skill hand purse).2) (7 + f 0) ≠ 6 by rw [wk]; decide), zpO_k (show ((qPlayer f 3 vv skill hand purse).2) (7 + f 0) = 3 from wk) rfl rfl]; unfold zpL; rw [w0, o1, o4, o2, o3, o6, wk, wv, wsk, wh, wg, wsc, wp]; rfl) ?_
              exact hret ((qPlayer f 3 vv skill hand purse).1, ((qPlayer f 3 vv skill hand purse).2), aupq pv (f 0) (some q_7), zpW ta ((qPlayer f 3 vv skill hand purse).2) (fun _ => q_7) (fun _ => 0) (f 0)) _ _ _ _ _ _ (by refine ⟨rfl, Or.inr ⟨q_7, 0, ⟨by omega, w0, fun p p0 p1 => ?_⟩, rfl, rfl⟩⟩; have ee : ∀ o : Int, o = 7 ∨ o = 13 ∨ o = 19 ∨ o = 25 ∨ o = 31 ∨ o = 37 ∨ o = 43 → ((qPlayer f 3 vv skill hand purse).2) (o + p) = f (o + p) := (fun o ho => wo _ (by omega) (by omega) (by omega) (by omega) (by omega) (by omega) (by omega) (by omega) (by omega)); refine ⟨ee 7 (by omega), ?_, ?_⟩; (funext t; show co (kC (((qPlayer f 3 vv skill hand purse).2) (7 + p))) (zpL ta ((qPlayer f 3 vv skill hand purse).2) p (zpT (((qPlayer f 3 vv skill hand purse).2) (7 + p)) t)) = co (kC (f (7 + p))) (zpL ta f p (zpT (f (7 + p)) t)); unfold zpL; rw [ee 7 (by omega), ee 13 (by omega), ee 19 (by omega), ee 25 (by omega), ee 31 (by omega), ee 37 (by omega), ee 43 (by omega)]); (exact tnF_cg (fun j j0 j1 => wo _ (by omega) (by omega) (by omega) (by omega) (by omega) (by omega) (by omega) (by omega) (by omega)))) (congrArg (fun z => some (ai z)) (by exact w1)) rfl (Nat.le_of_ble_eq_true rfl) (Nat.le_of_ble_eq_true rfl) dX11_player_156
            · skip
              refine v_bipush (pc := 70) dX11_player_70 (by decide) ?_
              have hqn := qPlayer_n (f := f) (k := 3) (v := vv) (s := skill) (h := hand) (u := purse) (by omega)
              refine v_ws (ws2 := ([(nw, co 10 [ar pls, ar ins, ar tap, ar e3, ar e4, ar e5, ar e6, ar e7, ar e8, ai (((qPlayer f 3 vv skill hand purse).2) 0), ai (((qPlayer f 3 vv skill hand purse).2) 1), ai (((qPlayer f 3 vv skill hand purse).2) 4), ai (((qPlayer f 3 vv skill hand purse).2) 2), ai (((qPlayer f 3 vv skill hand purse).2) 3), ai (((qPlayer f 3 vv skill hand purse).2) 6), ar bar]), (pls, cq 3 6 pv)] ++ [])) (by rw [hqn.1]; exact (List.append_nil _).symm) ?_
              exact hret ((qPlayer f 3 vv skill hand purse).1, ((qPlayer f 3 vv skill hand purse).2), pv, []) _ _ _ _ _ _ (by refine ⟨rfl, Or.inl ⟨hqn.1, rfl, rfl⟩⟩) (congrArg (fun z => some (ai z)) (by rw [hqn.2]; (repeat' split) <;> first | rfl | (exfalso; omega))) rfl (Nat.le_of_ble_eq_true rfl) (Nat.le_of_ble_eq_true rfl) dX11_player_72
          · skip
            refine v_bipush (pc := 55) dX11_player_55 (by decide) ?_
            have hqn := qPlayer_n (f := f) (k := 3) (v := vv) (s := skill) (h := hand) (u := purse) (by omega)
            refine v_ws (ws2 := ([(nw, co 10 [ar pls, ar ins, ar tap, ar e3, ar e4, ar e5, ar e6, ar e7, ar e8, ai (((qPlayer f 3 vv skill hand purse).2) 0), ai (((qPlayer f 3 vv skill hand purse).2) 1), ai (((qPlayer f 3 vv skill hand purse).2) 4), ai (((qPlayer f 3 vv skill hand purse).2) 2), ai (((qPlayer f 3 vv skill hand purse).2) 3), ai (((qPlayer f 3 vv skill hand purse).2) 6), ar bar]), (pls, cq 3 6 pv)] ++ [])) (by rw [hqn.1]; exact (List.append_nil _).symm) ?_
            exact hret ((qPlayer f 3 vv skill hand purse).1, ((qPlayer f 3 vv skill hand purse).2), pv, []) _ _ _ _ _ _ (by refine ⟨rfl, Or.inl ⟨hqn.1, rfl, rfl⟩⟩) (congrArg (fun z => some (ai z)) (by rw [hqn.2]; (repeat' split) <;> first | rfl | (exfalso; omega))) rfl (Nat.le_of_ble_eq_true rfl) (Nat.le_of_ble_eq_true rfl) dX11_player_57
  · skip
    exfalso; omega
set_option maxHeartbeats 4000000 in
set_option maxRecDepth 100000 in
theorem c_X11_player_k4 {gS : sG} (mo : Nat) (kw : Nat) (pi : Nat) (ta : Nat) (ms : Nat) (pt : Nat) (po : Nat) (hi : Int) (nw : Nat) (pls : Nat) (ins : Nat) (tap : Nat) (e3 : Nat) (e4 : Nat) (e5 : Nat) (e6 : Nat) (e7 : Nat) (e8 : Nat) (bar : Nat) (pv : Int → Option Nat) (f : Int → Int) (vv : Int) (skill : Int) (hand : Int) (purse : Int) (hS : SOK f) (hb_vv : -2147483648 ≤ vv ∧ vv < 2147483648) (hb_skill : -2147483648 ≤ skill ∧ skill < 2147483648) (hb_hand : -2147483648 ≤ hand ∧ hand < 2147483648) (hb_purse : -2147483648 ≤ purse ∧ purse < 2147483648) : Ct gS (S := Int × (Int → Int) × (Int → Option Nat) × aW) yX11_player cX11_player 7 (some .int) 5 97 1 9 [ar mo, ai 4, ai vv, ai skill, ai hand, ai purse] [(nw, co 10 [ar pls, ar ins, ar tap, ar e3, ar e4, ar e5, ar e6, ar e7, ar e8, ai (f 0), ai (f 1), ai (f 4), ai (f 2), ai (f 3), ai (f 6), ar bar]), (pls, cq 3 6 pv)] (fun q => q ∈ ([(mo, co 11 [ar nw, ar kw, ar pi, ar ta, ar ms, ar pt, ar po, ai hi])] : aW)) (fun u => (u.1, u.2.1) = (qPlayer f 4 vv skill hand purse) ∧ plG ta f u.2.1 pv u.2.2.1 u.2.2.2) (fun u => some (ai u.1)) (fun u => ([(nw, co 10 [ar pls, ar ins, ar tap, ar e3, ar e4, ar e5, ar e6, ar e7, ar e8, ai (u.2.1 0), ai (u.2.1 1), ai (u.2.1 4), ai (u.2.1 2), ai (u.2.1 3), ai (u.2.1 6), ar bar]), (pls, cq 3 6 u.2.2.1)] ++ u.2.2.2)) := by
  refine ct_I RX11 [(0, ar mo), (1, ai 4), (2, ai vv), (3, ai skill), (4, ai hand), (5, ai purse)] (by decide) rfl (Nat.le_of_ble_eq_true rfl) rfl (fun x hgS hro hret => ?_)
  subst hgS
  have r0 := hro _ (mem_at 0 rfl)
  obtain ⟨⟨hg0, hg1, hg2, hg3, hg4, hg5, hg6, hg7⟩, hSp, hSh, hSs, hSb, hSt, hSw⟩ := id hS
  show V x cX11_player RX11 7 (rmU 5 97 1 9) [(nw, co 10 [ar pls, ar ins, ar tap, ar e3, ar e4, ar e5, ar e6, ar e7, ar e8, ai (f 0), ai (f 1), ai (f 4), ai (f 2), ai (f 3), ai (f 6), ar bar]), (pls, cq 3 6 pv)] 0 [(0, ar mo), (1, ai 4), (2, ai vv), (3, ai skill), (4, ai hand), (5, ai purse)] [] 0 0
  refine v_iload_n (pc := 0) 1 rfl dX11_player_0 ?_
  refine v_iconst (pc := 1) dX11_player_1 ?_
  refine v_bipush (pc := 2) dX11_player_2 (by decide) ?_
  refine v_callS (pc := 4) [] [0, 1] [(nw, co 10 [ar pls, ar ins, ar tap, ar e3, ar e4, ar e5, ar e6, ar e7, ar e8, ai (f 0), ai (f 1), ai (f 4), ai (f 2), ai (f 3), ai (f 6), ar bar]), (pls, cq 3 6 pv)] (As := [ai 4, ai 0, ai 6]) (rest := []) (c_X11_isOut 4 0 6 (by first | omega | assumption) (by first | omega | assumption) (by first | omega | assumption)) wl_X11_41 ws_X11_isOut wk_X11_isOut wz_X11 md_X11_isOut rfl (Nat.le_of_ble_eq_true rfl) ⟨Nat.le_of_ble_eq_true rfl, Nat.le_of_ble_eq_true rfl, Nat.le_of_ble_eq_true rfl, Nat.le_of_ble_eq_true rfl⟩ rfl rfl rfl rfl (by decide) ro_nil dX11_player_4 (fun u hu => ?_)
  show V x cX11_player RX11 7 (rmU 5 97 1 9) [(nw, co 10 [ar pls, ar ins, ar tap, ar e3, ar e4, ar e5, ar e6, ar e7, ar e8, ai (f 0), ai (f 1), ai (f 4), ai (f 2), ai (f 3), ai (f 6), ar bar]), (pls, cq 3 6 pv)] 7 [(0, ar mo), (1, ai 4), (2, ai vv), (3, ai skill), (4, ai hand), (5, ai purse)] [ai (if 4 < 0 ∨ 6 < 4 then 1 else 0)] 0 0
  refine v_ifb_eq (pc := 7) 12 dX11_player_7 (by decide) (fun c_1 => ?_) (fun c_1 => ?_)
  · skip
    refine v_iload_n (pc := 12) 2 rfl dX11_player_12 ?_
    refine v_iconst (pc := 13) dX11_player_13 ?_
    refine v_bipush (pc := 14) dX11_player_14 (by decide) ?_
    refine v_callS (pc := 16) [] [0, 1] [(nw, co 10 [ar pls, ar ins, ar tap, ar e3, ar e4, ar e5, ar e6, ar e7, ar e8, ai (f 0), ai (f 1), ai (f 4), ai (f 2), ai (f 3), ai (f 6), ar bar]), (pls, cq 3 6 pv)] (As := [ai vv, ai 0, ai 9]) (rest := []) (c_X11_isOut vv 0 9 (by first | omega | assumption) (by first | omega | assumption) (by first | omega | assumption)) wl_X11_41 ws_X11_isOut wk_X11_isOut wz_X11 md_X11_isOut rfl (Nat.le_of_ble_eq_true rfl) ⟨Nat.le_of_ble_eq_true rfl, Nat.le_of_ble_eq_true rfl, Nat.le_of_ble_eq_true rfl, Nat.le_of_ble_eq_true rfl⟩ rfl rfl rfl rfl (by decide) ro_nil dX11_player_16 (fun u hu => ?_)
    show V x cX11_player RX11 7 (rmU 5 97 1 9) [(nw, co 10 [ar pls, ar ins, ar tap, ar e3, ar e4, ar e5, ar e6, ar e7, ar e8, ai (f 0), ai (f 1), ai (f 4), ai (f 2), ai (f 3), ai (f 6), ar bar]), (pls, cq 3 6 pv)] 19 [(0, ar mo), (1, ai 4), (2, ai vv), (3, ai skill), (4, ai hand), (5, ai purse)] [ai (if vv < 0 ∨ 9 < vv then 1 else 0)] 0 0
    refine v_ifb_ne (pc := 19) 55 dX11_player_19 (by decide) (fun c_2 => ?_) (fun c_2 => ?_)
    · skip
      refine v_bipush (pc := 55) dX11_player_55 (by decide) ?_
      have hqn := qPlayer_n (f := f) (k := 4) (v := vv) (s := skill) (h := hand) (u := purse) (by omega)
      refine v_ws (ws2 := ([(nw, co 10 [ar pls, ar ins, ar tap, ar e3, ar e4, ar e5, ar e6, ar e7, ar e8, ai (((qPlayer f 4 vv skill hand purse).2) 0), ai (((qPlayer f 4 vv skill hand purse).2) 1), ai (((qPlayer f 4 vv skill hand purse).2) 4), ai (((qPlayer f 4 vv skill hand purse).2) 2), ai (((qPlayer f 4 vv skill hand purse).2) 3), ai (((qPlayer f 4 vv skill hand purse).2) 6), ar bar]), (pls, cq 3 6 pv)] ++ [])) (by rw [hqn.1]; exact (List.append_nil _).symm) ?_
      exact hret ((qPlayer f 4 vv skill hand purse).1, ((qPlayer f 4 vv skill hand purse).2), pv, []) _ _ _ _ _ _ (by refine ⟨rfl, Or.inl ⟨hqn.1, rfl, rfl⟩⟩) (congrArg (fun z => some (ai z)) (by rw [hqn.2]; (repeat' split) <;> first | rfl | (exfalso; omega))) rfl (Nat.le_of_ble_eq_true rfl) (Nat.le_of_ble_eq_true rfl) dX11_player_57
    · skip
      refine v_iload_n (pc := 22) 3 rfl dX11_player_22 ?_
      refine v_iconst (pc := 23) dX11_player_23 ?_
      refine v_bipush (pc := 24) dX11_player_24 (by decide) ?_
      refine v_callS (pc := 26) [] [0, 1] [(nw, co 10 [ar pls, ar ins, ar tap, ar e3, ar e4, ar e5, ar e6, ar e7, ar e8, ai (f 0), ai (f 1), ai (f 4), ai (f 2), ai (f 3), ai (f 6), ar bar]), (pls, cq 3 6 pv)] (As := [ai skill, ai 0, ai 20]) (rest := []) (c_X11_isOut skill 0 20 (by first | omega | assumption) (by first | omega | assumption) (by first | omega | assumption)) wl_X11_41 ws_X11_isOut wk_X11_isOut wz_X11 md_X11_isOut rfl (Nat.le_of_ble_eq_true rfl) ⟨Nat.le_of_ble_eq_true rfl, Nat.le_of_ble_eq_true rfl, Nat.le_of_ble_eq_true rfl, Nat.le_of_ble_eq_true rfl⟩ rfl rfl rfl rfl (by decide) ro_nil dX11_player_26 (fun u hu => ?_)
      show V x cX11_player RX11 7 (rmU 5 97 1 9) [(nw, co 10 [ar pls, ar ins, ar tap, ar e3, ar e4, ar e5, ar e6, ar e7, ar e8, ai (f 0), ai (f 1), ai (f 4), ai (f 2), ai (f 3), ai (f 6), ar bar]), (pls, cq 3 6 pv)] 29 [(0, ar mo), (1, ai 4), (2, ai vv), (3, ai skill), (4, ai hand), (5, ai purse)] [ai (if skill < 0 ∨ 20 < skill then 1 else 0)] 0 0
      refine v_ifb_ne (pc := 29) 55 dX11_player_29 (by decide) (fun c_3 => ?_) (fun c_3 => ?_)
      · skip
        refine v_bipush (pc := 55) dX11_player_55 (by decide) ?_
        have hqn := qPlayer_n (f := f) (k := 4) (v := vv) (s := skill) (h := hand) (u := purse) (by omega)
        refine v_ws (ws2 := ([(nw, co 10 [ar pls, ar ins, ar tap, ar e3, ar e4, ar e5, ar e6, ar e7, ar e8, ai (((qPlayer f 4 vv skill hand purse).2) 0), ai (((qPlayer f 4 vv skill hand purse).2) 1), ai (((qPlayer f 4 vv skill hand purse).2) 4), ai (((qPlayer f 4 vv skill hand purse).2) 2), ai (((qPlayer f 4 vv skill hand purse).2) 3), ai (((qPlayer f 4 vv skill hand purse).2) 6), ar bar]), (pls, cq 3 6 pv)] ++ [])) (by rw [hqn.1]; exact (List.append_nil _).symm) ?_
        exact hret ((qPlayer f 4 vv skill hand purse).1, ((qPlayer f 4 vv skill hand purse).2), pv, []) _ _ _ _ _ _ (by refine ⟨rfl, Or.inl ⟨hqn.1, rfl, rfl⟩⟩) (congrArg (fun z => some (ai z)) (by rw [hqn.2]; (repeat' split) <;> first | rfl | (exfalso; omega))) rfl (Nat.le_of_ble_eq_true rfl) (Nat.le_of_ble_eq_true rfl) dX11_player_57
      · skip
        refine v_iload (pc := 32) 4 rfl dX11_player_32 ?_
        refine v_iconst (pc := 34) dX11_player_34 ?_
        refine v_bipush (pc := 35) dX11_player_35 (by decide) ?_
        refine v_callS (pc := 37) [] [0, 1] [(nw, co 10 [ar pls, ar ins, ar tap, ar e3, ar e4, ar e5, ar e6, ar e7, ar e8, ai (f 0), ai (f 1), ai (f 4), ai (f 2), ai (f 3), ai (f 6), ar bar]), (pls, cq 3 6 pv)] (As := [ai hand, ai 1, ai 9]) (rest := []) (c_X11_isOut hand 1 9 (by first | omega | assumption) (by first | omega | assumption) (by first | omega | assumption)) wl_X11_41 ws_X11_isOut wk_X11_isOut wz_X11 md_X11_isOut rfl (Nat.le_of_ble_eq_true rfl) ⟨Nat.le_of_ble_eq_true rfl, Nat.le_of_ble_eq_true rfl, Nat.le_of_ble_eq_true rfl, Nat.le_of_ble_eq_true rfl⟩ rfl rfl rfl rfl (by decide) ro_nil dX11_player_37 (fun u hu => ?_)
        show V x cX11_player RX11 7 (rmU 5 97 1 9) [(nw, co 10 [ar pls, ar ins, ar tap, ar e3, ar e4, ar e5, ar e6, ar e7, ar e8, ai (f 0), ai (f 1), ai (f 4), ai (f 2), ai (f 3), ai (f 6), ar bar]), (pls, cq 3 6 pv)] 40 [(0, ar mo), (1, ai 4), (2, ai vv), (3, ai skill), (4, ai hand), (5, ai purse)] [ai (if hand < 1 ∨ 9 < hand then 1 else 0)] 0 0
        refine v_ifb_ne (pc := 40) 55 dX11_player_40 (by decide) (fun c_4 => ?_) (fun c_4 => ?_)
        · skip
          refine v_bipush (pc := 55) dX11_player_55 (by decide) ?_
          have hqn := qPlayer_n (f := f) (k := 4) (v := vv) (s := skill) (h := hand) (u := purse) (by omega)
          refine v_ws (ws2 := ([(nw, co 10 [ar pls, ar ins, ar tap, ar e3, ar e4, ar e5, ar e6, ar e7, ar e8, ai (((qPlayer f 4 vv skill hand purse).2) 0), ai (((qPlayer f 4 vv skill hand purse).2) 1), ai (((qPlayer f 4 vv skill hand purse).2) 4), ai (((qPlayer f 4 vv skill hand purse).2) 2), ai (((qPlayer f 4 vv skill hand purse).2) 3), ai (((qPlayer f 4 vv skill hand purse).2) 6), ar bar]), (pls, cq 3 6 pv)] ++ [])) (by rw [hqn.1]; exact (List.append_nil _).symm) ?_
          exact hret ((qPlayer f 4 vv skill hand purse).1, ((qPlayer f 4 vv skill hand purse).2), pv, []) _ _ _ _ _ _ (by refine ⟨rfl, Or.inl ⟨hqn.1, rfl, rfl⟩⟩) (congrArg (fun z => some (ai z)) (by rw [hqn.2]; (repeat' split) <;> first | rfl | (exfalso; omega))) rfl (Nat.le_of_ble_eq_true rfl) (Nat.le_of_ble_eq_true rfl) dX11_player_57
        · skip
          refine v_iload (pc := 43) 5 rfl dX11_player_43 ?_
          refine v_iconst (pc := 45) dX11_player_45 ?_
          refine v_sipush (pc := 46) dX11_player_46 (by decide) ?_
          refine v_callS (pc := 49) [] [0, 1] [(nw, co 10 [ar pls, ar ins, ar tap, ar e3, ar e4, ar e5, ar e6, ar e7, ar e8, ai (f 0), ai (f 1), ai (f 4), ai (f 2), ai (f 3), ai (f 6), ar bar]), (pls, cq 3 6 pv)] (As := [ai purse, ai 0, ai 9999]) (rest := []) (c_X11_isOut purse 0 9999 (by first | omega | assumption) (by first | omega | assumption) (by first | omega | assumption)) wl_X11_41 ws_X11_isOut wk_X11_isOut wz_X11 md_X11_isOut rfl (Nat.le_of_ble_eq_true rfl) ⟨Nat.le_of_ble_eq_true rfl, Nat.le_of_ble_eq_true rfl, Nat.le_of_ble_eq_true rfl, Nat.le_of_ble_eq_true rfl⟩ rfl rfl rfl rfl (by decide) ro_nil dX11_player_49 (fun u hu => ?_)
          show V x cX11_player RX11 7 (rmU 5 97 1 9) [(nw, co 10 [ar pls, ar ins, ar tap, ar e3, ar e4, ar e5, ar e6, ar e7, ar e8, ai (f 0), ai (f 1), ai (f 4), ai (f 2), ai (f 3), ai (f 6), ar bar]), (pls, cq 3 6 pv)] 52 [(0, ar mo), (1, ai 4), (2, ai vv), (3, ai skill), (4, ai hand), (5, ai purse)] [ai (if purse < 0 ∨ 9999 < purse then 1 else 0)] 0 0
          refine v_ifb_eq (pc := 52) 58 dX11_player_52 (by decide) (fun c_5 => ?_) (fun c_5 => ?_)
          · skip
            refine v_aload_n (pc := 58) 0 rfl dX11_player_58 ?_
            refine v_get (pc := 59) (v := ar nw) 0 (Or.inl r0) fl_11_12_11 rfl dX11_player_59 ?_
            refine v_get (pc := 62) (v := ai (f 0)) 9 (Or.inr ⟨0, rfl⟩) fl_11_71_10 rfl dX11_player_62 ?_
            refine v_bipush (pc := 65) dX11_player_65 (by decide) ?_
            refine v_icmp_lt (pc := 67) 73 dX11_player_67 (by decide) (by unfold iB; omega) (by unfold iB; omega) (fun c_6 => ?_) (fun c_6 => ?_)
            · skip
              refine v_iload_n (pc := 73) 1 rfl dX11_player_73 ?_
              refine v_aload_n (pc := 74) 0 rfl dX11_player_74 ?_
              refine v_get (pc := 75) (v := ar ta) 3 (Or.inl r0) fl_11_28_11 rfl dX11_player_75 ?_
              refine v_callS (pc := 78) [] [0, 1] [(nw, co 10 [ar pls, ar ins, ar tap, ar e3, ar e4, ar e5, ar e6, ar e7, ar e8, ai (f 0), ai (f 1), ai (f 4), ai (f 2), ai (f 3), ai (f 6), ar bar]), (pls, cq 3 6 pv)] (As := [ai 4, ar ta]) (rest := []) (c_X5_ofKind_k1 ta ) wl_X11_74 ws_X5_ofKind wk_X5_ofKind wz_X5 md_X5_ofKind rfl (Nat.le_of_ble_eq_true rfl) ⟨Nat.le_of_ble_eq_true rfl, Nat.le_of_ble_eq_true rfl, Nat.le_of_ble_eq_true rfl, Nat.le_of_ble_eq_true rfl⟩ rfl rfl rfl rfl (by decide) ro_nil dX11_player_78 (fun u hu => ?_)
              obtain ⟨q_7, rfl⟩ : ∃ z, z = u := ⟨_, rfl⟩
              show V x cX11_player RX11 7 (rmU 5 97 1 9) [(nw, co 10 [ar pls, ar ins, ar tap, ar e3, ar e4, ar e5, ar e6, ar e7, ar e8, ai (f 0), ai (f 1), ai (f 4), ai (f 2), ai (f 3), ai (f 6), ar bar]), (pls, cq 3 6 pv), (q_7, co 1 [ar ta, ai 4, ai 0, ai 0, ai 0, ai 0, ai 0, ai 0, ai 0])] 81 [(0, ar mo), (1, ai 4), (2, ai vv), (3, ai skill), (4, ai hand), (5, ai purse)] [ar q_7] 1 9
              refine v_astore (pc := 81) (L2 := [(6, ar q_7), (0, ar mo), (1, ai 4), (2, ai vv), (3, ai skill), (4, ai hand), (5, ai purse)]) rfl (by decide) dX11_player_81 ?_
              refine v_aload (pc := 83) 0 rfl dX11_player_83 ?_
              refine v_aload_n (pc := 85) 1 rfl dX11_player_85 ?_
              refine v_get (pc := 86) (v := ar nw) 0 (Or.inl r0) fl_11_12_11 rfl dX11_player_86 ?_
              refine v_get (pc := 89) (v := ai (f 0)) 9 (Or.inr ⟨0, rfl⟩) fl_11_71_10 rfl dX11_player_89 ?_
              refine v_put (pc := 92) 2 2 rfl fl_11_80_1 ck_1 ft_1_2 (okV_i _) (Nat.le_of_ble_eq_true rfl) (ws2 := [(nw, co 10 [ar pls, ar ins, ar tap, ar e3, ar e4, ar e5, ar e6, ar e7, ar e8, ai (f 0), ai (f 1), ai (f 4), ai (f 2), ai (f 3), ai (f 6), ar bar]), (pls, cq 3 6 pv), (q_7, co 1 [ar ta, ai 4, ai (f 0), ai 0, ai 0, ai 0, ai 0, ai 0, ai 0])]) rfl dX11_player_92 ?_
              refine v_aload (pc := 95) 0 rfl dX11_player_95 ?_
              refine v_iload_n (pc := 97) 3 rfl dX11_player_97 ?_
              refine v_put (pc := 98) 3 2 rfl fl_11_83_1 ck_1 ft_1_3 (okV_i _) (Nat.le_of_ble_eq_true rfl) (ws2 := [(nw, co 10 [ar pls, ar ins, ar tap, ar e3, ar e4, ar e5, ar e6, ar e7, ar e8, ai (f 0), ai (f 1), ai (f 4), ai (f 2), ai (f 3), ai (f 6), ar bar]), (pls, cq 3 6 pv), (q_7, co 1 [ar ta, ai 4, ai (f 0), ai vv, ai 0, ai 0, ai 0, ai 0, ai 0])]) rfl dX11_player_98 ?_
              refine v_aload (pc := 101) 0 rfl dX11_player_101 ?_
              refine v_iload_n (pc := 103) 4 rfl dX11_player_103 ?_
              refine v_put (pc := 104) 4 2 rfl fl_11_86_1 ck_1 ft_1_4 (okV_i _) (Nat.le_of_ble_eq_true rfl) (ws2 := [(nw, co 10 [ar pls, ar ins, ar tap, ar e3, ar e4, ar e5, ar e6, ar e7, ar e8, ai (f 0), ai (f 1), ai (f 4), ai (f 2), ai (f 3), ai (f 6), ar bar]), (pls, cq 3 6 pv), (q_7, co 1 [ar ta, ai 4, ai (f 0), ai vv, ai skill, ai 0, ai 0, ai 0, ai 0])]) rfl dX11_player_104 ?_
              refine v_aload (pc := 107) 0 rfl dX11_player_107 ?_
              refine v_iload (pc := 109) 5 rfl dX11_player_109 ?_
              refine v_put (pc := 111) 5 2 rfl fl_11_89_1 ck_1 ft_1_5 (okV_i _) (Nat.le_of_ble_eq_true rfl) (ws2 := [(nw, co 10 [ar pls, ar ins, ar tap, ar e3, ar e4, ar e5, ar e6, ar e7, ar e8, ai (f 0), ai (f 1), ai (f 4), ai (f 2), ai (f 3), ai (f 6), ar bar]), (pls, cq 3 6 pv), (q_7, co 1 [ar ta, ai 4, ai (f 0), ai vv, ai skill, ai hand, ai 0, ai 0, ai 0])]) rfl dX11_player_111 ?_
              refine v_aload (pc := 114) 0 rfl dX11_player_114 ?_
              refine v_iload (pc := 116) 6 rfl dX11_player_116 ?_
              refine v_put (pc := 118) 8 2 rfl fl_11_92_1 ck_1 ft_1_8 (okV_i _) (Nat.le_of_ble_eq_true rfl) (ws2 := [(nw, co 10 [ar pls, ar ins, ar tap, ar e3, ar e4, ar e5, ar e6, ar e7, ar e8, ai (f 0), ai (f 1), ai (f 4), ai (f 2), ai (f 3), ai (f 6), ar bar]), (pls, cq 3 6 pv), (q_7, co 1 [ar ta, ai 4, ai (f 0), ai vv, ai skill, ai hand, ai 0, ai 0, ai purse])]) rfl dX11_player_118 ?_
              refine v_aload_n (pc := 121) 1 rfl dX11_player_121 ?_
              refine v_get (pc := 122) (v := ar nw) 0 (Or.inl r0) fl_11_12_11 rfl dX11_player_122 ?_
              refine v_get (pc := 125) (v := ar pls) 0 (Or.inr ⟨0, rfl⟩) fl_11_95_10 rfl dX11_player_125 ?_
              refine v_aload_n (pc := 128) 1 rfl dX11_player_128 ?_
              refine v_get (pc := 129) (v := ar nw) 0 (Or.inl r0) fl_11_12_11 rfl dX11_player_129 ?_
              refine v_get (pc := 132) (v := ai (f 0)) 9 (Or.inr ⟨0, rfl⟩) fl_11_71_10 rfl dX11_player_132 ?_
              refine v_aload (pc := 135) 0 rfl dX11_player_135 ?_
              refine v_aastO (pc := 137) (o := (some q_7)) 1 tQ_3 rfl (fun b h => by cases h; exact ⟨1, _, _, rfl, (Or.inr ⟨2, rfl⟩), (Or.inr (List.mem_of_getElem? (i := 1) rfl))⟩) (by omega) (by omega) (by decide) (ws2 := [(nw, co 10 [ar pls, ar ins, ar tap, ar e3, ar e4, ar e5, ar e6, ar e7, ar e8, ai (f 0), ai (f 1), ai (f 4), ai (f 2), ai (f 3), ai (f 6), ar bar]), (pls, cq 3 6 (aupq pv (f 0) (some q_7))), (q_7, co 1 [ar ta, ai 4, ai (f 0), ai vv, ai skill, ai hand, ai 0, ai 0, ai purse])]) rfl dX11_player_137 ?_
              refine v_aload_n (pc := 138) 1 rfl dX11_player_138 ?_
              refine v_get (pc := 139) (v := ar nw) 0 (Or.inl r0) fl_11_12_11 rfl dX11_player_139 ?_
              refine v_dup (pc := 142) rfl dX11_player_142 ?_
              refine v_get (pc := 143) (v := ai (f 0)) 9 (Or.inr ⟨0, rfl⟩) fl_11_71_10 rfl dX11_player_143 ?_
              refine v_iconst (pc := 146) dX11_player_146 ?_
              refine v_iadd (pc := 147) dX11_player_147 ?_
              refine v_put (pc := 148) 9 0 rfl fl_11_71_10 ck_10 ft_10_9 (okV_i _) (Nat.le_of_ble_eq_true rfl) (ws2 := [(nw, co 10 [ar pls, ar ins, ar tap, ar e3, ar e4, ar e5, ar e6, ar e7, ar e8, ai ((f 0) + 1), ai (f 1), ai (f 4), ai (f 2), ai (f 3), ai (f 6), ar bar]), (pls, cq 3 6 (aupq pv (f 0) (some q_7))), (q_7, co 1 [ar ta, ai 4, ai (f 0), ai vv, ai skill, ai hand, ai 0, ai 0, ai purse])]) rfl dX11_player_148 ?_
              refine v_aload (pc := 151) 0 rfl dX11_player_151 ?_
              refine v_get (pc := 153) (v := ai (f 0)) 2 (Or.inr ⟨2, rfl⟩) fl_11_80_1 rfl dX11_player_153 ?_
              obtain ⟨w1, w0, wk, wv, wsk, wh, wg, wsc, wp, wt, wo⟩ := qPlayer_v (f := f) (k := 4) (v := vv) (s := skill) (h := hand) (u := purse) (by omega) (by omega) (by omega)
              have o1 : ((qPlayer f 4 vv skill hand purse).2) 1 = f 1 := wo 1 (by omega) (by omega) (by omega) (by omega) (by omega) (by omega) (by omega) (by omega) (by omega)
              have o4 : ((qPlayer f 4 vv skill hand purse).2) 4 = f 4 := wo 4 (by omega) (by omega) (by omega) (by omega) (by omega) (by omega) (by omega) (by omega) (by omega)
              have o2 : ((qPlayer f 4 vv skill hand purse).2) 2 = f 2 := wo 2 (by omega) (by omega) (by omega) (by omega) (by omega) (by omega) (by omega) (by omega) (by omega)
              have o3 : ((qPlayer f 4 vv skill hand purse).2) 3 = f 3 := wo 3 (by omega) (by omega) (by omega) (by omega) (by omega) (by omega) (by omega) (by omega) (by omega)
              have o6 : ((qPlayer f 4 vv skill hand purse).2) 6 = f 6 := wo 6 (by omega) (by omega) (by omega) (by omega) (by omega) (by omega) (by omega) (by omega) (by omega)
              refine v_ws (ws2 := ([(nw, co 10 [ar pls, ar ins, ar tap, ar e3, ar e4, ar e5, ar e6, ar e7, ar e8, ai (((qPlayer f 4 vv skill hand purse).2) 0), ai (((qPlayer f 4 vv skill hand purse).2) 1), ai (((qPlayer f 4 vv skill hand purse).2) 4), ai (((qPlayer f 4 vv skill hand purse).2) 2), ai (((qPlayer f 4 vv skill hand purse).2) 3), ai (((qPlayer f 4 vv skill hand purse).2) 6), ar bar]), (pls, cq 3 6 (aupq pv (f 0) (some q_7)))] ++ zpW ta ((qPlayer f 4 vv skill hand purse).2) (fun _ => q_7) (fun _ => 0) (f 0))) (by rw [zpW_o (show ((qPlayer f 4 vv skill hand purse).2) (7 + f 0) ≠ 6 by rw [wk]; decide), zpO_k (show ((qPlayer f 4 vv skill hand purse).2) (7 + f 0) = 4 from wk) rfl rfl]; unfold zpL; rw [w0, o1, o4, o2, o3, o6, wk, wv, wsk, wh, wg, wsc, wp]; rfl) ?_
              exact hret ((qPlayer f 4 vv skill hand purse).1, ((qPlayer f 4 vv skill hand purse).2), aupq pv (f 0) (some q_7), zpW ta ((qPlayer f 4 vv skill hand purse).2) (fun _ => q_7) (fun _ => 0) (f 0)) _ _ _ _ _ _ (by refine ⟨rfl, Or.inr ⟨q_7, 0, ⟨by omega, w0, fun p p0 p1 => ?_⟩, rfl, rfl⟩⟩; have ee : ∀ o : Int, o = 7 ∨ o = 13 ∨ o = 19 ∨ o = 25 ∨ o = 31 ∨ o = 37 ∨ o = 43 → ((qPlayer f 4 vv skill hand purse).2) (o + p) = f (o + p) := (fun o ho => wo _ (by omega) (by omega) (by omega) (by omega) (by omega) (by omega) (by omega) (by omega) (by omega)); refine ⟨ee 7 (by omega), ?_, ?_⟩; (funext t; show co (kC (((qPlayer f 4 vv skill hand purse).2) (7 + p))) (zpL ta ((qPlayer f 4 vv skill hand purse).2) p (zpT (((qPlayer f 4 vv skill hand purse).2) (7 + p)) t)) = co (kC (f (7 + p))) (zpL ta f p (zpT (f (7 + p)) t)); unfold zpL; rw [ee 7 (by omega), ee 13 (by omega), ee 19 (by omega), ee 25 (by omega), ee 31 (by omega), ee 37 (by omega), ee 43 (by omega)]); (exact tnF_cg (fun j j0 j1 => wo _ (by omega) (by omega) (by omega) (by omega) (by omega) (by omega) (by omega) (by omega) (by omega)))) (congrArg (fun z => some (ai z)) (by exact w1)) rfl (Nat.le_of_ble_eq_true rfl) (Nat.le_of_ble_eq_true rfl) dX11_player_156
            · skip
              refine v_bipush (pc := 70) dX11_player_70 (by decide) ?_
              have hqn := qPlayer_n (f := f) (k := 4) (v := vv) (s := skill) (h := hand) (u := purse) (by omega)
              refine v_ws (ws2 := ([(nw, co 10 [ar pls, ar ins, ar tap, ar e3, ar e4, ar e5, ar e6, ar e7, ar e8, ai (((qPlayer f 4 vv skill hand purse).2) 0), ai (((qPlayer f 4 vv skill hand purse).2) 1), ai (((qPlayer f 4 vv skill hand purse).2) 4), ai (((qPlayer f 4 vv skill hand purse).2) 2), ai (((qPlayer f 4 vv skill hand purse).2) 3), ai (((qPlayer f 4 vv skill hand purse).2) 6), ar bar]), (pls, cq 3 6 pv)] ++ [])) (by rw [hqn.1]; exact (List.append_nil _).symm) ?_
              exact hret ((qPlayer f 4 vv skill hand purse).1, ((qPlayer f 4 vv skill hand purse).2), pv, []) _ _ _ _ _ _ (by refine ⟨rfl, Or.inl ⟨hqn.1, rfl, rfl⟩⟩) (congrArg (fun z => some (ai z)) (by rw [hqn.2]; (repeat' split) <;> first | rfl | (exfalso; omega))) rfl (Nat.le_of_ble_eq_true rfl) (Nat.le_of_ble_eq_true rfl) dX11_player_72
          · skip
            refine v_bipush (pc := 55) dX11_player_55 (by decide) ?_
            have hqn := qPlayer_n (f := f) (k := 4) (v := vv) (s := skill) (h := hand) (u := purse) (by omega)
            refine v_ws (ws2 := ([(nw, co 10 [ar pls, ar ins, ar tap, ar e3, ar e4, ar e5, ar e6, ar e7, ar e8, ai (((qPlayer f 4 vv skill hand purse).2) 0), ai (((qPlayer f 4 vv skill hand purse).2) 1), ai (((qPlayer f 4 vv skill hand purse).2) 4), ai (((qPlayer f 4 vv skill hand purse).2) 2), ai (((qPlayer f 4 vv skill hand purse).2) 3), ai (((qPlayer f 4 vv skill hand purse).2) 6), ar bar]), (pls, cq 3 6 pv)] ++ [])) (by rw [hqn.1]; exact (List.append_nil _).symm) ?_
            exact hret ((qPlayer f 4 vv skill hand purse).1, ((qPlayer f 4 vv skill hand purse).2), pv, []) _ _ _ _ _ _ (by refine ⟨rfl, Or.inl ⟨hqn.1, rfl, rfl⟩⟩) (congrArg (fun z => some (ai z)) (by rw [hqn.2]; (repeat' split) <;> first | rfl | (exfalso; omega))) rfl (Nat.le_of_ble_eq_true rfl) (Nat.le_of_ble_eq_true rfl) dX11_player_57
  · skip
    exfalso; omega
set_option maxHeartbeats 4000000 in
set_option maxRecDepth 100000 in
theorem c_X11_player_k5 {gS : sG} (mo : Nat) (kw : Nat) (pi : Nat) (ta : Nat) (ms : Nat) (pt : Nat) (po : Nat) (hi : Int) (nw : Nat) (pls : Nat) (ins : Nat) (tap : Nat) (e3 : Nat) (e4 : Nat) (e5 : Nat) (e6 : Nat) (e7 : Nat) (e8 : Nat) (bar : Nat) (pv : Int → Option Nat) (f : Int → Int) (vv : Int) (skill : Int) (hand : Int) (purse : Int) (hS : SOK f) (hb_vv : -2147483648 ≤ vv ∧ vv < 2147483648) (hb_skill : -2147483648 ≤ skill ∧ skill < 2147483648) (hb_hand : -2147483648 ≤ hand ∧ hand < 2147483648) (hb_purse : -2147483648 ≤ purse ∧ purse < 2147483648) : Ct gS (S := Int × (Int → Int) × (Int → Option Nat) × aW) yX11_player cX11_player 7 (some .int) 5 97 1 9 [ar mo, ai 5, ai vv, ai skill, ai hand, ai purse] [(nw, co 10 [ar pls, ar ins, ar tap, ar e3, ar e4, ar e5, ar e6, ar e7, ar e8, ai (f 0), ai (f 1), ai (f 4), ai (f 2), ai (f 3), ai (f 6), ar bar]), (pls, cq 3 6 pv)] (fun q => q ∈ ([(mo, co 11 [ar nw, ar kw, ar pi, ar ta, ar ms, ar pt, ar po, ai hi])] : aW)) (fun u => (u.1, u.2.1) = (qPlayer f 5 vv skill hand purse) ∧ plG ta f u.2.1 pv u.2.2.1 u.2.2.2) (fun u => some (ai u.1)) (fun u => ([(nw, co 10 [ar pls, ar ins, ar tap, ar e3, ar e4, ar e5, ar e6, ar e7, ar e8, ai (u.2.1 0), ai (u.2.1 1), ai (u.2.1 4), ai (u.2.1 2), ai (u.2.1 3), ai (u.2.1 6), ar bar]), (pls, cq 3 6 u.2.2.1)] ++ u.2.2.2)) := by
  refine ct_I RX11 [(0, ar mo), (1, ai 5), (2, ai vv), (3, ai skill), (4, ai hand), (5, ai purse)] (by decide) rfl (Nat.le_of_ble_eq_true rfl) rfl (fun x hgS hro hret => ?_)
  subst hgS
  have r0 := hro _ (mem_at 0 rfl)
  obtain ⟨⟨hg0, hg1, hg2, hg3, hg4, hg5, hg6, hg7⟩, hSp, hSh, hSs, hSb, hSt, hSw⟩ := id hS
  show V x cX11_player RX11 7 (rmU 5 97 1 9) [(nw, co 10 [ar pls, ar ins, ar tap, ar e3, ar e4, ar e5, ar e6, ar e7, ar e8, ai (f 0), ai (f 1), ai (f 4), ai (f 2), ai (f 3), ai (f 6), ar bar]), (pls, cq 3 6 pv)] 0 [(0, ar mo), (1, ai 5), (2, ai vv), (3, ai skill), (4, ai hand), (5, ai purse)] [] 0 0
  refine v_iload_n (pc := 0) 1 rfl dX11_player_0 ?_
  refine v_iconst (pc := 1) dX11_player_1 ?_
  refine v_bipush (pc := 2) dX11_player_2 (by decide) ?_
  refine v_callS (pc := 4) [] [0, 1] [(nw, co 10 [ar pls, ar ins, ar tap, ar e3, ar e4, ar e5, ar e6, ar e7, ar e8, ai (f 0), ai (f 1), ai (f 4), ai (f 2), ai (f 3), ai (f 6), ar bar]), (pls, cq 3 6 pv)] (As := [ai 5, ai 0, ai 6]) (rest := []) (c_X11_isOut 5 0 6 (by first | omega | assumption) (by first | omega | assumption) (by first | omega | assumption)) wl_X11_41 ws_X11_isOut wk_X11_isOut wz_X11 md_X11_isOut rfl (Nat.le_of_ble_eq_true rfl) ⟨Nat.le_of_ble_eq_true rfl, Nat.le_of_ble_eq_true rfl, Nat.le_of_ble_eq_true rfl, Nat.le_of_ble_eq_true rfl⟩ rfl rfl rfl rfl (by decide) ro_nil dX11_player_4 (fun u hu => ?_)
  show V x cX11_player RX11 7 (rmU 5 97 1 9) [(nw, co 10 [ar pls, ar ins, ar tap, ar e3, ar e4, ar e5, ar e6, ar e7, ar e8, ai (f 0), ai (f 1), ai (f 4), ai (f 2), ai (f 3), ai (f 6), ar bar]), (pls, cq 3 6 pv)] 7 [(0, ar mo), (1, ai 5), (2, ai vv), (3, ai skill), (4, ai hand), (5, ai purse)] [ai (if 5 < 0 ∨ 6 < 5 then 1 else 0)] 0 0
  refine v_ifb_eq (pc := 7) 12 dX11_player_7 (by decide) (fun c_1 => ?_) (fun c_1 => ?_)
  · skip
    refine v_iload_n (pc := 12) 2 rfl dX11_player_12 ?_
    refine v_iconst (pc := 13) dX11_player_13 ?_
    refine v_bipush (pc := 14) dX11_player_14 (by decide) ?_
    refine v_callS (pc := 16) [] [0, 1] [(nw, co 10 [ar pls, ar ins, ar tap, ar e3, ar e4, ar e5, ar e6, ar e7, ar e8, ai (f 0), ai (f 1), ai (f 4), ai (f 2), ai (f 3), ai (f 6), ar bar]), (pls, cq 3 6 pv)] (As := [ai vv, ai 0, ai 9]) (rest := []) (c_X11_isOut vv 0 9 (by first | omega | assumption) (by first | omega | assumption) (by first | omega | assumption)) wl_X11_41 ws_X11_isOut wk_X11_isOut wz_X11 md_X11_isOut rfl (Nat.le_of_ble_eq_true rfl) ⟨Nat.le_of_ble_eq_true rfl, Nat.le_of_ble_eq_true rfl, Nat.le_of_ble_eq_true rfl, Nat.le_of_ble_eq_true rfl⟩ rfl rfl rfl rfl (by decide) ro_nil dX11_player_16 (fun u hu => ?_)
    show V x cX11_player RX11 7 (rmU 5 97 1 9) [(nw, co 10 [ar pls, ar ins, ar tap, ar e3, ar e4, ar e5, ar e6, ar e7, ar e8, ai (f 0), ai (f 1), ai (f 4), ai (f 2), ai (f 3), ai (f 6), ar bar]), (pls, cq 3 6 pv)] 19 [(0, ar mo), (1, ai 5), (2, ai vv), (3, ai skill), (4, ai hand), (5, ai purse)] [ai (if vv < 0 ∨ 9 < vv then 1 else 0)] 0 0
    refine v_ifb_ne (pc := 19) 55 dX11_player_19 (by decide) (fun c_2 => ?_) (fun c_2 => ?_)
    · skip
      refine v_bipush (pc := 55) dX11_player_55 (by decide) ?_
      have hqn := qPlayer_n (f := f) (k := 5) (v := vv) (s := skill) (h := hand) (u := purse) (by omega)
      refine v_ws (ws2 := ([(nw, co 10 [ar pls, ar ins, ar tap, ar e3, ar e4, ar e5, ar e6, ar e7, ar e8, ai (((qPlayer f 5 vv skill hand purse).2) 0), ai (((qPlayer f 5 vv skill hand purse).2) 1), ai (((qPlayer f 5 vv skill hand purse).2) 4), ai (((qPlayer f 5 vv skill hand purse).2) 2), ai (((qPlayer f 5 vv skill hand purse).2) 3), ai (((qPlayer f 5 vv skill hand purse).2) 6), ar bar]), (pls, cq 3 6 pv)] ++ [])) (by rw [hqn.1]; exact (List.append_nil _).symm) ?_
      exact hret ((qPlayer f 5 vv skill hand purse).1, ((qPlayer f 5 vv skill hand purse).2), pv, []) _ _ _ _ _ _ (by refine ⟨rfl, Or.inl ⟨hqn.1, rfl, rfl⟩⟩) (congrArg (fun z => some (ai z)) (by rw [hqn.2]; (repeat' split) <;> first | rfl | (exfalso; omega))) rfl (Nat.le_of_ble_eq_true rfl) (Nat.le_of_ble_eq_true rfl) dX11_player_57
    · skip
      refine v_iload_n (pc := 22) 3 rfl dX11_player_22 ?_
      refine v_iconst (pc := 23) dX11_player_23 ?_
      refine v_bipush (pc := 24) dX11_player_24 (by decide) ?_
      refine v_callS (pc := 26) [] [0, 1] [(nw, co 10 [ar pls, ar ins, ar tap, ar e3, ar e4, ar e5, ar e6, ar e7, ar e8, ai (f 0), ai (f 1), ai (f 4), ai (f 2), ai (f 3), ai (f 6), ar bar]), (pls, cq 3 6 pv)] (As := [ai skill, ai 0, ai 20]) (rest := []) (c_X11_isOut skill 0 20 (by first | omega | assumption) (by first | omega | assumption) (by first | omega | assumption)) wl_X11_41 ws_X11_isOut wk_X11_isOut wz_X11 md_X11_isOut rfl (Nat.le_of_ble_eq_true rfl) ⟨Nat.le_of_ble_eq_true rfl, Nat.le_of_ble_eq_true rfl, Nat.le_of_ble_eq_true rfl, Nat.le_of_ble_eq_true rfl⟩ rfl rfl rfl rfl (by decide) ro_nil dX11_player_26 (fun u hu => ?_)
      show V x cX11_player RX11 7 (rmU 5 97 1 9) [(nw, co 10 [ar pls, ar ins, ar tap, ar e3, ar e4, ar e5, ar e6, ar e7, ar e8, ai (f 0), ai (f 1), ai (f 4), ai (f 2), ai (f 3), ai (f 6), ar bar]), (pls, cq 3 6 pv)] 29 [(0, ar mo), (1, ai 5), (2, ai vv), (3, ai skill), (4, ai hand), (5, ai purse)] [ai (if skill < 0 ∨ 20 < skill then 1 else 0)] 0 0
      refine v_ifb_ne (pc := 29) 55 dX11_player_29 (by decide) (fun c_3 => ?_) (fun c_3 => ?_)
      · skip
        refine v_bipush (pc := 55) dX11_player_55 (by decide) ?_
        have hqn := qPlayer_n (f := f) (k := 5) (v := vv) (s := skill) (h := hand) (u := purse) (by omega)
        refine v_ws (ws2 := ([(nw, co 10 [ar pls, ar ins, ar tap, ar e3, ar e4, ar e5, ar e6, ar e7, ar e8, ai (((qPlayer f 5 vv skill hand purse).2) 0), ai (((qPlayer f 5 vv skill hand purse).2) 1), ai (((qPlayer f 5 vv skill hand purse).2) 4), ai (((qPlayer f 5 vv skill hand purse).2) 2), ai (((qPlayer f 5 vv skill hand purse).2) 3), ai (((qPlayer f 5 vv skill hand purse).2) 6), ar bar]), (pls, cq 3 6 pv)] ++ [])) (by rw [hqn.1]; exact (List.append_nil _).symm) ?_
        exact hret ((qPlayer f 5 vv skill hand purse).1, ((qPlayer f 5 vv skill hand purse).2), pv, []) _ _ _ _ _ _ (by refine ⟨rfl, Or.inl ⟨hqn.1, rfl, rfl⟩⟩) (congrArg (fun z => some (ai z)) (by rw [hqn.2]; (repeat' split) <;> first | rfl | (exfalso; omega))) rfl (Nat.le_of_ble_eq_true rfl) (Nat.le_of_ble_eq_true rfl) dX11_player_57
      · skip
        refine v_iload (pc := 32) 4 rfl dX11_player_32 ?_
        refine v_iconst (pc := 34) dX11_player_34 ?_
        refine v_bipush (pc := 35) dX11_player_35 (by decide) ?_
        refine v_callS (pc := 37) [] [0, 1] [(nw, co 10 [ar pls, ar ins, ar tap, ar e3, ar e4, ar e5, ar e6, ar e7, ar e8, ai (f 0), ai (f 1), ai (f 4), ai (f 2), ai (f 3), ai (f 6), ar bar]), (pls, cq 3 6 pv)] (As := [ai hand, ai 1, ai 9]) (rest := []) (c_X11_isOut hand 1 9 (by first | omega | assumption) (by first | omega | assumption) (by first | omega | assumption)) wl_X11_41 ws_X11_isOut wk_X11_isOut wz_X11 md_X11_isOut rfl (Nat.le_of_ble_eq_true rfl) ⟨Nat.le_of_ble_eq_true rfl, Nat.le_of_ble_eq_true rfl, Nat.le_of_ble_eq_true rfl, Nat.le_of_ble_eq_true rfl⟩ rfl rfl rfl rfl (by decide) ro_nil dX11_player_37 (fun u hu => ?_)
        show V x cX11_player RX11 7 (rmU 5 97 1 9) [(nw, co 10 [ar pls, ar ins, ar tap, ar e3, ar e4, ar e5, ar e6, ar e7, ar e8, ai (f 0), ai (f 1), ai (f 4), ai (f 2), ai (f 3), ai (f 6), ar bar]), (pls, cq 3 6 pv)] 40 [(0, ar mo), (1, ai 5), (2, ai vv), (3, ai skill), (4, ai hand), (5, ai purse)] [ai (if hand < 1 ∨ 9 < hand then 1 else 0)] 0 0
        refine v_ifb_ne (pc := 40) 55 dX11_player_40 (by decide) (fun c_4 => ?_) (fun c_4 => ?_)
        · skip
          refine v_bipush (pc := 55) dX11_player_55 (by decide) ?_
          have hqn := qPlayer_n (f := f) (k := 5) (v := vv) (s := skill) (h := hand) (u := purse) (by omega)
          refine v_ws (ws2 := ([(nw, co 10 [ar pls, ar ins, ar tap, ar e3, ar e4, ar e5, ar e6, ar e7, ar e8, ai (((qPlayer f 5 vv skill hand purse).2) 0), ai (((qPlayer f 5 vv skill hand purse).2) 1), ai (((qPlayer f 5 vv skill hand purse).2) 4), ai (((qPlayer f 5 vv skill hand purse).2) 2), ai (((qPlayer f 5 vv skill hand purse).2) 3), ai (((qPlayer f 5 vv skill hand purse).2) 6), ar bar]), (pls, cq 3 6 pv)] ++ [])) (by rw [hqn.1]; exact (List.append_nil _).symm) ?_
          exact hret ((qPlayer f 5 vv skill hand purse).1, ((qPlayer f 5 vv skill hand purse).2), pv, []) _ _ _ _ _ _ (by refine ⟨rfl, Or.inl ⟨hqn.1, rfl, rfl⟩⟩) (congrArg (fun z => some (ai z)) (by rw [hqn.2]; (repeat' split) <;> first | rfl | (exfalso; omega))) rfl (Nat.le_of_ble_eq_true rfl) (Nat.le_of_ble_eq_true rfl) dX11_player_57
        · skip
          refine v_iload (pc := 43) 5 rfl dX11_player_43 ?_
          refine v_iconst (pc := 45) dX11_player_45 ?_
          refine v_sipush (pc := 46) dX11_player_46 (by decide) ?_
          refine v_callS (pc := 49) [] [0, 1] [(nw, co 10 [ar pls, ar ins, ar tap, ar e3, ar e4, ar e5, ar e6, ar e7, ar e8, ai (f 0), ai (f 1), ai (f 4), ai (f 2), ai (f 3), ai (f 6), ar bar]), (pls, cq 3 6 pv)] (As := [ai purse, ai 0, ai 9999]) (rest := []) (c_X11_isOut purse 0 9999 (by first | omega | assumption) (by first | omega | assumption) (by first | omega | assumption)) wl_X11_41 ws_X11_isOut wk_X11_isOut wz_X11 md_X11_isOut rfl (Nat.le_of_ble_eq_true rfl) ⟨Nat.le_of_ble_eq_true rfl, Nat.le_of_ble_eq_true rfl, Nat.le_of_ble_eq_true rfl, Nat.le_of_ble_eq_true rfl⟩ rfl rfl rfl rfl (by decide) ro_nil dX11_player_49 (fun u hu => ?_)
          show V x cX11_player RX11 7 (rmU 5 97 1 9) [(nw, co 10 [ar pls, ar ins, ar tap, ar e3, ar e4, ar e5, ar e6, ar e7, ar e8, ai (f 0), ai (f 1), ai (f 4), ai (f 2), ai (f 3), ai (f 6), ar bar]), (pls, cq 3 6 pv)] 52 [(0, ar mo), (1, ai 5), (2, ai vv), (3, ai skill), (4, ai hand), (5, ai purse)] [ai (if purse < 0 ∨ 9999 < purse then 1 else 0)] 0 0
          refine v_ifb_eq (pc := 52) 58 dX11_player_52 (by decide) (fun c_5 => ?_) (fun c_5 => ?_)
          · skip
            refine v_aload_n (pc := 58) 0 rfl dX11_player_58 ?_
            refine v_get (pc := 59) (v := ar nw) 0 (Or.inl r0) fl_11_12_11 rfl dX11_player_59 ?_
            refine v_get (pc := 62) (v := ai (f 0)) 9 (Or.inr ⟨0, rfl⟩) fl_11_71_10 rfl dX11_player_62 ?_
            refine v_bipush (pc := 65) dX11_player_65 (by decide) ?_
            refine v_icmp_lt (pc := 67) 73 dX11_player_67 (by decide) (by unfold iB; omega) (by unfold iB; omega) (fun c_6 => ?_) (fun c_6 => ?_)
            · skip
              refine v_iload_n (pc := 73) 1 rfl dX11_player_73 ?_
              refine v_aload_n (pc := 74) 0 rfl dX11_player_74 ?_
              refine v_get (pc := 75) (v := ar ta) 3 (Or.inl r0) fl_11_28_11 rfl dX11_player_75 ?_
              refine v_callS (pc := 78) [] [0, 1] [(nw, co 10 [ar pls, ar ins, ar tap, ar e3, ar e4, ar e5, ar e6, ar e7, ar e8, ai (f 0), ai (f 1), ai (f 4), ai (f 2), ai (f 3), ai (f 6), ar bar]), (pls, cq 3 6 pv)] (As := [ai 5, ar ta]) (rest := []) (c_X5_ofKind_k2 ta ) wl_X11_74 ws_X5_ofKind wk_X5_ofKind wz_X5 md_X5_ofKind rfl (Nat.le_of_ble_eq_true rfl) ⟨Nat.le_of_ble_eq_true rfl, Nat.le_of_ble_eq_true rfl, Nat.le_of_ble_eq_true rfl, Nat.le_of_ble_eq_true rfl⟩ rfl rfl rfl rfl (by decide) ro_nil dX11_player_78 (fun u hu => ?_)
              obtain ⟨q_7, rfl⟩ : ∃ z, z = u := ⟨_, rfl⟩
              show V x cX11_player RX11 7 (rmU 5 97 1 9) [(nw, co 10 [ar pls, ar ins, ar tap, ar e3, ar e4, ar e5, ar e6, ar e7, ar e8, ai (f 0), ai (f 1), ai (f 4), ai (f 2), ai (f 3), ai (f 6), ar bar]), (pls, cq 3 6 pv), (q_7, co 2 [ar ta, ai 5, ai 0, ai 0, ai 0, ai 0, ai 0, ai 0, ai 0])] 81 [(0, ar mo), (1, ai 5), (2, ai vv), (3, ai skill), (4, ai hand), (5, ai purse)] [ar q_7] 1 9
              refine v_astore (pc := 81) (L2 := [(6, ar q_7), (0, ar mo), (1, ai 5), (2, ai vv), (3, ai skill), (4, ai hand), (5, ai purse)]) rfl (by decide) dX11_player_81 ?_
              refine v_aload (pc := 83) 0 rfl dX11_player_83 ?_
              refine v_aload_n (pc := 85) 1 rfl dX11_player_85 ?_
              refine v_get (pc := 86) (v := ar nw) 0 (Or.inl r0) fl_11_12_11 rfl dX11_player_86 ?_
              refine v_get (pc := 89) (v := ai (f 0)) 9 (Or.inr ⟨0, rfl⟩) fl_11_71_10 rfl dX11_player_89 ?_
              refine v_put (pc := 92) 2 2 rfl fl_11_80_2 ck_2 ft_2_2 (okV_i _) (Nat.le_of_ble_eq_true rfl) (ws2 := [(nw, co 10 [ar pls, ar ins, ar tap, ar e3, ar e4, ar e5, ar e6, ar e7, ar e8, ai (f 0), ai (f 1), ai (f 4), ai (f 2), ai (f 3), ai (f 6), ar bar]), (pls, cq 3 6 pv), (q_7, co 2 [ar ta, ai 5, ai (f 0), ai 0, ai 0, ai 0, ai 0, ai 0, ai 0])]) rfl dX11_player_92 ?_
              refine v_aload (pc := 95) 0 rfl dX11_player_95 ?_
              refine v_iload_n (pc := 97) 3 rfl dX11_player_97 ?_
              refine v_put (pc := 98) 3 2 rfl fl_11_83_2 ck_2 ft_2_3 (okV_i _) (Nat.le_of_ble_eq_true rfl) (ws2 := [(nw, co 10 [ar pls, ar ins, ar tap, ar e3, ar e4, ar e5, ar e6, ar e7, ar e8, ai (f 0), ai (f 1), ai (f 4), ai (f 2), ai (f 3), ai (f 6), ar bar]), (pls, cq 3 6 pv), (q_7, co 2 [ar ta, ai 5, ai (f 0), ai vv, ai 0, ai 0, ai 0, ai 0, ai 0])]) rfl dX11_player_98 ?_
              refine v_aload (pc := 101) 0 rfl dX11_player_101 ?_
              refine v_iload_n (pc := 103) 4 rfl dX11_player_103 ?_
              refine v_put (pc := 104) 4 2 rfl fl_11_86_2 ck_2 ft_2_4 (okV_i _) (Nat.le_of_ble_eq_true rfl) (ws2 := [(nw, co 10 [ar pls, ar ins, ar tap, ar e3, ar e4, ar e5, ar e6, ar e7, ar e8, ai (f 0), ai (f 1), ai (f 4), ai (f 2), ai (f 3), ai (f 6), ar bar]), (pls, cq 3 6 pv), (q_7, co 2 [ar ta, ai 5, ai (f 0), ai vv, ai skill, ai 0, ai 0, ai 0, ai 0])]) rfl dX11_player_104 ?_
              refine v_aload (pc := 107) 0 rfl dX11_player_107 ?_
              refine v_iload (pc := 109) 5 rfl dX11_player_109 ?_
              refine v_put (pc := 111) 5 2 rfl fl_11_89_2 ck_2 ft_2_5 (okV_i _) (Nat.le_of_ble_eq_true rfl) (ws2 := [(nw, co 10 [ar pls, ar ins, ar tap, ar e3, ar e4, ar e5, ar e6, ar e7, ar e8, ai (f 0), ai (f 1), ai (f 4), ai (f 2), ai (f 3), ai (f 6), ar bar]), (pls, cq 3 6 pv), (q_7, co 2 [ar ta, ai 5, ai (f 0), ai vv, ai skill, ai hand, ai 0, ai 0, ai 0])]) rfl dX11_player_111 ?_
              refine v_aload (pc := 114) 0 rfl dX11_player_114 ?_
              refine v_iload (pc := 116) 6 rfl dX11_player_116 ?_
              refine v_put (pc := 118) 8 2 rfl fl_11_92_2 ck_2 ft_2_8 (okV_i _) (Nat.le_of_ble_eq_true rfl) (ws2 := [(nw, co 10 [ar pls, ar ins, ar tap, ar e3, ar e4, ar e5, ar e6, ar e7, ar e8, ai (f 0), ai (f 1), ai (f 4), ai (f 2), ai (f 3), ai (f 6), ar bar]), (pls, cq 3 6 pv), (q_7, co 2 [ar ta, ai 5, ai (f 0), ai vv, ai skill, ai hand, ai 0, ai 0, ai purse])]) rfl dX11_player_118 ?_
              refine v_aload_n (pc := 121) 1 rfl dX11_player_121 ?_
              refine v_get (pc := 122) (v := ar nw) 0 (Or.inl r0) fl_11_12_11 rfl dX11_player_122 ?_
              refine v_get (pc := 125) (v := ar pls) 0 (Or.inr ⟨0, rfl⟩) fl_11_95_10 rfl dX11_player_125 ?_
              refine v_aload_n (pc := 128) 1 rfl dX11_player_128 ?_
              refine v_get (pc := 129) (v := ar nw) 0 (Or.inl r0) fl_11_12_11 rfl dX11_player_129 ?_
              refine v_get (pc := 132) (v := ai (f 0)) 9 (Or.inr ⟨0, rfl⟩) fl_11_71_10 rfl dX11_player_132 ?_
              refine v_aload (pc := 135) 0 rfl dX11_player_135 ?_
              refine v_aastO (pc := 137) (o := (some q_7)) 1 tQ_3 rfl (fun b h => by cases h; exact ⟨2, _, _, rfl, (Or.inr ⟨2, rfl⟩), (Or.inr (List.mem_of_getElem? (i := 3) rfl))⟩) (by omega) (by omega) (by decide) (ws2 := [(nw, co 10 [ar pls, ar ins, ar tap, ar e3, ar e4, ar e5, ar e6, ar e7, ar e8, ai (f 0), ai (f 1), ai (f 4), ai (f 2), ai (f 3), ai (f 6), ar bar]), (pls, cq 3 6 (aupq pv (f 0) (some q_7))), (q_7, co 2 [ar ta, ai 5, ai (f 0), ai vv, ai skill, ai hand, ai 0, ai 0, ai purse])]) rfl dX11_player_137 ?_
              refine v_aload_n (pc := 138) 1 rfl dX11_player_138 ?_
              refine v_get (pc := 139) (v := ar nw) 0 (Or.inl r0) fl_11_12_11 rfl dX11_player_139 ?_
              refine v_dup (pc := 142) rfl dX11_player_142 ?_
              refine v_get (pc := 143) (v := ai (f 0)) 9 (Or.inr ⟨0, rfl⟩) fl_11_71_10 rfl dX11_player_143 ?_
              refine v_iconst (pc := 146) dX11_player_146 ?_
              refine v_iadd (pc := 147) dX11_player_147 ?_
              refine v_put (pc := 148) 9 0 rfl fl_11_71_10 ck_10 ft_10_9 (okV_i _) (Nat.le_of_ble_eq_true rfl) (ws2 := [(nw, co 10 [ar pls, ar ins, ar tap, ar e3, ar e4, ar e5, ar e6, ar e7, ar e8, ai ((f 0) + 1), ai (f 1), ai (f 4), ai (f 2), ai (f 3), ai (f 6), ar bar]), (pls, cq 3 6 (aupq pv (f 0) (some q_7))), (q_7, co 2 [ar ta, ai 5, ai (f 0), ai vv, ai skill, ai hand, ai 0, ai 0, ai purse])]) rfl dX11_player_148 ?_
              refine v_aload (pc := 151) 0 rfl dX11_player_151 ?_
              refine v_get (pc := 153) (v := ai (f 0)) 2 (Or.inr ⟨2, rfl⟩) fl_11_80_2 rfl dX11_player_153 ?_
              obtain ⟨w1, w0, wk, wv, wsk, wh, wg, wsc, wp, wt, wo⟩ := qPlayer_v (f := f) (k := 5) (v := vv) (s := skill) (h := hand) (u := purse) (by omega) (by omega) (by omega)
              have o1 : ((qPlayer f 5 vv skill hand purse).2) 1 = f 1 := wo 1 (by omega) (by omega) (by omega) (by omega) (by omega) (by omega) (by omega) (by omega) (by omega)
              have o4 : ((qPlayer f 5 vv skill hand purse).2) 4 = f 4 := wo 4 (by omega) (by omega) (by omega) (by omega) (by omega) (by omega) (by omega) (by omega) (by omega)
              have o2 : ((qPlayer f 5 vv skill hand purse).2) 2 = f 2 := wo 2 (by omega) (by omega) (by omega) (by omega) (by omega) (by omega) (by omega) (by omega) (by omega)
              have o3 : ((qPlayer f 5 vv skill hand purse).2) 3 = f 3 := wo 3 (by omega) (by omega) (by omega) (by omega) (by omega) (by omega) (by omega) (by omega) (by omega)
              have o6 : ((qPlayer f 5 vv skill hand purse).2) 6 = f 6 := wo 6 (by omega) (by omega) (by omega) (by omega) (by omega) (by omega) (by omega) (by omega) (by omega)
              refine v_ws (ws2 := ([(nw, co 10 [ar pls, ar ins, ar tap, ar e3, ar e4, ar e5, ar e6, ar e7, ar e8, ai (((qPlayer f 5 vv skill hand purse).2) 0), ai (((qPlayer f 5 vv skill hand purse).2) 1), ai (((qPlayer f 5 vv skill hand purse).2) 4), ai (((qPlayer f 5 vv skill hand purse).2) 2), ai (((qPlayer f 5 vv skill hand purse).2) 3), ai (((qPlayer f 5 vv skill hand purse).2) 6), ar bar]), (pls, cq 3 6 (aupq pv (f 0) (some q_7)))] ++ zpW ta ((qPlayer f 5 vv skill hand purse).2) (fun _ => q_7) (fun _ => 0) (f 0))) (by rw [zpW_o (show ((qPlayer f 5 vv skill hand purse).2) (7 + f 0) ≠ 6 by rw [wk]; decide), zpO_k (show ((qPlayer f 5 vv skill hand purse).2) (7 + f 0) = 5 from wk) rfl rfl]; unfold zpL; rw [w0, o1, o4, o2, o3, o6, wk, wv, wsk, wh, wg, wsc, wp]; rfl) ?_
              exact hret ((qPlayer f 5 vv skill hand purse).1, ((qPlayer f 5 vv skill hand purse).2), aupq pv (f 0) (some q_7), zpW ta ((qPlayer f 5 vv skill hand purse).2) (fun _ => q_7) (fun _ => 0) (f 0)) _ _ _ _ _ _ (by refine ⟨rfl, Or.inr ⟨q_7, 0, ⟨by omega, w0, fun p p0 p1 => ?_⟩, rfl, rfl⟩⟩; have ee : ∀ o : Int, o = 7 ∨ o = 13 ∨ o = 19 ∨ o = 25 ∨ o = 31 ∨ o = 37 ∨ o = 43 → ((qPlayer f 5 vv skill hand purse).2) (o + p) = f (o + p) := (fun o ho => wo _ (by omega) (by omega) (by omega) (by omega) (by omega) (by omega) (by omega) (by omega) (by omega)); refine ⟨ee 7 (by omega), ?_, ?_⟩; (funext t; show co (kC (((qPlayer f 5 vv skill hand purse).2) (7 + p))) (zpL ta ((qPlayer f 5 vv skill hand purse).2) p (zpT (((qPlayer f 5 vv skill hand purse).2) (7 + p)) t)) = co (kC (f (7 + p))) (zpL ta f p (zpT (f (7 + p)) t)); unfold zpL; rw [ee 7 (by omega), ee 13 (by omega), ee 19 (by omega), ee 25 (by omega), ee 31 (by omega), ee 37 (by omega), ee 43 (by omega)]); (exact tnF_cg (fun j j0 j1 => wo _ (by omega) (by omega) (by omega) (by omega) (by omega) (by omega) (by omega) (by omega) (by omega)))) (congrArg (fun z => some (ai z)) (by exact w1)) rfl (Nat.le_of_ble_eq_true rfl) (Nat.le_of_ble_eq_true rfl) dX11_player_156
            · skip
              refine v_bipush (pc := 70) dX11_player_70 (by decide) ?_
              have hqn := qPlayer_n (f := f) (k := 5) (v := vv) (s := skill) (h := hand) (u := purse) (by omega)
              refine v_ws (ws2 := ([(nw, co 10 [ar pls, ar ins, ar tap, ar e3, ar e4, ar e5, ar e6, ar e7, ar e8, ai (((qPlayer f 5 vv skill hand purse).2) 0), ai (((qPlayer f 5 vv skill hand purse).2) 1), ai (((qPlayer f 5 vv skill hand purse).2) 4), ai (((qPlayer f 5 vv skill hand purse).2) 2), ai (((qPlayer f 5 vv skill hand purse).2) 3), ai (((qPlayer f 5 vv skill hand purse).2) 6), ar bar]), (pls, cq 3 6 pv)] ++ [])) (by rw [hqn.1]; exact (List.append_nil _).symm) ?_
              exact hret ((qPlayer f 5 vv skill hand purse).1, ((qPlayer f 5 vv skill hand purse).2), pv, []) _ _ _ _ _ _ (by refine ⟨rfl, Or.inl ⟨hqn.1, rfl, rfl⟩⟩) (congrArg (fun z => some (ai z)) (by rw [hqn.2]; (repeat' split) <;> first | rfl | (exfalso; omega))) rfl (Nat.le_of_ble_eq_true rfl) (Nat.le_of_ble_eq_true rfl) dX11_player_72
          · skip
            refine v_bipush (pc := 55) dX11_player_55 (by decide) ?_
            have hqn := qPlayer_n (f := f) (k := 5) (v := vv) (s := skill) (h := hand) (u := purse) (by omega)
            refine v_ws (ws2 := ([(nw, co 10 [ar pls, ar ins, ar tap, ar e3, ar e4, ar e5, ar e6, ar e7, ar e8, ai (((qPlayer f 5 vv skill hand purse).2) 0), ai (((qPlayer f 5 vv skill hand purse).2) 1), ai (((qPlayer f 5 vv skill hand purse).2) 4), ai (((qPlayer f 5 vv skill hand purse).2) 2), ai (((qPlayer f 5 vv skill hand purse).2) 3), ai (((qPlayer f 5 vv skill hand purse).2) 6), ar bar]), (pls, cq 3 6 pv)] ++ [])) (by rw [hqn.1]; exact (List.append_nil _).symm) ?_
            exact hret ((qPlayer f 5 vv skill hand purse).1, ((qPlayer f 5 vv skill hand purse).2), pv, []) _ _ _ _ _ _ (by refine ⟨rfl, Or.inl ⟨hqn.1, rfl, rfl⟩⟩) (congrArg (fun z => some (ai z)) (by rw [hqn.2]; (repeat' split) <;> first | rfl | (exfalso; omega))) rfl (Nat.le_of_ble_eq_true rfl) (Nat.le_of_ble_eq_true rfl) dX11_player_57
  · skip
    exfalso; omega
set_option maxHeartbeats 4000000 in
set_option maxRecDepth 100000 in
theorem c_X11_player_k6 {gS : sG} (mo : Nat) (kw : Nat) (pi : Nat) (ta : Nat) (ms : Nat) (pt : Nat) (po : Nat) (hi : Int) (nw : Nat) (pls : Nat) (ins : Nat) (tap : Nat) (e3 : Nat) (e4 : Nat) (e5 : Nat) (e6 : Nat) (e7 : Nat) (e8 : Nat) (bar : Nat) (pv : Int → Option Nat) (f : Int → Int) (vv : Int) (skill : Int) (hand : Int) (purse : Int) (hS : SOK f) (hb_vv : -2147483648 ≤ vv ∧ vv < 2147483648) (hb_skill : -2147483648 ≤ skill ∧ skill < 2147483648) (hb_hand : -2147483648 ≤ hand ∧ hand < 2147483648) (hb_purse : -2147483648 ≤ purse ∧ purse < 2147483648) : Ct gS (S := Int × (Int → Int) × (Int → Option Nat) × aW) yX11_player cX11_player 7 (some .int) 5 97 2 14 [ar mo, ai 6, ai vv, ai skill, ai hand, ai purse] [(nw, co 10 [ar pls, ar ins, ar tap, ar e3, ar e4, ar e5, ar e6, ar e7, ar e8, ai (f 0), ai (f 1), ai (f 4), ai (f 2), ai (f 3), ai (f 6), ar bar]), (pls, cq 3 6 pv)] (fun q => q ∈ ([(mo, co 11 [ar nw, ar kw, ar pi, ar ta, ar ms, ar pt, ar po, ai hi])] : aW)) (fun u => (u.1, u.2.1) = (qPlayer f 6 vv skill hand purse) ∧ plG ta f u.2.1 pv u.2.2.1 u.2.2.2) (fun u => some (ai u.1)) (fun u => ([(nw, co 10 [ar pls, ar ins, ar tap, ar e3, ar e4, ar e5, ar e6, ar e7, ar e8, ai (u.2.1 0), ai (u.2.1 1), ai (u.2.1 4), ai (u.2.1 2), ai (u.2.1 3), ai (u.2.1 6), ar bar]), (pls, cq 3 6 u.2.2.1)] ++ u.2.2.2)) := by
  refine ct_I RX11 [(0, ar mo), (1, ai 6), (2, ai vv), (3, ai skill), (4, ai hand), (5, ai purse)] (by decide) rfl (Nat.le_of_ble_eq_true rfl) rfl (fun x hgS hro hret => ?_)
  subst hgS
  have r0 := hro _ (mem_at 0 rfl)
  obtain ⟨⟨hg0, hg1, hg2, hg3, hg4, hg5, hg6, hg7⟩, hSp, hSh, hSs, hSb, hSt, hSw⟩ := id hS
  show V x cX11_player RX11 7 (rmU 5 97 2 14) [(nw, co 10 [ar pls, ar ins, ar tap, ar e3, ar e4, ar e5, ar e6, ar e7, ar e8, ai (f 0), ai (f 1), ai (f 4), ai (f 2), ai (f 3), ai (f 6), ar bar]), (pls, cq 3 6 pv)] 0 [(0, ar mo), (1, ai 6), (2, ai vv), (3, ai skill), (4, ai hand), (5, ai purse)] [] 0 0
  refine v_iload_n (pc := 0) 1 rfl dX11_player_0 ?_
  refine v_iconst (pc := 1) dX11_player_1 ?_
  refine v_bipush (pc := 2) dX11_player_2 (by decide) ?_
  refine v_callS (pc := 4) [] [0, 1] [(nw, co 10 [ar pls, ar ins, ar tap, ar e3, ar e4, ar e5, ar e6, ar e7, ar e8, ai (f 0), ai (f 1), ai (f 4), ai (f 2), ai (f 3), ai (f 6), ar bar]), (pls, cq 3 6 pv)] (As := [ai 6, ai 0, ai 6]) (rest := []) (c_X11_isOut 6 0 6 (by first | omega | assumption) (by first | omega | assumption) (by first | omega | assumption)) wl_X11_41 ws_X11_isOut wk_X11_isOut wz_X11 md_X11_isOut rfl (Nat.le_of_ble_eq_true rfl) ⟨Nat.le_of_ble_eq_true rfl, Nat.le_of_ble_eq_true rfl, Nat.le_of_ble_eq_true rfl, Nat.le_of_ble_eq_true rfl⟩ rfl rfl rfl rfl (by decide) ro_nil dX11_player_4 (fun u hu => ?_)
  show V x cX11_player RX11 7 (rmU 5 97 2 14) [(nw, co 10 [ar pls, ar ins, ar tap, ar e3, ar e4, ar e5, ar e6, ar e7, ar e8, ai (f 0), ai (f 1), ai (f 4), ai (f 2), ai (f 3), ai (f 6), ar bar]), (pls, cq 3 6 pv)] 7 [(0, ar mo), (1, ai 6), (2, ai vv), (3, ai skill), (4, ai hand), (5, ai purse)] [ai (if 6 < 0 ∨ 6 < 6 then 1 else 0)] 0 0
  refine v_ifb_eq (pc := 7) 12 dX11_player_7 (by decide) (fun c_1 => ?_) (fun c_1 => ?_)
  · skip
    refine v_iload_n (pc := 12) 2 rfl dX11_player_12 ?_
    refine v_iconst (pc := 13) dX11_player_13 ?_
    refine v_bipush (pc := 14) dX11_player_14 (by decide) ?_
    refine v_callS (pc := 16) [] [0, 1] [(nw, co 10 [ar pls, ar ins, ar tap, ar e3, ar e4, ar e5, ar e6, ar e7, ar e8, ai (f 0), ai (f 1), ai (f 4), ai (f 2), ai (f 3), ai (f 6), ar bar]), (pls, cq 3 6 pv)] (As := [ai vv, ai 0, ai 9]) (rest := []) (c_X11_isOut vv 0 9 (by first | omega | assumption) (by first | omega | assumption) (by first | omega | assumption)) wl_X11_41 ws_X11_isOut wk_X11_isOut wz_X11 md_X11_isOut rfl (Nat.le_of_ble_eq_true rfl) ⟨Nat.le_of_ble_eq_true rfl, Nat.le_of_ble_eq_true rfl, Nat.le_of_ble_eq_true rfl, Nat.le_of_ble_eq_true rfl⟩ rfl rfl rfl rfl (by decide) ro_nil dX11_player_16 (fun u hu => ?_)
    show V x cX11_player RX11 7 (rmU 5 97 2 14) [(nw, co 10 [ar pls, ar ins, ar tap, ar e3, ar e4, ar e5, ar e6, ar e7, ar e8, ai (f 0), ai (f 1), ai (f 4), ai (f 2), ai (f 3), ai (f 6), ar bar]), (pls, cq 3 6 pv)] 19 [(0, ar mo), (1, ai 6), (2, ai vv), (3, ai skill), (4, ai hand), (5, ai purse)] [ai (if vv < 0 ∨ 9 < vv then 1 else 0)] 0 0
    refine v_ifb_ne (pc := 19) 55 dX11_player_19 (by decide) (fun c_2 => ?_) (fun c_2 => ?_)
    · skip
      refine v_bipush (pc := 55) dX11_player_55 (by decide) ?_
      have hqn := qPlayer_n (f := f) (k := 6) (v := vv) (s := skill) (h := hand) (u := purse) (by omega)
      refine v_ws (ws2 := ([(nw, co 10 [ar pls, ar ins, ar tap, ar e3, ar e4, ar e5, ar e6, ar e7, ar e8, ai (((qPlayer f 6 vv skill hand purse).2) 0), ai (((qPlayer f 6 vv skill hand purse).2) 1), ai (((qPlayer f 6 vv skill hand purse).2) 4), ai (((qPlayer f 6 vv skill hand purse).2) 2), ai (((qPlayer f 6 vv skill hand purse).2) 3), ai (((qPlayer f 6 vv skill hand purse).2) 6), ar bar]), (pls, cq 3 6 pv)] ++ [])) (by rw [hqn.1]; exact (List.append_nil _).symm) ?_
      exact hret ((qPlayer f 6 vv skill hand purse).1, ((qPlayer f 6 vv skill hand purse).2), pv, []) _ _ _ _ _ _ (by refine ⟨rfl, Or.inl ⟨hqn.1, rfl, rfl⟩⟩) (congrArg (fun z => some (ai z)) (by rw [hqn.2]; (repeat' split) <;> first | rfl | (exfalso; omega))) rfl (Nat.le_of_ble_eq_true rfl) (Nat.le_of_ble_eq_true rfl) dX11_player_57
    · skip
      refine v_iload_n (pc := 22) 3 rfl dX11_player_22 ?_
      refine v_iconst (pc := 23) dX11_player_23 ?_
      refine v_bipush (pc := 24) dX11_player_24 (by decide) ?_
      refine v_callS (pc := 26) [] [0, 1] [(nw, co 10 [ar pls, ar ins, ar tap, ar e3, ar e4, ar e5, ar e6, ar e7, ar e8, ai (f 0), ai (f 1), ai (f 4), ai (f 2), ai (f 3), ai (f 6), ar bar]), (pls, cq 3 6 pv)] (As := [ai skill, ai 0, ai 20]) (rest := []) (c_X11_isOut skill 0 20 (by first | omega | assumption) (by first | omega | assumption) (by first | omega | assumption)) wl_X11_41 ws_X11_isOut wk_X11_isOut wz_X11 md_X11_isOut rfl (Nat.le_of_ble_eq_true rfl) ⟨Nat.le_of_ble_eq_true rfl, Nat.le_of_ble_eq_true rfl, Nat.le_of_ble_eq_true rfl, Nat.le_of_ble_eq_true rfl⟩ rfl rfl rfl rfl (by decide) ro_nil dX11_player_26 (fun u hu => ?_)
      show V x cX11_player RX11 7 (rmU 5 97 2 14) [(nw, co 10 [ar pls, ar ins, ar tap, ar e3, ar e4, ar e5, ar e6, ar e7, ar e8, ai (f 0), ai (f 1), ai (f 4), ai (f 2), ai (f 3), ai (f 6), ar bar]), (pls, cq 3 6 pv)] 29 [(0, ar mo), (1, ai 6), (2, ai vv), (3, ai skill), (4, ai hand), (5, ai purse)] [ai (if skill < 0 ∨ 20 < skill then 1 else 0)] 0 0
      refine v_ifb_ne (pc := 29) 55 dX11_player_29 (by decide) (fun c_3 => ?_) (fun c_3 => ?_)
      · skip
        refine v_bipush (pc := 55) dX11_player_55 (by decide) ?_
        have hqn := qPlayer_n (f := f) (k := 6) (v := vv) (s := skill) (h := hand) (u := purse) (by omega)
        refine v_ws (ws2 := ([(nw, co 10 [ar pls, ar ins, ar tap, ar e3, ar e4, ar e5, ar e6, ar e7, ar e8, ai (((qPlayer f 6 vv skill hand purse).2) 0), ai (((qPlayer f 6 vv skill hand purse).2) 1), ai (((qPlayer f 6 vv skill hand purse).2) 4), ai (((qPlayer f 6 vv skill hand purse).2) 2), ai (((qPlayer f 6 vv skill hand purse).2) 3), ai (((qPlayer f 6 vv skill hand purse).2) 6), ar bar]), (pls, cq 3 6 pv)] ++ [])) (by rw [hqn.1]; exact (List.append_nil _).symm) ?_
        exact hret ((qPlayer f 6 vv skill hand purse).1, ((qPlayer f 6 vv skill hand purse).2), pv, []) _ _ _ _ _ _ (by refine ⟨rfl, Or.inl ⟨hqn.1, rfl, rfl⟩⟩) (congrArg (fun z => some (ai z)) (by rw [hqn.2]; (repeat' split) <;> first | rfl | (exfalso; omega))) rfl (Nat.le_of_ble_eq_true rfl) (Nat.le_of_ble_eq_true rfl) dX11_player_57
      · skip
        refine v_iload (pc := 32) 4 rfl dX11_player_32 ?_
        refine v_iconst (pc := 34) dX11_player_34 ?_
        refine v_bipush (pc := 35) dX11_player_35 (by decide) ?_
        refine v_callS (pc := 37) [] [0, 1] [(nw, co 10 [ar pls, ar ins, ar tap, ar e3, ar e4, ar e5, ar e6, ar e7, ar e8, ai (f 0), ai (f 1), ai (f 4), ai (f 2), ai (f 3), ai (f 6), ar bar]), (pls, cq 3 6 pv)] (As := [ai hand, ai 1, ai 9]) (rest := []) (c_X11_isOut hand 1 9 (by first | omega | assumption) (by first | omega | assumption) (by first | omega | assumption)) wl_X11_41 ws_X11_isOut wk_X11_isOut wz_X11 md_X11_isOut rfl (Nat.le_of_ble_eq_true rfl) ⟨Nat.le_of_ble_eq_true rfl, Nat.le_of_ble_eq_true rfl, Nat.le_of_ble_eq_true rfl, Nat.le_of_ble_eq_true rfl⟩ rfl rfl rfl rfl (by decide) ro_nil dX11_player_37 (fun u hu => ?_)
        show V x cX11_player RX11 7 (rmU 5 97 2 14) [(nw, co 10 [ar pls, ar ins, ar tap, ar e3, ar e4, ar e5, ar e6, ar e7, ar e8, ai (f 0), ai (f 1), ai (f 4), ai (f 2), ai (f 3), ai (f 6), ar bar]), (pls, cq 3 6 pv)] 40 [(0, ar mo), (1, ai 6), (2, ai vv), (3, ai skill), (4, ai hand), (5, ai purse)] [ai (if hand < 1 ∨ 9 < hand then 1 else 0)] 0 0
        refine v_ifb_ne (pc := 40) 55 dX11_player_40 (by decide) (fun c_4 => ?_) (fun c_4 => ?_)
        · skip
          refine v_bipush (pc := 55) dX11_player_55 (by decide) ?_
          have hqn := qPlayer_n (f := f) (k := 6) (v := vv) (s := skill) (h := hand) (u := purse) (by omega)
          refine v_ws (ws2 := ([(nw, co 10 [ar pls, ar ins, ar tap, ar e3, ar e4, ar e5, ar e6, ar e7, ar e8, ai (((qPlayer f 6 vv skill hand purse).2) 0), ai (((qPlayer f 6 vv skill hand purse).2) 1), ai (((qPlayer f 6 vv skill hand purse).2) 4), ai (((qPlayer f 6 vv skill hand purse).2) 2), ai (((qPlayer f 6 vv skill hand purse).2) 3), ai (((qPlayer f 6 vv skill hand purse).2) 6), ar bar]), (pls, cq 3 6 pv)] ++ [])) (by rw [hqn.1]; exact (List.append_nil _).symm) ?_
          exact hret ((qPlayer f 6 vv skill hand purse).1, ((qPlayer f 6 vv skill hand purse).2), pv, []) _ _ _ _ _ _ (by refine ⟨rfl, Or.inl ⟨hqn.1, rfl, rfl⟩⟩) (congrArg (fun z => some (ai z)) (by rw [hqn.2]; (repeat' split) <;> first | rfl | (exfalso; omega))) rfl (Nat.le_of_ble_eq_true rfl) (Nat.le_of_ble_eq_true rfl) dX11_player_57
        · skip
          refine v_iload (pc := 43) 5 rfl dX11_player_43 ?_
          refine v_iconst (pc := 45) dX11_player_45 ?_
          refine v_sipush (pc := 46) dX11_player_46 (by decide) ?_
          refine v_callS (pc := 49) [] [0, 1] [(nw, co 10 [ar pls, ar ins, ar tap, ar e3, ar e4, ar e5, ar e6, ar e7, ar e8, ai (f 0), ai (f 1), ai (f 4), ai (f 2), ai (f 3), ai (f 6), ar bar]), (pls, cq 3 6 pv)] (As := [ai purse, ai 0, ai 9999]) (rest := []) (c_X11_isOut purse 0 9999 (by first | omega | assumption) (by first | omega | assumption) (by first | omega | assumption)) wl_X11_41 ws_X11_isOut wk_X11_isOut wz_X11 md_X11_isOut rfl (Nat.le_of_ble_eq_true rfl) ⟨Nat.le_of_ble_eq_true rfl, Nat.le_of_ble_eq_true rfl, Nat.le_of_ble_eq_true rfl, Nat.le_of_ble_eq_true rfl⟩ rfl rfl rfl rfl (by decide) ro_nil dX11_player_49 (fun u hu => ?_)
          show V x cX11_player RX11 7 (rmU 5 97 2 14) [(nw, co 10 [ar pls, ar ins, ar tap, ar e3, ar e4, ar e5, ar e6, ar e7, ar e8, ai (f 0), ai (f 1), ai (f 4), ai (f 2), ai (f 3), ai (f 6), ar bar]), (pls, cq 3 6 pv)] 52 [(0, ar mo), (1, ai 6), (2, ai vv), (3, ai skill), (4, ai hand), (5, ai purse)] [ai (if purse < 0 ∨ 9999 < purse then 1 else 0)] 0 0
          refine v_ifb_eq (pc := 52) 58 dX11_player_52 (by decide) (fun c_5 => ?_) (fun c_5 => ?_)
          · skip
            refine v_aload_n (pc := 58) 0 rfl dX11_player_58 ?_
            refine v_get (pc := 59) (v := ar nw) 0 (Or.inl r0) fl_11_12_11 rfl dX11_player_59 ?_
            refine v_get (pc := 62) (v := ai (f 0)) 9 (Or.inr ⟨0, rfl⟩) fl_11_71_10 rfl dX11_player_62 ?_
            refine v_bipush (pc := 65) dX11_player_65 (by decide) ?_
            refine v_icmp_lt (pc := 67) 73 dX11_player_67 (by decide) (by unfold iB; omega) (by unfold iB; omega) (fun c_6 => ?_) (fun c_6 => ?_)
            · skip
              refine v_iload_n (pc := 73) 1 rfl dX11_player_73 ?_
              refine v_aload_n (pc := 74) 0 rfl dX11_player_74 ?_
              refine v_get (pc := 75) (v := ar ta) 3 (Or.inl r0) fl_11_28_11 rfl dX11_player_75 ?_
              refine v_callS (pc := 78) [] [0, 1] [(nw, co 10 [ar pls, ar ins, ar tap, ar e3, ar e4, ar e5, ar e6, ar e7, ar e8, ai (f 0), ai (f 1), ai (f 4), ai (f 2), ai (f 3), ai (f 6), ar bar]), (pls, cq 3 6 pv)] (As := [ai 6, ar ta]) (rest := []) (c_X5_ofKind_k9 ta ) wl_X11_74 ws_X5_ofKind wk_X5_ofKind wz_X5 md_X5_ofKind rfl (Nat.le_of_ble_eq_true rfl) ⟨Nat.le_of_ble_eq_true rfl, Nat.le_of_ble_eq_true rfl, Nat.le_of_ble_eq_true rfl, Nat.le_of_ble_eq_true rfl⟩ rfl rfl rfl rfl (by decide) ro_nil dX11_player_78 (fun u hu => ?_)
              obtain ⟨q_7, tu_8, tn_9⟩ := u
              have g_10 : ∀ k : Int, 0 ≤ k → k < 4 → tn_9 k = 4 := hu
              show V x cX11_player RX11 7 (rmU 5 97 2 14) [(nw, co 10 [ar pls, ar ins, ar tap, ar e3, ar e4, ar e5, ar e6, ar e7, ar e8, ai (f 0), ai (f 1), ai (f 4), ai (f 2), ai (f 3), ai (f 6), ar bar]), (pls, cq 3 6 pv), (q_7, co 9 [ar ta, ai 6, ai 0, ai 0, ai 0, ai 0, ai 0, ai 0, ai 0, ar tu_8]), (tu_8, cn 0 4 tn_9)] 81 [(0, ar mo), (1, ai 6), (2, ai vv), (3, ai skill), (4, ai hand), (5, ai purse)] [ar q_7] 2 14
              refine v_astore (pc := 81) (L2 := [(6, ar q_7), (0, ar mo), (1, ai 6), (2, ai vv), (3, ai skill), (4, ai hand), (5, ai purse)]) rfl (by decide) dX11_player_81 ?_
              refine v_aload (pc := 83) 0 rfl dX11_player_83 ?_
              refine v_aload_n (pc := 85) 1 rfl dX11_player_85 ?_
              refine v_get (pc := 86) (v := ar nw) 0 (Or.inl r0) fl_11_12_11 rfl dX11_player_86 ?_
              refine v_get (pc := 89) (v := ai (f 0)) 9 (Or.inr ⟨0, rfl⟩) fl_11_71_10 rfl dX11_player_89 ?_
              refine v_put (pc := 92) 2 2 rfl fl_11_80_9 ck_9 ft_9_2 (okV_i _) (Nat.le_of_ble_eq_true rfl) (ws2 := [(nw, co 10 [ar pls, ar ins, ar tap, ar e3, ar e4, ar e5, ar e6, ar e7, ar e8, ai (f 0), ai (f 1), ai (f 4), ai (f 2), ai (f 3), ai (f 6), ar bar]), (pls, cq 3 6 pv), (q_7, co 9 [ar ta, ai 6, ai (f 0), ai 0, ai 0, ai 0, ai 0, ai 0, ai 0, ar tu_8]), (tu_8, cn 0 4 tn_9)]) rfl dX11_player_92 ?_
              refine v_aload (pc := 95) 0 rfl dX11_player_95 ?_
              refine v_iload_n (pc := 97) 3 rfl dX11_player_97 ?_
              refine v_put (pc := 98) 3 2 rfl fl_11_83_9 ck_9 ft_9_3 (okV_i _) (Nat.le_of_ble_eq_true rfl) (ws2 := [(nw, co 10 [ar pls, ar ins, ar tap, ar e3, ar e4, ar e5, ar e6, ar e7, ar e8, ai (f 0), ai (f 1), ai (f 4), ai (f 2), ai (f 3), ai (f 6), ar bar]), (pls, cq 3 6 pv), (q_7, co 9 [ar ta, ai 6, ai (f 0), ai vv, ai 0, ai 0, ai 0, ai 0, ai 0, ar tu_8]), (tu_8, cn 0 4 tn_9)]) rfl dX11_player_98 ?_
              refine v_aload (pc := 101) 0 rfl dX11_player_101 ?_
              refine v_iload_n (pc := 103) 4 rfl dX11_player_103 ?_
              refine v_put (pc := 104) 4 2 rfl fl_11_86_9 ck_9 ft_9_4 (okV_i _) (Nat.le_of_ble_eq_true rfl) (ws2 := [(nw, co 10 [ar pls, ar ins, ar tap, ar e3, ar e4, ar e5, ar e6, ar e7, ar e8, ai (f 0), ai (f 1), ai (f 4), ai (f 2), ai (f 3), ai (f 6), ar bar]), (pls, cq 3 6 pv), (q_7, co 9 [ar ta, ai 6, ai (f 0), ai vv, ai skill, ai 0, ai 0, ai 0, ai 0, ar tu_8]), (tu_8, cn 0 4 tn_9)]) rfl dX11_player_104 ?_
              refine v_aload (pc := 107) 0 rfl dX11_player_107 ?_
              refine v_iload (pc := 109) 5 rfl dX11_player_109 ?_
              refine v_put (pc := 111) 5 2 rfl fl_11_89_9 ck_9 ft_9_5 (okV_i _) (Nat.le_of_ble_eq_true rfl) (ws2 := [(nw, co 10 [ar pls, ar ins, ar tap, ar e3, ar e4, ar e5, ar e6, ar e7, ar e8, ai (f 0), ai (f 1), ai (f 4), ai (f 2), ai (f 3), ai (f 6), ar bar]), (pls, cq 3 6 pv), (q_7, co 9 [ar ta, ai 6, ai (f 0), ai vv, ai skill, ai hand, ai 0, ai 0, ai 0, ar tu_8]), (tu_8, cn 0 4 tn_9)]) rfl dX11_player_111 ?_
              refine v_aload (pc := 114) 0 rfl dX11_player_114 ?_
              refine v_iload (pc := 116) 6 rfl dX11_player_116 ?_
              refine v_put (pc := 118) 8 2 rfl fl_11_92_9 ck_9 ft_9_8 (okV_i _) (Nat.le_of_ble_eq_true rfl) (ws2 := [(nw, co 10 [ar pls, ar ins, ar tap, ar e3, ar e4, ar e5, ar e6, ar e7, ar e8, ai (f 0), ai (f 1), ai (f 4), ai (f 2), ai (f 3), ai (f 6), ar bar]), (pls, cq 3 6 pv), (q_7, co 9 [ar ta, ai 6, ai (f 0), ai vv, ai skill, ai hand, ai 0, ai 0, ai purse, ar tu_8]), (tu_8, cn 0 4 tn_9)]) rfl dX11_player_118 ?_
              refine v_aload_n (pc := 121) 1 rfl dX11_player_121 ?_
              refine v_get (pc := 122) (v := ar nw) 0 (Or.inl r0) fl_11_12_11 rfl dX11_player_122 ?_
              refine v_get (pc := 125) (v := ar pls) 0 (Or.inr ⟨0, rfl⟩) fl_11_95_10 rfl dX11_player_125 ?_
              refine v_aload_n (pc := 128) 1 rfl dX11_player_128 ?_
              refine v_get (pc := 129) (v := ar nw) 0 (Or.inl r0) fl_11_12_11 rfl dX11_player_129 ?_
              refine v_get (pc := 132) (v := ai (f 0)) 9 (Or.inr ⟨0, rfl⟩) fl_11_71_10 rfl dX11_player_132 ?_
              refine v_aload (pc := 135) 0 rfl dX11_player_135 ?_
              refine v_aastO (pc := 137) (o := (some q_7)) 1 tQ_3 rfl (fun b h => by cases h; exact ⟨9, _, _, rfl, (Or.inr ⟨2, rfl⟩), (Or.inr (List.mem_of_getElem? (i := 5) rfl))⟩) (by omega) (by omega) (by decide) (ws2 := [(nw, co 10 [ar pls, ar ins, ar tap, ar e3, ar e4, ar e5, ar e6, ar e7, ar e8, ai (f 0), ai (f 1), ai (f 4), ai (f 2), ai (f 3), ai (f 6), ar bar]), (pls, cq 3 6 (aupq pv (f 0) (some q_7))), (q_7, co 9 [ar ta, ai 6, ai (f 0), ai vv, ai skill, ai hand, ai 0, ai 0, ai purse, ar tu_8]), (tu_8, cn 0 4 tn_9)]) rfl dX11_player_137 ?_
              refine v_aload_n (pc := 138) 1 rfl dX11_player_138 ?_
              refine v_get (pc := 139) (v := ar nw) 0 (Or.inl r0) fl_11_12_11 rfl dX11_player_139 ?_
              refine v_dup (pc := 142) rfl dX11_player_142 ?_
              refine v_get (pc := 143) (v := ai (f 0)) 9 (Or.inr ⟨0, rfl⟩) fl_11_71_10 rfl dX11_player_143 ?_
              refine v_iconst (pc := 146) dX11_player_146 ?_
              refine v_iadd (pc := 147) dX11_player_147 ?_
              refine v_put (pc := 148) 9 0 rfl fl_11_71_10 ck_10 ft_10_9 (okV_i _) (Nat.le_of_ble_eq_true rfl) (ws2 := [(nw, co 10 [ar pls, ar ins, ar tap, ar e3, ar e4, ar e5, ar e6, ar e7, ar e8, ai ((f 0) + 1), ai (f 1), ai (f 4), ai (f 2), ai (f 3), ai (f 6), ar bar]), (pls, cq 3 6 (aupq pv (f 0) (some q_7))), (q_7, co 9 [ar ta, ai 6, ai (f 0), ai vv, ai skill, ai hand, ai 0, ai 0, ai purse, ar tu_8]), (tu_8, cn 0 4 tn_9)]) rfl dX11_player_148 ?_
              refine v_aload (pc := 151) 0 rfl dX11_player_151 ?_
              refine v_get (pc := 153) (v := ai (f 0)) 2 (Or.inr ⟨2, rfl⟩) fl_11_80_9 rfl dX11_player_153 ?_
              obtain ⟨w1, w0, wk, wv, wsk, wh, wg, wsc, wp, wt, wo⟩ := qPlayer_v (f := f) (k := 6) (v := vv) (s := skill) (h := hand) (u := purse) (by omega) (by omega) (by omega)
              have o1 : ((qPlayer f 6 vv skill hand purse).2) 1 = f 1 := wo 1 (by omega) (by omega) (by omega) (by omega) (by omega) (by omega) (by omega) (by omega) (by omega)
              have o4 : ((qPlayer f 6 vv skill hand purse).2) 4 = f 4 := wo 4 (by omega) (by omega) (by omega) (by omega) (by omega) (by omega) (by omega) (by omega) (by omega)
              have o2 : ((qPlayer f 6 vv skill hand purse).2) 2 = f 2 := wo 2 (by omega) (by omega) (by omega) (by omega) (by omega) (by omega) (by omega) (by omega) (by omega)
              have o3 : ((qPlayer f 6 vv skill hand purse).2) 3 = f 3 := wo 3 (by omega) (by omega) (by omega) (by omega) (by omega) (by omega) (by omega) (by omega) (by omega)
              have o6 : ((qPlayer f 6 vv skill hand purse).2) 6 = f 6 := wo 6 (by omega) (by omega) (by omega) (by omega) (by omega) (by omega) (by omega) (by omega) (by omega)
              refine v_ext (q := 3) (g := tnF ((qPlayer f 6 vv skill hand purse).2) (f 0)) rfl (fun j j0 j1 => by rw [g_10 j j0 (by omega), tnF_at (by omega)]; exact (wt j j0 (by omega)).symm) (ws2 := [(nw, co 10 [ar pls, ar ins, ar tap, ar e3, ar e4, ar e5, ar e6, ar e7, ar e8, ai ((f 0) + 1), ai (f 1), ai (f 4), ai (f 2), ai (f 3), ai (f 6), ar bar]), (pls, cq 3 6 (aupq pv (f 0) (some q_7))), (q_7, co 9 [ar ta, ai 6, ai (f 0), ai vv, ai skill, ai hand, ai 0, ai 0, ai purse, ar tu_8]), (tu_8, cn 0 4 (tnF ((qPlayer f 6 vv skill hand purse).2) (f 0)))]) rfl ?_
              refine v_ws (ws2 := ([(nw, co 10 [ar pls, ar ins, ar tap, ar e3, ar e4, ar e5, ar e6, ar e7, ar e8, ai (((qPlayer f 6 vv skill hand purse).2) 0), ai (((qPlayer f 6 vv skill hand purse).2) 1), ai (((qPlayer f 6 vv skill hand purse).2) 4), ai (((qPlayer f 6 vv skill hand purse).2) 2), ai (((qPlayer f 6 vv skill hand purse).2) 3), ai (((qPlayer f 6 vv skill hand purse).2) 6), ar bar]), (pls, cq 3 6 (aupq pv (f 0) (some q_7)))] ++ zpW ta ((qPlayer f 6 vv skill hand purse).2) (fun _ => q_7) (fun _ => tu_8) (f 0))) (by rw [zpW_t (show ((qPlayer f 6 vv skill hand purse).2) (7 + f 0) = 6 from wk), zpO_k (show ((qPlayer f 6 vv skill hand purse).2) (7 + f 0) = 6 from wk) rfl rfl]; unfold zpL; rw [w0, o1, o4, o2, o3, o6, wk, wv, wsk, wh, wg, wsc, wp]; rfl) ?_
              exact hret ((qPlayer f 6 vv skill hand purse).1, ((qPlayer f 6 vv skill hand purse).2), aupq pv (f 0) (some q_7), zpW ta ((qPlayer f 6 vv skill hand purse).2) (fun _ => q_7) (fun _ => tu_8) (f 0)) _ _ _ _ _ _ (by refine ⟨rfl, Or.inr ⟨q_7, tu_8, ⟨by omega, w0, fun p p0 p1 => ?_⟩, rfl, rfl⟩⟩; have ee : ∀ o : Int, o = 7 ∨ o = 13 ∨ o = 19 ∨ o = 25 ∨ o = 31 ∨ o = 37 ∨ o = 43 → ((qPlayer f 6 vv skill hand purse).2) (o + p) = f (o + p) := (fun o ho => wo _ (by omega) (by omega) (by omega) (by omega) (by omega) (by omega) (by omega) (by omega) (by omega)); refine ⟨ee 7 (by omega), ?_, ?_⟩; (funext t; show co (kC (((qPlayer f 6 vv skill hand purse).2) (7 + p))) (zpL ta ((qPlayer f 6 vv skill hand purse).2) p (zpT (((qPlayer f 6 vv skill hand purse).2) (7 + p)) t)) = co (kC (f (7 + p))) (zpL ta f p (zpT (f (7 + p)) t)); unfold zpL; rw [ee 7 (by omega), ee 13 (by omega), ee 19 (by omega), ee 25 (by omega), ee 31 (by omega), ee 37 (by omega), ee 43 (by omega)]); (exact tnF_cg (fun j j0 j1 => wo _ (by omega) (by omega) (by omega) (by omega) (by omega) (by omega) (by omega) (by omega) (by omega)))) (congrArg (fun z => some (ai z)) (by exact w1)) rfl (Nat.le_of_ble_eq_true rfl) (Nat.le_of_ble_eq_true rfl) dX11_player_156
            · skip
              refine v_bipush (pc := 70) dX11_player_70 (by decide) ?_
              have hqn := qPlayer_n (f := f) (k := 6) (v := vv) (s := skill) (h := hand) (u := purse) (by omega)
              refine v_ws (ws2 := ([(nw, co 10 [ar pls, ar ins, ar tap, ar e3, ar e4, ar e5, ar e6, ar e7, ar e8, ai (((qPlayer f 6 vv skill hand purse).2) 0), ai (((qPlayer f 6 vv skill hand purse).2) 1), ai (((qPlayer f 6 vv skill hand purse).2) 4), ai (((qPlayer f 6 vv skill hand purse).2) 2), ai (((qPlayer f 6 vv skill hand purse).2) 3), ai (((qPlayer f 6 vv skill hand purse).2) 6), ar bar]), (pls, cq 3 6 pv)] ++ [])) (by rw [hqn.1]; exact (List.append_nil _).symm) ?_
              exact hret ((qPlayer f 6 vv skill hand purse).1, ((qPlayer f 6 vv skill hand purse).2), pv, []) _ _ _ _ _ _ (by refine ⟨rfl, Or.inl ⟨hqn.1, rfl, rfl⟩⟩) (congrArg (fun z => some (ai z)) (by rw [hqn.2]; (repeat' split) <;> first | rfl | (exfalso; omega))) rfl (Nat.le_of_ble_eq_true rfl) (Nat.le_of_ble_eq_true rfl) dX11_player_72
          · skip
            refine v_bipush (pc := 55) dX11_player_55 (by decide) ?_
            have hqn := qPlayer_n (f := f) (k := 6) (v := vv) (s := skill) (h := hand) (u := purse) (by omega)
            refine v_ws (ws2 := ([(nw, co 10 [ar pls, ar ins, ar tap, ar e3, ar e4, ar e5, ar e6, ar e7, ar e8, ai (((qPlayer f 6 vv skill hand purse).2) 0), ai (((qPlayer f 6 vv skill hand purse).2) 1), ai (((qPlayer f 6 vv skill hand purse).2) 4), ai (((qPlayer f 6 vv skill hand purse).2) 2), ai (((qPlayer f 6 vv skill hand purse).2) 3), ai (((qPlayer f 6 vv skill hand purse).2) 6), ar bar]), (pls, cq 3 6 pv)] ++ [])) (by rw [hqn.1]; exact (List.append_nil _).symm) ?_
            exact hret ((qPlayer f 6 vv skill hand purse).1, ((qPlayer f 6 vv skill hand purse).2), pv, []) _ _ _ _ _ _ (by refine ⟨rfl, Or.inl ⟨hqn.1, rfl, rfl⟩⟩) (congrArg (fun z => some (ai z)) (by rw [hqn.2]; (repeat' split) <;> first | rfl | (exfalso; omega))) rfl (Nat.le_of_ble_eq_true rfl) (Nat.le_of_ble_eq_true rfl) dX11_player_57
  · skip
    exfalso; omega
set_option maxHeartbeats 4000000 in
set_option maxRecDepth 100000 in
theorem c_X11_player_o {gS : sG} (mo : Nat) (kw : Nat) (pi : Nat) (ta : Nat) (ms : Nat) (pt : Nat) (po : Nat) (hi : Int) (nw : Nat) (pls : Nat) (ins : Nat) (tap : Nat) (e3 : Nat) (e4 : Nat) (e5 : Nat) (e6 : Nat) (e7 : Nat) (e8 : Nat) (bar : Nat) (pv : Int → Option Nat) (f : Int → Int) (kind : Int) (vv : Int) (skill : Int) (hand : Int) (purse : Int) (hS : SOK f) (hk : ¬ (0 ≤ kind ∧ kind ≤ 6)) (hb_kind : -2147483648 ≤ kind ∧ kind < 2147483648) (hb_vv : -2147483648 ≤ vv ∧ vv < 2147483648) (hb_skill : -2147483648 ≤ skill ∧ skill < 2147483648) (hb_hand : -2147483648 ≤ hand ∧ hand < 2147483648) (hb_purse : -2147483648 ≤ purse ∧ purse < 2147483648) : Ct gS (S := Int × (Int → Int) × (Int → Option Nat) × aW) yX11_player cX11_player 7 (some .int) 5 97 2 14 [ar mo, ai kind, ai vv, ai skill, ai hand, ai purse] [(nw, co 10 [ar pls, ar ins, ar tap, ar e3, ar e4, ar e5, ar e6, ar e7, ar e8, ai (f 0), ai (f 1), ai (f 4), ai (f 2), ai (f 3), ai (f 6), ar bar]), (pls, cq 3 6 pv)] (fun q => q ∈ ([(mo, co 11 [ar nw, ar kw, ar pi, ar ta, ar ms, ar pt, ar po, ai hi])] : aW)) (fun u => (u.1, u.2.1) = (qPlayer f kind vv skill hand purse) ∧ plG ta f u.2.1 pv u.2.2.1 u.2.2.2) (fun u => some (ai u.1)) (fun u => ([(nw, co 10 [ar pls, ar ins, ar tap, ar e3, ar e4, ar e5, ar e6, ar e7, ar e8, ai (u.2.1 0), ai (u.2.1 1), ai (u.2.1 4), ai (u.2.1 2), ai (u.2.1 3), ai (u.2.1 6), ar bar]), (pls, cq 3 6 u.2.2.1)] ++ u.2.2.2)) := by
  refine ct_I RX11 [(0, ar mo), (1, ai kind), (2, ai vv), (3, ai skill), (4, ai hand), (5, ai purse)] (by decide) rfl (Nat.le_of_ble_eq_true rfl) rfl (fun x hgS hro hret => ?_)
  subst hgS
  have r0 := hro _ (mem_at 0 rfl)
  obtain ⟨⟨hg0, hg1, hg2, hg3, hg4, hg5, hg6, hg7⟩, hSp, hSh, hSs, hSb, hSt, hSw⟩ := id hS
  show V x cX11_player RX11 7 (rmU 5 97 2 14) [(nw, co 10 [ar pls, ar ins, ar tap, ar e3, ar e4, ar e5, ar e6, ar e7, ar e8, ai (f 0), ai (f 1), ai (f 4), ai (f 2), ai (f 3), ai (f 6), ar bar]), (pls, cq 3 6 pv)] 0 [(0, ar mo), (1, ai kind), (2, ai vv), (3, ai skill), (4, ai hand), (5, ai purse)] [] 0 0
  refine v_iload_n (pc := 0) 1 rfl dX11_player_0 ?_
  refine v_iconst (pc := 1) dX11_player_1 ?_
  refine v_bipush (pc := 2) dX11_player_2 (by decide) ?_
  refine v_callS (pc := 4) [] [0, 1] [(nw, co 10 [ar pls, ar ins, ar tap, ar e3, ar e4, ar e5, ar e6, ar e7, ar e8, ai (f 0), ai (f 1), ai (f 4), ai (f 2), ai (f 3), ai (f 6), ar bar]), (pls, cq 3 6 pv)] (As := [ai kind, ai 0, ai 6]) (rest := []) (c_X11_isOut kind 0 6 (by first | omega | assumption) (by first | omega | assumption) (by first | omega | assumption)) wl_X11_41 ws_X11_isOut wk_X11_isOut wz_X11 md_X11_isOut rfl (Nat.le_of_ble_eq_true rfl) ⟨Nat.le_of_ble_eq_true rfl, Nat.le_of_ble_eq_true rfl, Nat.le_of_ble_eq_true rfl, Nat.le_of_ble_eq_true rfl⟩ rfl rfl rfl rfl (by decide) ro_nil dX11_player_4 (fun u hu => ?_)
  show V x cX11_player RX11 7 (rmU 5 97 2 14) [(nw, co 10 [ar pls, ar ins, ar tap, ar e3, ar e4, ar e5, ar e6, ar e7, ar e8, ai (f 0), ai (f 1), ai (f 4), ai (f 2), ai (f 3), ai (f 6), ar bar]), (pls, cq 3 6 pv)] 7 [(0, ar mo), (1, ai kind), (2, ai vv), (3, ai skill), (4, ai hand), (5, ai purse)] [ai (if kind < 0 ∨ 6 < kind then 1 else 0)] 0 0
  refine v_ifb_eq (pc := 7) 12 dX11_player_7 (by decide) (fun c_1 => ?_) (fun c_1 => ?_)
  · skip
    exfalso; omega
  · skip
    refine v_iconst (pc := 10) dX11_player_10 ?_
    refine v_ws (ws2 := ([(nw, co 10 [ar pls, ar ins, ar tap, ar e3, ar e4, ar e5, ar e6, ar e7, ar e8, ai (f 0), ai (f 1), ai (f 4), ai (f 2), ai (f 3), ai (f 6), ar bar]), (pls, cq 3 6 pv)] ++ [])) (List.append_nil _).symm ?_
    have hqn := qPlayer_n (f := f) (k := kind) (v := vv) (s := skill) (h := hand) (u := purse) (by omega)
    exact hret ((qPlayer f kind vv skill hand purse).1, f, pv, []) _ _ _ _ _ _ (by refine ⟨Prod.ext rfl hqn.1.symm, Or.inl ⟨rfl, rfl, rfl⟩⟩) (congrArg (fun z => some (ai z)) (by rw [hqn.2]; (repeat' split) <;> first | rfl | (exfalso; omega))) rfl (Nat.le_of_ble_eq_true rfl) (Nat.le_of_ble_eq_true rfl) dX11_player_11
