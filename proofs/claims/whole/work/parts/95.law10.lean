/-! ===== the law: image and undo ===== -/
theorem law_c34 {x : Cx} {mo kw pi ta ms pt po nw pls ins tap e3 e4 e5 e6 e7 e8 bar fa pls2 ins2 tap2 d3 d4 d5 d6 d7 d8 bar2 h : Nat} {ad : Nat → Nat} {b : Nat} {i : Int} {N : Nat} {xf : Int → Int} {kR nR : Nat} (hX : Sc x b N xf) (hi0 : 0 ≤ i) (hi7 : i + 7 ≤ N) (hN : N < 2147483648) (hb : ∀ j : Int, -2147483648 ≤ xf j ∧ xf j < 2147483648) (hk : kR + 24 ≤ 600000) (hn : nR + 280 ≤ 7302250) (kk : LwK x mo kw pi ta ms pt po nw pls ins tap e3 e4 e5 e6 e7 e8 bar fa pls2 ins2 tap2 d3 d4 d5 d6 d7 d8 bar2 h ad 1524 [(0, ar b), (1, ar mo), (2, ar h), (3, ai i)] (kR + 12) (nR + 140)) : LwK x mo kw pi ta ms pt po nw pls ins tap e3 e4 e5 e6 e7 e8 bar fa pls2 ins2 tap2 d3 d4 d5 d6 d7 d8 bar2 h ad 1475 [(0, ar b), (1, ar mo), (2, ar h), (3, ai i)] kR nR := by
  intro hi f g tp sp sm sf sc bp bm fa0 tr ms0 pt0 po0 u0 u1 u2 u3 u4 u5 u6 by0 mtr kp mms mpt bd m v pv iv pv2 iv2 pl tu kpl ktu z0 z1 z2 z3 z4 z5 kn il hNow hKep hTr h3
  obtain ⟨hS, hP, hI, hR0, hR1, hR2, hR3, hR4, hR5, hR6⟩ := id hNow
  obtain ⟨hg0, hg1, hg2, hg3, hg4, -⟩ := id hS.1
  refine v_aload_n (i := 1) 1 rfl dL_law_1475 ?_
  refine LC_X11_image hS hP hI (Nat.le_of_ble_eq_true rfl) (by omega) (by omega) (fun pv3 iv3 p3 t3 hP3 hiv3 => ?_)
  refine v_aload_n (i := 2) 2 rfl dL_law_1479 ?_
  refine v_perm perm_f ?_
  refine LR_X12_image hS (Nat.le_of_ble_eq_true rfl) (by omega) (by omega) (fun _ => ?_)
  refine v_perm perm_f.symm ?_
  refine v_icmp_s 1524 dL_law_1483 rfl ?_
  refine v_widen (k2 := kR + 12) (n2 := nR + 140) (by omega) (by omega) ?_
  exact kk 1 f f tp sp sm sf sc bp bm fa0 tr ms0 pt0 po0 tp sp sm sf sc bp bm by0 mtr kp mms mpt bd m (nup v 3 1) pv iv pv3 iv3 pl tu p3 t3 (f 0) (f 1) (f 4) (f 2) (f 3) (f 6) (f 0).toNat il hNow (Or.inr ⟨nup_s _ _ _, ⟨hS, hP3, WI_iv hI hg1.2 hiv3 hg1.1, hR0, hR1, hR2, hR3, hR4, hR5, hR6⟩, rfl, rfl, rfl, rfl, rfl, rfl, rfl⟩) (by rw [nup_n _ _ (by decide)]; exact hTr) (nup_s _ _ _).symm
theorem law_c35 {x : Cx} {mo kw pi ta ms pt po nw pls ins tap e3 e4 e5 e6 e7 e8 bar fa pls2 ins2 tap2 d3 d4 d5 d6 d7 d8 bar2 h : Nat} {ad : Nat → Nat} {b : Nat} {i : Int} {N : Nat} {xf : Int → Int} {kR nR : Nat} (hX : Sc x b N xf) (hi0 : 0 ≤ i) (hi7 : i + 7 ≤ N) (hN : N < 2147483648) (hb : ∀ j : Int, -2147483648 ≤ xf j ∧ xf j < 2147483648) (hk : kR + 24 ≤ 600000) (hn : nR + 280 ≤ 7302250) (kk : LwK x mo kw pi ta ms pt po nw pls ins tap e3 e4 e5 e6 e7 e8 bar fa pls2 ins2 tap2 d3 d4 d5 d6 d7 d8 bar2 h ad 1524 [(0, ar b), (1, ar mo), (2, ar h), (3, ai i)] (kR + 12) (nR + 140)) : LwK x mo kw pi ta ms pt po nw pls ins tap e3 e4 e5 e6 e7 e8 bar fa pls2 ins2 tap2 d3 d4 d5 d6 d7 d8 bar2 h ad 1488 [(0, ar b), (1, ar mo), (2, ar h), (3, ai i)] kR nR := by
  intro hi f g tp sp sm sf sc bp bm fa0 tr ms0 pt0 po0 u0 u1 u2 u3 u4 u5 u6 by0 mtr kp mms mpt bd m v pv iv pv2 iv2 pl tu kpl ktu z0 z1 z2 z3 z4 z5 kn il hNow hKep hTr h3
  obtain ⟨hS, hP, hI, hR0, hR1, hR2, hR3, hR4, hR5, hR6⟩ := id hNow
  obtain ⟨hg0, hg1, hg2, hg3, hg4, -⟩ := id hS.1
  rcases hKep with k0 | ⟨k1, hNg, e1, e2, e9, e10, e11, e12, e13⟩
  · have h0 : hi = 0 := h3.trans k0
    subst h0
    refine v_aload_n (i := 1) 1 rfl dL_law_1488 ?_
    refine LC_X11_undo_0 (Nat.le_of_ble_eq_true rfl) (by omega) (by omega) ?_
    refine v_aload_n (i := 2) 2 rfl dL_law_1492 ?_
    refine v_perm perm_f ?_
    refine LR_X12_undo (Or.inl k0) (fun z => absurd (k0.symm.trans z) (by decide)) (Nat.le_of_ble_eq_true rfl) (by omega) (by omega) (fun w hw => ?_)
    refine v_eqi (y := -3) (if_pos k0) ?_
    have gf : f = w := (hw.trans (if_pos k0)).symm
    subst gf
    refine v_perm perm_f.symm ?_
    refine v_icmp_s 1524 dL_law_1496 rfl ?_
    refine v_widen (k2 := kR + 12) (n2 := nR + 140) (by omega) (by omega) ?_
    exact kk 0 f g tp sp sm sf sc bp bm fa0 tr ms0 pt0 po0 u0 u1 u2 u3 u4 u5 u6 by0 mtr kp mms mpt bd m v pv iv pv2 iv2 pl tu kpl ktu z0 z1 z2 z3 z4 z5 kn il hNow (Or.inl k0) hTr h3
  · have h0 : hi = 1 := h3.trans k1
    subst h0
    subst e1
    subst e2
    subst e9
    subst e10
    subst e11
    subst e12
    subst e13
    obtain ⟨hSg, hPg, hIg, hQ0, hQ1, hQ2, hQ3, hQ4, hQ5, hQ6⟩ := id hNg
    have hgg := hSg.1.2.1
    refine v_aload_n (i := 1) 1 rfl dL_law_1488 ?_
    refine LC_X11_undo_1 hSg hPg hIg (Nat.le_of_ble_eq_true rfl) (by omega) (by omega) (fun pv3 iv3 p3 t3 hP3 hiv3 => ?_)
    refine v_aload_n (i := 2) 2 rfl dL_law_1492 ?_
    refine v_perm perm_f ?_
    refine LR_X12_undo (Or.inr k1) (fun _ => hSg) (Nat.le_of_ble_eq_true rfl) (by omega) (by omega) (fun w hw => ?_)
    have kn0 : ¬ v 3 = 0 := by rw [k1]; decide
    refine v_eqi (y := g 0) (if_neg kn0) ?_
    have gf : g = w := (hw.trans (if_neg kn0)).symm
    subst gf
    refine v_perm perm_f.symm ?_
    refine v_icmp_s 1524 dL_law_1496 rfl ?_
    refine v_widen (k2 := kR + 12) (n2 := nR + 140) (by omega) (by omega) ?_
    exact kk 1 g g u0 u1 u2 u3 u4 u5 u6 fa0 tr ms0 pt0 po0 u0 u1 u2 u3 u4 u5 u6 by0 mtr kp mms mpt bd m v pv3 iv3 pv2 iv2 p3 t3 kpl ktu (g 0) (g 1) (g 4) (g 2) (g 3) (g 6) (g 0).toNat il ⟨hSg, hP3, WI_iv hIg hgg.2 hiv3 hgg.1, hQ0, hQ1, hQ2, hQ3, hQ4, hQ5, hQ6⟩ (Or.inr ⟨k1, hNg, rfl, rfl, rfl, rfl, rfl, rfl, rfl⟩) hTr h3
