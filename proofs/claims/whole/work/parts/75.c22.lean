def mnI (i n : Int) : Nat := (if i < n then i else n).toNat
theorem mnI_lt {i n : Int} (h : i < n) : mnI i n = i.toNat := by
  unfold mnI
  rw [if_pos h]
theorem mnI_ge {i n : Int} (h : n ≤ i) : mnI i n = n.toNat := by
  unfold mnI
  rw [if_neg (by omega)]
theorem mnI_s {i n : Int} (h : i < n) : mnI (i + 1) n = (i + 1).toNat := by
  unfold mnI
  split
  · rfl
  · rw [show n = i + 1 by omega]
set_option maxHeartbeats 4000000 in
set_option maxRecDepth 100000 in
theorem c_X10_copyFrom {gS : sG} (h : Nat) (pls2 : Nat) (ins2 : Nat) (tap2 : Nat) (d3 : Nat) (d4 : Nat) (d5 : Nat) (d6 : Nat) (d7 : Nat) (d8 : Nat) (bar2 : Nat) (z0 : Int) (z1 : Int) (z2 : Int) (z3 : Int) (z4 : Int) (z5 : Int) (pv2 : Int → Option Nat) (iv2 : Int → Option Nat) (u0 : Int → Int) (u1 : Int → Int) (u2 : Int → Int) (u3 : Int → Int) (u4 : Int → Int) (u5 : Int → Int) (u6 : Int → Int) (nw : Nat) (pls : Nat) (ins : Nat) (tap : Nat) (e3 : Nat) (e4 : Nat) (e5 : Nat) (e6 : Nat) (e7 : Nat) (e8 : Nat) (bar : Nat) (ta : Nat) (pv : Int → Option Nat) (pl : Int → Nat) (tu : Int → Nat) (iv : Int → Option Nat) (il : aW) (f : Int → Int) (tp : Int → Int) (sp : Int → Int) (sm : Int → Int) (sf : Int → Int) (sc : Int → Int) (bp : Int → Int) (bm : Int → Int) (hS : SOK f) (hpv : ∀ j : Int, 0 ≤ j → j < 6 → pv j = if j < f 0 then some (pl j) else none) (hil : ∀ (j : Int) (b : Nat), 0 ≤ j → j < 5 → iv j = some b → ∃ fs, (b, co 3 fs) ∈ il) : Ct gS (S := (Int → Option Nat) × (Int → Option Nat) × (Int → Nat) × (Int → Nat)) yX10_copyFrom cX10_copyFrom 4 none 6 118 12 84 [ar h, ar nw] [(h, co 10 [ar pls2, ar ins2, ar tap2, ar d3, ar d4, ar d5, ar d6, ar d7, ar d8, ai z0, ai z1, ai z2, ai z3, ai z4, ai z5, ar bar2]), (pls2, cq 3 6 pv2), (ins2, cq 2 5 iv2), (tap2, cn 0 100 u0), (d3, cn 0 8 u1), (d4, cn 0 8 u2), (d5, cn 0 8 u3), (d6, cn 0 8 u4), (d7, cn 0 8 u5), (d8, cn 0 8 u6)] (fun q => q ∈ ([(nw, co 10 [ar pls, ar ins, ar tap, ar e3, ar e4, ar e5, ar e6, ar e7, ar e8, ai (f 0), ai (f 1), ai (f 4), ai (f 2), ai (f 3), ai (f 6), ar bar]), (pls, cq 3 6 pv), (ins, cq 2 5 iv), (tap, cn 0 100 tp), (e3, cn 0 8 sp), (e4, cn 0 8 sm), (e5, cn 0 8 sf), (e6, cn 0 8 sc), (e7, cn 0 8 bp), (e8, cn 0 8 bm)] : aW) ++ (zpA ta f pl tu ++ il)) (fun u => (∀ j : Int, 0 ≤ j → j < 6 → u.1 j = if j < f 0 then some (u.2.2.1 j) else none) ∧ ∀ j : Int, 0 ≤ j → j < 5 → u.2.1 j = iv j) (fun u => none) (fun u => ([(h, co 10 [ar pls2, ar ins2, ar tap2, ar d3, ar d4, ar d5, ar d6, ar d7, ar d8, ai (f 0), ai (f 1), ai (f 4), ai (f 2), ai (f 3), ai (f 6), ar bar2]), (pls2, cq 3 6 u.1), (ins2, cq 2 5 u.2.1), (tap2, cn 0 100 tp), (d3, cn 0 8 sp), (d4, cn 0 8 sm), (d5, cn 0 8 sf), (d6, cn 0 8 sc), (d7, cn 0 8 bp), (d8, cn 0 8 bm)] ++ zpS ta f u.2.2.1 u.2.2.2 (f 0).toNat)) := by
  refine ct_V RX10 [(0, ar h), (1, ar nw)] (by decide) rfl (Nat.le_of_ble_eq_true rfl) rfl (fun x hgS hnm hro hret => ?_)
  subst hgS
  have r0 := hro _ (List.mem_append_left _ (mem_at 0 rfl))
  have r1 := hro _ (List.mem_append_left _ (mem_at 1 rfl))
  have r2 := hro _ (List.mem_append_left _ (mem_at 2 rfl))
  have r3 := hro _ (List.mem_append_left _ (mem_at 3 rfl))
  have r4 := hro _ (List.mem_append_left _ (mem_at 4 rfl))
  have r5 := hro _ (List.mem_append_left _ (mem_at 5 rfl))
  have r6 := hro _ (List.mem_append_left _ (mem_at 6 rfl))
  have r7 := hro _ (List.mem_append_left _ (mem_at 7 rfl))
  have r8 := hro _ (List.mem_append_left _ (mem_at 8 rfl))
  have r9 := hro _ (List.mem_append_left _ (mem_at 9 rfl))
  have hra : ∀ q, q ∈ (zpA ta f pl tu ++ il) → Ro x q := fun q h => hro _ (List.mem_append_right _ h)
  obtain ⟨⟨hg0, hg1, hg2, hg3, hg4, hg5, hg6, hg7⟩, hSp, hSh, hSs, hSb, hSt, hSw⟩ := id hS
  show V x cX10_copyFrom RX10 4 (rmU 6 118 12 84) [(h, co 10 [ar pls2, ar ins2, ar tap2, ar d3, ar d4, ar d5, ar d6, ar d7, ar d8, ai z0, ai z1, ai z2, ai z3, ai z4, ai z5, ar bar2]), (pls2, cq 3 6 pv2), (ins2, cq 2 5 iv2), (tap2, cn 0 100 u0), (d3, cn 0 8 u1), (d4, cn 0 8 u2), (d5, cn 0 8 u3), (d6, cn 0 8 u4), (d7, cn 0 8 u5), (d8, cn 0 8 u6)] 0 [(0, ar h), (1, ar nw)] [] 0 0
  refine v_aload_n (pc := 0) 0 rfl dX10_copyFrom_0 ?_
  refine v_aload_n (pc := 1) 1 rfl dX10_copyFrom_1 ?_
  refine v_get (pc := 2) (v := ai (f 0)) 9 (Or.inl r0) fl_10_54_10 rfl dX10_copyFrom_2 ?_
  refine v_put (pc := 5) 9 0 rfl fl_10_54_10 ck_10 ft_10_9 (okV_i _) (Nat.le_of_ble_eq_true rfl) (ws2 := [(h, co 10 [ar pls2, ar ins2, ar tap2, ar d3, ar d4, ar d5, ar d6, ar d7, ar d8, ai (f 0), ai z1, ai z2, ai z3, ai z4, ai z5, ar bar2]), (pls2, cq 3 6 pv2), (ins2, cq 2 5 iv2), (tap2, cn 0 100 u0), (d3, cn 0 8 u1), (d4, cn 0 8 u2), (d5, cn 0 8 u3), (d6, cn 0 8 u4), (d7, cn 0 8 u5), (d8, cn 0 8 u6)]) rfl dX10_copyFrom_5 ?_
  refine v_aload_n (pc := 8) 0 rfl dX10_copyFrom_8 ?_
  refine v_aload_n (pc := 9) 1 rfl dX10_copyFrom_9 ?_
  refine v_get (pc := 10) (v := ai (f 1)) 10 (Or.inl r0) fl_10_50_10 rfl dX10_copyFrom_10 ?_
  refine v_put (pc := 13) 10 0 rfl fl_10_50_10 ck_10 ft_10_10 (okV_i _) (Nat.le_of_ble_eq_true rfl) (ws2 := [(h, co 10 [ar pls2, ar ins2, ar tap2, ar d3, ar d4, ar d5, ar d6, ar d7, ar d8, ai (f 0), ai (f 1), ai z2, ai z3, ai z4, ai z5, ar bar2]), (pls2, cq 3 6 pv2), (ins2, cq 2 5 iv2), (tap2, cn 0 100 u0), (d3, cn 0 8 u1), (d4, cn 0 8 u2), (d5, cn 0 8 u3), (d6, cn 0 8 u4), (d7, cn 0 8 u5), (d8, cn 0 8 u6)]) rfl dX10_copyFrom_13 ?_
  refine v_aload_n (pc := 16) 0 rfl dX10_copyFrom_16 ?_
  refine v_aload_n (pc := 17) 1 rfl dX10_copyFrom_17 ?_
  refine v_get (pc := 18) (v := ai (f 4)) 11 (Or.inl r0) fl_10_57_10 rfl dX10_copyFrom_18 ?_
  refine v_put (pc := 21) 11 0 rfl fl_10_57_10 ck_10 ft_10_11 (okV_i _) (Nat.le_of_ble_eq_true rfl) (ws2 := [(h, co 10 [ar pls2, ar ins2, ar tap2, ar d3, ar d4, ar d5, ar d6, ar d7, ar d8, ai (f 0), ai (f 1), ai (f 4), ai z3, ai z4, ai z5, ar bar2]), (pls2, cq 3 6 pv2), (ins2, cq 2 5 iv2), (tap2, cn 0 100 u0), (d3, cn 0 8 u1), (d4, cn 0 8 u2), (d5, cn 0 8 u3), (d6, cn 0 8 u4), (d7, cn 0 8 u5), (d8, cn 0 8 u6)]) rfl dX10_copyFrom_21 ?_
  refine v_aload_n (pc := 24) 0 rfl dX10_copyFrom_24 ?_
  refine v_aload_n (pc := 25) 1 rfl dX10_copyFrom_25 ?_
  refine v_get (pc := 26) (v := ai (f 2)) 12 (Or.inl r0) fl_10_60_10 rfl dX10_copyFrom_26 ?_
  refine v_put (pc := 29) 12 0 rfl fl_10_60_10 ck_10 ft_10_12 (okV_i _) (Nat.le_of_ble_eq_true rfl) (ws2 := [(h, co 10 [ar pls2, ar ins2, ar tap2, ar d3, ar d4, ar d5, ar d6, ar d7, ar d8, ai (f 0), ai (f 1), ai (f 4), ai (f 2), ai z4, ai z5, ar bar2]), (pls2, cq 3 6 pv2), (ins2, cq 2 5 iv2), (tap2, cn 0 100 u0), (d3, cn 0 8 u1), (d4, cn 0 8 u2), (d5, cn 0 8 u3), (d6, cn 0 8 u4), (d7, cn 0 8 u5), (d8, cn 0 8 u6)]) rfl dX10_copyFrom_29 ?_
  refine v_aload_n (pc := 32) 0 rfl dX10_copyFrom_32 ?_
  refine v_aload_n (pc := 33) 1 rfl dX10_copyFrom_33 ?_
  refine v_get (pc := 34) (v := ai (f 3)) 13 (Or.inl r0) fl_10_63_10 rfl dX10_copyFrom_34 ?_
  refine v_put (pc := 37) 13 0 rfl fl_10_63_10 ck_10 ft_10_13 (okV_i _) (Nat.le_of_ble_eq_true rfl) (ws2 := [(h, co 10 [ar pls2, ar ins2, ar tap2, ar d3, ar d4, ar d5, ar d6, ar d7, ar d8, ai (f 0), ai (f 1), ai (f 4), ai (f 2), ai (f 3), ai z5, ar bar2]), (pls2, cq 3 6 pv2), (ins2, cq 2 5 iv2), (tap2, cn 0 100 u0), (d3, cn 0 8 u1), (d4, cn 0 8 u2), (d5, cn 0 8 u3), (d6, cn 0 8 u4), (d7, cn 0 8 u5), (d8, cn 0 8 u6)]) rfl dX10_copyFrom_37 ?_
  refine v_aload_n (pc := 40) 0 rfl dX10_copyFrom_40 ?_
  refine v_aload_n (pc := 41) 1 rfl dX10_copyFrom_41 ?_
  refine v_get (pc := 42) (v := ai (f 6)) 14 (Or.inl r0) fl_10_66_10 rfl dX10_copyFrom_42 ?_
  refine v_put (pc := 45) 14 0 rfl fl_10_66_10 ck_10 ft_10_14 (okV_i _) (Nat.le_of_ble_eq_true rfl) (ws2 := [(h, co 10 [ar pls2, ar ins2, ar tap2, ar d3, ar d4, ar d5, ar d6, ar d7, ar d8, ai (f 0), ai (f 1), ai (f 4), ai (f 2), ai (f 3), ai (f 6), ar bar2]), (pls2, cq 3 6 pv2), (ins2, cq 2 5 iv2), (tap2, cn 0 100 u0), (d3, cn 0 8 u1), (d4, cn 0 8 u2), (d5, cn 0 8 u3), (d6, cn 0 8 u4), (d7, cn 0 8 u5), (d8, cn 0 8 u6)]) rfl dX10_copyFrom_45 ?_
  refine v_iconst (pc := 48) dX10_copyFrom_48 ?_
  refine v_istore_n (pc := 49) (L2 := [(2, ai 0), (0, ar h), (1, ar nw)]) rfl (by decide) dX10_copyFrom_49 ?_
  have lp50 : ∀ (mm : Nat) (i : Int) (pv3 : Int → Option Nat) (p2 : Int → Nat) (t2 : Int → Nat), (6 - i).toNat = mm → (0 ≤ i ∧ i ≤ 6) → (∀ j : Int, 0 ≤ j → j < i → pv3 j = if j < f 0 then some (p2 j) else none) → V x cX10_copyFrom RX10 4 (rmU 6 118 12 84) ([(h, co 10 [ar pls2, ar ins2, ar tap2, ar d3, ar d4, ar d5, ar d6, ar d7, ar d8, ai (f 0), ai (f 1), ai (f 4), ai (f 2), ai (f 3), ai (f 6), ar bar2]), (pls2, cq 3 6 pv3), (ins2, cq 2 5 iv2), (tap2, cn 0 100 u0), (d3, cn 0 8 u1), (d4, cn 0 8 u2), (d5, cn 0 8 u3), (d6, cn 0 8 u4), (d7, cn 0 8 u5), (d8, cn 0 8 u6)] ++ zpS ta f p2 t2 (mnI i (f 0))) 50 [(0, ar h), (1, ar nw), (2, ai i)] [] (2 * i.toNat) (14 * i.toNat) := by
    intro mm
    induction mm using Nat.strongRecOn with
    | _ mm ih =>
      intro i pv3 p2 t2 hmm hix hpv3
      refine v_iload_n (pc := 50) 2 rfl dX10_copyFrom_50 ?_
      refine v_bipush (pc := 51) dX10_copyFrom_51 (by decide) ?_
      refine v_icmp_ge (pc := 53) 95 dX10_copyFrom_53 (by decide) (by unfold iB; omega) (by unfold iB; omega) (fun c_1 => ?_) (fun c_1 => ?_)
      · skip
        refine v_iconst (pc := 95) dX10_copyFrom_95 ?_
        refine v_istore_n (pc := 96) (L2 := [(2, ai 0), (0, ar h), (1, ar nw)]) rfl (by decide) dX10_copyFrom_96 ?_
        have lp97 : ∀ (mm : Nat) (j : Int) (iv3 : Int → Option Nat), (5 - j).toNat = mm → (0 ≤ j ∧ j ≤ 5) → (∀ q : Int, 0 ≤ q → q < j → iv3 q = iv q) → V x cX10_copyFrom RX10 4 (rmU 6 118 12 84) ([(h, co 10 [ar pls2, ar ins2, ar tap2, ar d3, ar d4, ar d5, ar d6, ar d7, ar d8, ai (f 0), ai (f 1), ai (f 4), ai (f 2), ai (f 3), ai (f 6), ar bar2]), (pls2, cq 3 6 pv3), (ins2, cq 2 5 iv3), (tap2, cn 0 100 u0), (d3, cn 0 8 u1), (d4, cn 0 8 u2), (d5, cn 0 8 u3), (d6, cn 0 8 u4), (d7, cn 0 8 u5), (d8, cn 0 8 u6)] ++ zpS ta f p2 t2 (mnI i (f 0))) 97 [(0, ar h), (1, ar nw), (2, ai j)] [] (2 * i.toNat) (14 * i.toNat) := by
          intro mm
          induction mm using Nat.strongRecOn with
          | _ mm ih97 =>
            intro j iv3 hmm hjx hiv3
            refine v_iload_n (pc := 97) 2 rfl dX10_copyFrom_97 ?_
            refine v_iconst (pc := 98) dX10_copyFrom_98 ?_
            refine v_icmp_ge (pc := 99) 120 dX10_copyFrom_99 (by decide) (by unfold iB; omega) (by unfold iB; omega) (fun c_2 => ?_) (fun c_2 => ?_)
            · skip
              refine v_aload_n (pc := 120) 1 rfl dX10_copyFrom_120 ?_
              refine v_get (pc := 121) (v := ar tap) 2 (Or.inl r0) fl_10_23_10 rfl dX10_copyFrom_121 ?_
              refine v_iconst (pc := 124) dX10_copyFrom_124 ?_
              refine v_aload_n (pc := 125) 0 rfl dX10_copyFrom_125 ?_
              refine v_get (pc := 126) (v := ar tap2) 2 (Or.inr ⟨0, rfl⟩) fl_10_23_10 rfl dX10_copyFrom_126 ?_
              refine v_iconst (pc := 129) dX10_copyFrom_129 ?_
              refine v_bipush (pc := 130) dX10_copyFrom_130 (by decide) ?_
              refine v_cpy (pc := 132) (N := 100) 3 (Or.inl r3) rfl (by decide) (ws2 := ([(h, co 10 [ar pls2, ar ins2, ar tap2, ar d3, ar d4, ar d5, ar d6, ar d7, ar d8, ai (f 0), ai (f 1), ai (f 4), ai (f 2), ai (f 3), ai (f 6), ar bar2]), (pls2, cq 3 6 pv3), (ins2, cq 2 5 iv3), (tap2, cn 0 100 tp), (d3, cn 0 8 u1), (d4, cn 0 8 u2), (d5, cn 0 8 u3), (d6, cn 0 8 u4), (d7, cn 0 8 u5), (d8, cn 0 8 u6)] ++ zpS ta f p2 t2 (mnI i (f 0)))) rfl wcp_10 wcp_native wcp_static wcp_init ⟨Nat.le_of_ble_eq_true rfl, Nat.le_of_ble_eq_true rfl⟩ dX10_copyFrom_132 ?_
              refine v_aload_n (pc := 135) 1 rfl dX10_copyFrom_135 ?_
              refine v_get (pc := 136) (v := ar e3) 3 (Or.inl r0) fl_10_27_10 rfl dX10_copyFrom_136 ?_
              refine v_iconst (pc := 139) dX10_copyFrom_139 ?_
              refine v_aload_n (pc := 140) 0 rfl dX10_copyFrom_140 ?_
              refine v_get (pc := 141) (v := ar d3) 3 (Or.inr ⟨0, rfl⟩) fl_10_27_10 rfl dX10_copyFrom_141 ?_
              refine v_iconst (pc := 144) dX10_copyFrom_144 ?_
              refine v_bipush (pc := 145) dX10_copyFrom_145 (by decide) ?_
              refine v_cpy (pc := 147) (N := 8) 4 (Or.inl r4) rfl (by decide) (ws2 := ([(h, co 10 [ar pls2, ar ins2, ar tap2, ar d3, ar d4, ar d5, ar d6, ar d7, ar d8, ai (f 0), ai (f 1), ai (f 4), ai (f 2), ai (f 3), ai (f 6), ar bar2]), (pls2, cq 3 6 pv3), (ins2, cq 2 5 iv3), (tap2, cn 0 100 tp), (d3, cn 0 8 sp), (d4, cn 0 8 u2), (d5, cn 0 8 u3), (d6, cn 0 8 u4), (d7, cn 0 8 u5), (d8, cn 0 8 u6)] ++ zpS ta f p2 t2 (mnI i (f 0)))) rfl wcp_10 wcp_native wcp_static wcp_init ⟨Nat.le_of_ble_eq_true rfl, Nat.le_of_ble_eq_true rfl⟩ dX10_copyFrom_147 ?_
              refine v_aload_n (pc := 150) 1 rfl dX10_copyFrom_150 ?_
              refine v_get (pc := 151) (v := ar e4) 4 (Or.inl r0) fl_10_30_10 rfl dX10_copyFrom_151 ?_
              refine v_iconst (pc := 154) dX10_copyFrom_154 ?_
              refine v_aload_n (pc := 155) 0 rfl dX10_copyFrom_155 ?_
              refine v_get (pc := 156) (v := ar d4) 4 (Or.inr ⟨0, rfl⟩) fl_10_30_10 rfl dX10_copyFrom_156 ?_
              refine v_iconst (pc := 159) dX10_copyFrom_159 ?_
              refine v_bipush (pc := 160) dX10_copyFrom_160 (by decide) ?_
              refine v_cpy (pc := 162) (N := 8) 5 (Or.inl r5) rfl (by decide) (ws2 := ([(h, co 10 [ar pls2, ar ins2, ar tap2, ar d3, ar d4, ar d5, ar d6, ar d7, ar d8, ai (f 0), ai (f 1), ai (f 4), ai (f 2), ai (f 3), ai (f 6), ar bar2]), (pls2, cq 3 6 pv3), (ins2, cq 2 5 iv3), (tap2, cn 0 100 tp), (d3, cn 0 8 sp), (d4, cn 0 8 sm), (d5, cn 0 8 u3), (d6, cn 0 8 u4), (d7, cn 0 8 u5), (d8, cn 0 8 u6)] ++ zpS ta f p2 t2 (mnI i (f 0)))) rfl wcp_10 wcp_native wcp_static wcp_init ⟨Nat.le_of_ble_eq_true rfl, Nat.le_of_ble_eq_true rfl⟩ dX10_copyFrom_162 ?_
              refine v_aload_n (pc := 165) 1 rfl dX10_copyFrom_165 ?_
              refine v_get (pc := 166) (v := ar e5) 5 (Or.inl r0) fl_10_33_10 rfl dX10_copyFrom_166 ?_
              refine v_iconst (pc := 169) dX10_copyFrom_169 ?_
              refine v_aload_n (pc := 170) 0 rfl dX10_copyFrom_170 ?_
              refine v_get (pc := 171) (v := ar d5) 5 (Or.inr ⟨0, rfl⟩) fl_10_33_10 rfl dX10_copyFrom_171 ?_
              refine v_iconst (pc := 174) dX10_copyFrom_174 ?_
              refine v_bipush (pc := 175) dX10_copyFrom_175 (by decide) ?_
              refine v_cpy (pc := 177) (N := 8) 6 (Or.inl r6) rfl (by decide) (ws2 := ([(h, co 10 [ar pls2, ar ins2, ar tap2, ar d3, ar d4, ar d5, ar d6, ar d7, ar d8, ai (f 0), ai (f 1), ai (f 4), ai (f 2), ai (f 3), ai (f 6), ar bar2]), (pls2, cq 3 6 pv3), (ins2, cq 2 5 iv3), (tap2, cn 0 100 tp), (d3, cn 0 8 sp), (d4, cn 0 8 sm), (d5, cn 0 8 sf), (d6, cn 0 8 u4), (d7, cn 0 8 u5), (d8, cn 0 8 u6)] ++ zpS ta f p2 t2 (mnI i (f 0)))) rfl wcp_10 wcp_native wcp_static wcp_init ⟨Nat.le_of_ble_eq_true rfl, Nat.le_of_ble_eq_true rfl⟩ dX10_copyFrom_177 ?_
              refine v_aload_n (pc := 180) 1 rfl dX10_copyFrom_180 ?_
              refine v_get (pc := 181) (v := ar e6) 6 (Or.inl r0) fl_10_36_10 rfl dX10_copyFrom_181 ?_
              refine v_iconst (pc := 184) dX10_copyFrom_184 ?_
              refine v_aload_n (pc := 185) 0 rfl dX10_copyFrom_185 ?_
              refine v_get (pc := 186) (v := ar d6) 6 (Or.inr ⟨0, rfl⟩) fl_10_36_10 rfl dX10_copyFrom_186 ?_
              refine v_iconst (pc := 189) dX10_copyFrom_189 ?_
              refine v_bipush (pc := 190) dX10_copyFrom_190 (by decide) ?_
              refine v_cpy (pc := 192) (N := 8) 7 (Or.inl r7) rfl (by decide) (ws2 := ([(h, co 10 [ar pls2, ar ins2, ar tap2, ar d3, ar d4, ar d5, ar d6, ar d7, ar d8, ai (f 0), ai (f 1), ai (f 4), ai (f 2), ai (f 3), ai (f 6), ar bar2]), (pls2, cq 3 6 pv3), (ins2, cq 2 5 iv3), (tap2, cn 0 100 tp), (d3, cn 0 8 sp), (d4, cn 0 8 sm), (d5, cn 0 8 sf), (d6, cn 0 8 sc), (d7, cn 0 8 u5), (d8, cn 0 8 u6)] ++ zpS ta f p2 t2 (mnI i (f 0)))) rfl wcp_10 wcp_native wcp_static wcp_init ⟨Nat.le_of_ble_eq_true rfl, Nat.le_of_ble_eq_true rfl⟩ dX10_copyFrom_192 ?_
              refine v_aload_n (pc := 195) 1 rfl dX10_copyFrom_195 ?_
              refine v_get (pc := 196) (v := ar e7) 7 (Or.inl r0) fl_10_39_10 rfl dX10_copyFrom_196 ?_
              refine v_iconst (pc := 199) dX10_copyFrom_199 ?_
              refine v_aload_n (pc := 200) 0 rfl dX10_copyFrom_200 ?_
              refine v_get (pc := 201) (v := ar d7) 7 (Or.inr ⟨0, rfl⟩) fl_10_39_10 rfl dX10_copyFrom_201 ?_
              refine v_iconst (pc := 204) dX10_copyFrom_204 ?_
              refine v_bipush (pc := 205) dX10_copyFrom_205 (by decide) ?_
              refine v_cpy (pc := 207) (N := 8) 8 (Or.inl r8) rfl (by decide) (ws2 := ([(h, co 10 [ar pls2, ar ins2, ar tap2, ar d3, ar d4, ar d5, ar d6, ar d7, ar d8, ai (f 0), ai (f 1), ai (f 4), ai (f 2), ai (f 3), ai (f 6), ar bar2]), (pls2, cq 3 6 pv3), (ins2, cq 2 5 iv3), (tap2, cn 0 100 tp), (d3, cn 0 8 sp), (d4, cn 0 8 sm), (d5, cn 0 8 sf), (d6, cn 0 8 sc), (d7, cn 0 8 bp), (d8, cn 0 8 u6)] ++ zpS ta f p2 t2 (mnI i (f 0)))) rfl wcp_10 wcp_native wcp_static wcp_init ⟨Nat.le_of_ble_eq_true rfl, Nat.le_of_ble_eq_true rfl⟩ dX10_copyFrom_207 ?_
              refine v_aload_n (pc := 210) 1 rfl dX10_copyFrom_210 ?_
              refine v_get (pc := 211) (v := ar e8) 8 (Or.inl r0) fl_10_42_10 rfl dX10_copyFrom_211 ?_
              refine v_iconst (pc := 214) dX10_copyFrom_214 ?_
              refine v_aload_n (pc := 215) 0 rfl dX10_copyFrom_215 ?_
              refine v_get (pc := 216) (v := ar d8) 8 (Or.inr ⟨0, rfl⟩) fl_10_42_10 rfl dX10_copyFrom_216 ?_
              refine v_iconst (pc := 219) dX10_copyFrom_219 ?_
              refine v_bipush (pc := 220) dX10_copyFrom_220 (by decide) ?_
              refine v_cpy (pc := 222) (N := 8) 9 (Or.inl r9) rfl (by decide) (ws2 := ([(h, co 10 [ar pls2, ar ins2, ar tap2, ar d3, ar d4, ar d5, ar d6, ar d7, ar d8, ai (f 0), ai (f 1), ai (f 4), ai (f 2), ai (f 3), ai (f 6), ar bar2]), (pls2, cq 3 6 pv3), (ins2, cq 2 5 iv3), (tap2, cn 0 100 tp), (d3, cn 0 8 sp), (d4, cn 0 8 sm), (d5, cn 0 8 sf), (d6, cn 0 8 sc), (d7, cn 0 8 bp), (d8, cn 0 8 bm)] ++ zpS ta f p2 t2 (mnI i (f 0)))) rfl wcp_10 wcp_native wcp_static wcp_init ⟨Nat.le_of_ble_eq_true rfl, Nat.le_of_ble_eq_true rfl⟩ dX10_copyFrom_222 ?_
              refine v_ws (ws2 := ([(h, co 10 [ar pls2, ar ins2, ar tap2, ar d3, ar d4, ar d5, ar d6, ar d7, ar d8, ai (f 0), ai (f 1), ai (f 4), ai (f 2), ai (f 3), ai (f 6), ar bar2]), (pls2, cq 3 6 pv3), (ins2, cq 2 5 iv3), (tap2, cn 0 100 tp), (d3, cn 0 8 sp), (d4, cn 0 8 sm), (d5, cn 0 8 sf), (d6, cn 0 8 sc), (d7, cn 0 8 bp), (d8, cn 0 8 bm)] ++ zpS ta f p2 t2 (f 0).toNat)) (by rw [mnI_ge (show f 0 ≤ i by omega)]) ?_
              exact hret (pv3, iv3, p2, t2) _ _ _ _ _ (by exact ⟨fun z z0 z1 => hpv3 z z0 (by omega), fun z z0 z1 => hiv3 z z0 (by omega)⟩) rfl rfl (by omega) (by omega) dX10_copyFrom_225
            · skip
              refine v_aload_n (pc := 102) 0 rfl dX10_copyFrom_102 ?_
              refine v_get (pc := 103) (v := ar ins2) 1 (Or.inr ⟨0, rfl⟩) fl_10_19_10 rfl dX10_copyFrom_103 ?_
              refine v_iload_n (pc := 106) 2 rfl dX10_copyFrom_106 ?_
              refine v_aload_n (pc := 107) 1 rfl dX10_copyFrom_107 ?_
              refine v_get (pc := 108) (v := ar ins) 1 (Or.inl r0) fl_10_19_10 rfl dX10_copyFrom_108 ?_
              refine v_iload_n (pc := 111) 2 rfl dX10_copyFrom_111 ?_
              refine v_aald (pc := 112) (by decide) (Or.inl r2) (by omega) (by omega) (by decide) dX10_copyFrom_112 ?_
              refine v_aastO (pc := 113) (o := (iv j)) 2 tQ_2 rfl (fun b h => (hil j b (by omega) (by omega) h).elim (fun fs hm => ⟨3, fs, _, rfl, Or.inl (hra _ (List.mem_append_right _ hm)), Or.inl rfl⟩)) (by omega) (by omega) (by decide) (ws2 := ([(h, co 10 [ar pls2, ar ins2, ar tap2, ar d3, ar d4, ar d5, ar d6, ar d7, ar d8, ai (f 0), ai (f 1), ai (f 4), ai (f 2), ai (f 3), ai (f 6), ar bar2]), (pls2, cq 3 6 pv3), (ins2, cq 2 5 (aupq iv3 j (iv j))), (tap2, cn 0 100 u0), (d3, cn 0 8 u1), (d4, cn 0 8 u2), (d5, cn 0 8 u3), (d6, cn 0 8 u4), (d7, cn 0 8 u5), (d8, cn 0 8 u6)] ++ zpS ta f p2 t2 (mnI i (f 0)))) rfl dX10_copyFrom_113 ?_
              refine v_iinc (pc := 114) 2 (L2 := [(2, ai (j + 1)), (0, ar h), (1, ar nw)]) rfl rfl (by decide) dX10_copyFrom_114 ?_
              refine v_goto (pc := 117) 97 dX10_copyFrom_117 (by decide) ?_
              refine v_sub (L2 := [(0, ar h), (1, ar nw), (2, ai (j + 1))]) [1, 2, 0] rfl ?_
              refine v_widen (k2 := (2 * i.toNat)) (n2 := (14 * i.toNat)) (by omega) (by omega) ?_
              exact ih97 _ (by omega) (j + 1) (aupq iv3 j (iv j)) rfl (by omega) (by intro q q0 q1; by_cases z : q = j; (subst z; exact aupq_s _ _ _); (rw [aupq_n _ _ z]; exact hiv3 q q0 (by omega)))
        refine v_sub (L2 := [(0, ar h), (1, ar nw), (2, ai 0)]) [1, 2, 0] rfl ?_
        refine v_widen (k2 := (2 * i.toNat)) (n2 := (14 * i.toNat)) (by omega) (by omega) ?_
        exact lp97 _ 0 iv2 rfl (by omega) (by intro q q0 q1; exfalso; omega)
      · skip
        refine v_aload_n (pc := 56) 1 rfl dX10_copyFrom_56 ?_
        refine v_get (pc := 57) (v := ar pls) 0 (Or.inl r0) fl_10_11_10 rfl dX10_copyFrom_57 ?_
        refine v_iload_n (pc := 60) 2 rfl dX10_copyFrom_60 ?_
        refine v_aald (pc := 61) (by decide) (Or.inl r1) (by omega) (by omega) (by decide) dX10_copyFrom_61 ?_
        rcases Classical.em (i < f 0) with hif | hif
        · skip
          refine v_eqa (o2 := some (pl i)) (by rw [hpv i hix.1 (by omega), if_pos hif]) ?_
          have rP := hra _ (List.mem_append_left _ (zpA_p (ta := ta) (pl := pl) (tu := tu) (show 0 ≤ i ∧ i ≤ f 0 - 1 by omega)))
          have rQ := hra _ (List.mem_append_left _ (zpA_t (ta := ta) (pl := pl) (tu := tu) (show 0 ≤ i ∧ i ≤ f 0 - 1 by omega)))
          obtain ⟨hpp, hf1, hf2, hf3, hf4, hf5, hf6, hf7, hf8⟩ := hSp i (by omega) (by omega)
          refine v_astore_n (pc := 62) (L2 := [(3, ar (pl i)), (0, ar h), (1, ar nw), (2, ai i)]) rfl (by decide) dX10_copyFrom_62 ?_
          refine v_aload_n (pc := 63) 1 rfl dX10_copyFrom_63 ?_
          refine v_get (pc := 64) (v := ar pls2) 0 (Or.inr ⟨0, rfl⟩) fl_10_11_10 rfl dX10_copyFrom_64 ?_
          refine v_iload_n (pc := 67) 3 rfl dX10_copyFrom_67 ?_
          refine v_aload_n (pc := 68) 0 rfl dX10_copyFrom_68 ?_
          refine v_ifnull_r (pc := 69) dX10_copyFrom_69 ?_
          refine v_iload_n (pc := 72) 3 rfl dX10_copyFrom_72 ?_
          refine v_aload_n (pc := 73) 1 rfl dX10_copyFrom_73 ?_
          refine v_get (pc := 74) (v := ai (f 0)) 9 (Or.inr ⟨0, rfl⟩) fl_10_54_10 rfl dX10_copyFrom_74 ?_
          refine v_icmp_lt (pc := 77) 84 dX10_copyFrom_77 (by decide) (by unfold iB; omega) (by unfold iB; omega) (fun c_3 => ?_) (fun c_3 => ?_)
          · skip
            refine v_aload_n (pc := 84) 0 rfl dX10_copyFrom_84 ?_
            rcases (show f (7 + i) = 0 ∨ f (7 + i) = 1 ∨ f (7 + i) = 2 ∨ f (7 + i) = 3 ∨ f (7 + i) = 4 ∨ f (7 + i) = 5 ∨ f (7 + i) = 6 by omega) with hk | hk | hk | hk | hk | hk | hk
            · skip
              have e : zpO ta f i (tu i) = co 5 (zpL ta f i []) := zpO_k hk rfl rfl
              have rP2 : Ro x (pl i, co 5 [ar ta, ai (f (7 + i)), ai i, ai (f (13 + i)), ai (f (19 + i)), ai (f (25 + i)), ai (f (31 + i)), ai (f (37 + i)), ai (f (43 + i))]) := by have q := rP; rw [e] at q; exact q
              refine v_call0 (pc := 85) (As := []) (rest := [ai i, ar pls2]) (c_X5_twin_k5 (gS := xg x) ta (pl i) (tu i) f i hk) (c := 5) rfl (Or.inl rP2) wl_X10_69 wv_X5_X5_twin_X5_twin wi_X5_twin wk_X5_twin wz_X5 md_X5_twin rfl (Nat.le_of_ble_eq_true rfl) ⟨Nat.le_of_ble_eq_true rfl, Nat.le_of_ble_eq_true rfl, by show 2 * i.toNat + 1 ≤ 12; omega, by show 14 * i.toNat + 9 ≤ 84; omega⟩ (ro_cons (Or.inl rP2) ro_nil) dX10_copyFrom_85 (fun u hu => ?_)
              obtain ⟨n1, rfl⟩ : ∃ z, z = u := ⟨_, rfl⟩
              have e2 : zpO ta f i 0 = co 5 (zpL ta f i []) := zpO_k hk rfl rfl
              refine v_ws (ws2 := ([(h, co 10 [ar pls2, ar ins2, ar tap2, ar d3, ar d4, ar d5, ar d6, ar d7, ar d8, ai (f 0), ai (f 1), ai (f 4), ai (f 2), ai (f 3), ai (f 6), ar bar2]), (pls2, cq 3 6 pv3), (ins2, cq 2 5 iv2), (tap2, cn 0 100 u0), (d3, cn 0 8 u1), (d4, cn 0 8 u2), (d5, cn 0 8 u3), (d6, cn 0 8 u4), (d7, cn 0 8 u5), (d8, cn 0 8 u6)] ++ (zpS ta f p2 t2 (mnI i (f 0)) ++ zpW ta f (fun _ => n1) (fun _ => 0) i))) (by rw [zpW_o (show f (7 + i) ≠ 6 by omega), e2]; exact List.append_assoc _ _ _) ?_
              show V x cX10_copyFrom RX10 4 (rmU 6 118 12 84) ([(h, co 10 [ar pls2, ar ins2, ar tap2, ar d3, ar d4, ar d5, ar d6, ar d7, ar d8, ai (f 0), ai (f 1), ai (f 4), ai (f 2), ai (f 3), ai (f 6), ar bar2]), (pls2, cq 3 6 pv3), (ins2, cq 2 5 iv2), (tap2, cn 0 100 u0), (d3, cn 0 8 u1), (d4, cn 0 8 u2), (d5, cn 0 8 u3), (d6, cn 0 8 u4), (d7, cn 0 8 u5), (d8, cn 0 8 u6)] ++ (zpS ta f p2 t2 (mnI i (f 0)) ++ zpW ta f (fun _ => n1) (fun _ => 0) i)) 88 [(3, ar (pl i)), (0, ar h), (1, ar nw), (2, ai i)] [ar n1, ai i, ar pls2] (2 * i.toNat + 1) (14 * i.toNat + 9)
              refine v_aastO (pc := 88) (o := (some n1)) 1 tQ_3 rfl (fun b h => by cases h; exact ⟨5, zpL ta f i [], _, rfl, Or.inr (List.getElem?_of_mem (List.mem_append_right _ (List.mem_append_right _ (by rw [zpW_o (show f (7 + i) ≠ 6 by omega), e2]; exact List.mem_cons_self)))), (Or.inl rfl)⟩) (by omega) (by omega) (by decide) (ws2 := ([(h, co 10 [ar pls2, ar ins2, ar tap2, ar d3, ar d4, ar d5, ar d6, ar d7, ar d8, ai (f 0), ai (f 1), ai (f 4), ai (f 2), ai (f 3), ai (f 6), ar bar2]), (pls2, cq 3 6 (aupq pv3 i (some n1))), (ins2, cq 2 5 iv2), (tap2, cn 0 100 u0), (d3, cn 0 8 u1), (d4, cn 0 8 u2), (d5, cn 0 8 u3), (d6, cn 0 8 u4), (d7, cn 0 8 u5), (d8, cn 0 8 u6)] ++ (zpS ta f p2 t2 (mnI i (f 0)) ++ zpW ta f (fun _ => n1) (fun _ => 0) i))) rfl dX10_copyFrom_88 ?_
              refine v_iinc (pc := 89) 3 (L2 := [(2, ai (i + 1)), (3, ar (pl i)), (0, ar h), (1, ar nw)]) rfl rfl (by decide) dX10_copyFrom_89 ?_
              refine v_goto (pc := 92) 50 dX10_copyFrom_92 (by decide) ?_
              refine v_sub (L2 := [(0, ar h), (1, ar nw), (2, ai (i + 1))]) [2, 3, 0] rfl ?_
              refine v_widen (k2 := (2 * (i + 1).toNat)) (n2 := (14 * (i + 1).toNat)) (by omega) (by omega) ?_
              refine v_ws (ws2 := ([(h, co 10 [ar pls2, ar ins2, ar tap2, ar d3, ar d4, ar d5, ar d6, ar d7, ar d8, ai (f 0), ai (f 1), ai (f 4), ai (f 2), ai (f 3), ai (f 6), ar bar2]), (pls2, cq 3 6 (aupq pv3 i (some n1))), (ins2, cq 2 5 iv2), (tap2, cn 0 100 u0), (d3, cn 0 8 u1), (d4, cn 0 8 u2), (d5, cn 0 8 u3), (d6, cn 0 8 u4), (d7, cn 0 8 u5), (d8, cn 0 8 u6)] ++ zpS ta f (nuf p2 i n1) (nuf t2 i 0) (mnI (i + 1) (f 0)))) (by rw [mnI_s hif, mnI_lt hif, zpS_succ (by omega)]) ?_
              exact ih _ (by omega) (i + 1) (aupq pv3 i (some n1)) (nuf p2 i n1) (nuf t2 i 0) rfl (by omega) (by intro j j0 j1; by_cases q : j = i; (subst q; rw [aupq_s, if_pos hif, nuf_s]); (rw [aupq_n _ _ q, nuf_n q]; exact hpv3 j j0 (by omega)))
            · skip
              have e : zpO ta f i (tu i) = co 8 (zpL ta f i []) := zpO_k hk rfl rfl
              have rP2 : Ro x (pl i, co 8 [ar ta, ai (f (7 + i)), ai i, ai (f (13 + i)), ai (f (19 + i)), ai (f (25 + i)), ai (f (31 + i)), ai (f (37 + i)), ai (f (43 + i))]) := by have q := rP; rw [e] at q; exact q
              refine v_call0 (pc := 85) (As := []) (rest := [ai i, ar pls2]) (c_X5_twin_k8 (gS := xg x) ta (pl i) (tu i) f i hk) (c := 8) rfl (Or.inl rP2) wl_X10_69 wv_X8_X5_twin_X5_twin wi_X5_twin wk_X5_twin wz_X5 md_X5_twin rfl (Nat.le_of_ble_eq_true rfl) ⟨Nat.le_of_ble_eq_true rfl, Nat.le_of_ble_eq_true rfl, by show 2 * i.toNat + 1 ≤ 12; omega, by show 14 * i.toNat + 9 ≤ 84; omega⟩ (ro_cons (Or.inl rP2) ro_nil) dX10_copyFrom_85 (fun u hu => ?_)
              obtain ⟨n1, rfl⟩ : ∃ z, z = u := ⟨_, rfl⟩
              have e2 : zpO ta f i 0 = co 8 (zpL ta f i []) := zpO_k hk rfl rfl
              refine v_ws (ws2 := ([(h, co 10 [ar pls2, ar ins2, ar tap2, ar d3, ar d4, ar d5, ar d6, ar d7, ar d8, ai (f 0), ai (f 1), ai (f 4), ai (f 2), ai (f 3), ai (f 6), ar bar2]), (pls2, cq 3 6 pv3), (ins2, cq 2 5 iv2), (tap2, cn 0 100 u0), (d3, cn 0 8 u1), (d4, cn 0 8 u2), (d5, cn 0 8 u3), (d6, cn 0 8 u4), (d7, cn 0 8 u5), (d8, cn 0 8 u6)] ++ (zpS ta f p2 t2 (mnI i (f 0)) ++ zpW ta f (fun _ => n1) (fun _ => 0) i))) (by rw [zpW_o (show f (7 + i) ≠ 6 by omega), e2]; exact List.append_assoc _ _ _) ?_
              show V x cX10_copyFrom RX10 4 (rmU 6 118 12 84) ([(h, co 10 [ar pls2, ar ins2, ar tap2, ar d3, ar d4, ar d5, ar d6, ar d7, ar d8, ai (f 0), ai (f 1), ai (f 4), ai (f 2), ai (f 3), ai (f 6), ar bar2]), (pls2, cq 3 6 pv3), (ins2, cq 2 5 iv2), (tap2, cn 0 100 u0), (d3, cn 0 8 u1), (d4, cn 0 8 u2), (d5, cn 0 8 u3), (d6, cn 0 8 u4), (d7, cn 0 8 u5), (d8, cn 0 8 u6)] ++ (zpS ta f p2 t2 (mnI i (f 0)) ++ zpW ta f (fun _ => n1) (fun _ => 0) i)) 88 [(3, ar (pl i)), (0, ar h), (1, ar nw), (2, ai i)] [ar n1, ai i, ar pls2] (2 * i.toNat + 1) (14 * i.toNat + 9)
              refine v_aastO (pc := 88) (o := (some n1)) 1 tQ_3 rfl (fun b h => by cases h; exact ⟨8, zpL ta f i [], _, rfl, Or.inr (List.getElem?_of_mem (List.mem_append_right _ (List.mem_append_right _ (by rw [zpW_o (show f (7 + i) ≠ 6 by omega), e2]; exact List.mem_cons_self)))), (Or.inr (List.mem_of_getElem? (i := 6) rfl))⟩) (by omega) (by omega) (by decide) (ws2 := ([(h, co 10 [ar pls2, ar ins2, ar tap2, ar d3, ar d4, ar d5, ar d6, ar d7, ar d8, ai (f 0), ai (f 1), ai (f 4), ai (f 2), ai (f 3), ai (f 6), ar bar2]), (pls2, cq 3 6 (aupq pv3 i (some n1))), (ins2, cq 2 5 iv2), (tap2, cn 0 100 u0), (d3, cn 0 8 u1), (d4, cn 0 8 u2), (d5, cn 0 8 u3), (d6, cn 0 8 u4), (d7, cn 0 8 u5), (d8, cn 0 8 u6)] ++ (zpS ta f p2 t2 (mnI i (f 0)) ++ zpW ta f (fun _ => n1) (fun _ => 0) i))) rfl dX10_copyFrom_88 ?_
              refine v_iinc (pc := 89) 3 (L2 := [(2, ai (i + 1)), (3, ar (pl i)), (0, ar h), (1, ar nw)]) rfl rfl (by decide) dX10_copyFrom_89 ?_
              refine v_goto (pc := 92) 50 dX10_copyFrom_92 (by decide) ?_
              refine v_sub (L2 := [(0, ar h), (1, ar nw), (2, ai (i + 1))]) [2, 3, 0] rfl ?_
              refine v_widen (k2 := (2 * (i + 1).toNat)) (n2 := (14 * (i + 1).toNat)) (by omega) (by omega) ?_
              refine v_ws (ws2 := ([(h, co 10 [ar pls2, ar ins2, ar tap2, ar d3, ar d4, ar d5, ar d6, ar d7, ar d8, ai (f 0), ai (f 1), ai (f 4), ai (f 2), ai (f 3), ai (f 6), ar bar2]), (pls2, cq 3 6 (aupq pv3 i (some n1))), (ins2, cq 2 5 iv2), (tap2, cn 0 100 u0), (d3, cn 0 8 u1), (d4, cn 0 8 u2), (d5, cn 0 8 u3), (d6, cn 0 8 u4), (d7, cn 0 8 u5), (d8, cn 0 8 u6)] ++ zpS ta f (nuf p2 i n1) (nuf t2 i 0) (mnI (i + 1) (f 0)))) (by rw [mnI_s hif, mnI_lt hif, zpS_succ (by omega)]) ?_
              exact ih _ (by omega) (i + 1) (aupq pv3 i (some n1)) (nuf p2 i n1) (nuf t2 i 0) rfl (by omega) (by intro j j0 j1; by_cases q : j = i; (subst q; rw [aupq_s, if_pos hif, nuf_s]); (rw [aupq_n _ _ q, nuf_n q]; exact hpv3 j j0 (by omega)))
            · skip
              have e : zpO ta f i (tu i) = co 0 (zpL ta f i []) := zpO_k hk rfl rfl
              have rP2 : Ro x (pl i, co 0 [ar ta, ai (f (7 + i)), ai i, ai (f (13 + i)), ai (f (19 + i)), ai (f (25 + i)), ai (f (31 + i)), ai (f (37 + i)), ai (f (43 + i))]) := by have q := rP; rw [e] at q; exact q
              refine v_call0 (pc := 85) (As := []) (rest := [ai i, ar pls2]) (c_X5_twin_k0 (gS := xg x) ta (pl i) (tu i) f i hk) (c := 0) rfl (Or.inl rP2) wl_X10_69 wv_X0_X5_twin_X5_twin wi_X5_twin wk_X5_twin wz_X5 md_X5_twin rfl (Nat.le_of_ble_eq_true rfl) ⟨Nat.le_of_ble_eq_true rfl, Nat.le_of_ble_eq_true rfl, by show 2 * i.toNat + 1 ≤ 12; omega, by show 14 * i.toNat + 9 ≤ 84; omega⟩ (ro_cons (Or.inl rP2) ro_nil) dX10_copyFrom_85 (fun u hu => ?_)
              obtain ⟨n1, rfl⟩ : ∃ z, z = u := ⟨_, rfl⟩
              have e2 : zpO ta f i 0 = co 0 (zpL ta f i []) := zpO_k hk rfl rfl
              refine v_ws (ws2 := ([(h, co 10 [ar pls2, ar ins2, ar tap2, ar d3, ar d4, ar d5, ar d6, ar d7, ar d8, ai (f 0), ai (f 1), ai (f 4), ai (f 2), ai (f 3), ai (f 6), ar bar2]), (pls2, cq 3 6 pv3), (ins2, cq 2 5 iv2), (tap2, cn 0 100 u0), (d3, cn 0 8 u1), (d4, cn 0 8 u2), (d5, cn 0 8 u3), (d6, cn 0 8 u4), (d7, cn 0 8 u5), (d8, cn 0 8 u6)] ++ (zpS ta f p2 t2 (mnI i (f 0)) ++ zpW ta f (fun _ => n1) (fun _ => 0) i))) (by rw [zpW_o (show f (7 + i) ≠ 6 by omega), e2]; exact List.append_assoc _ _ _) ?_
              show V x cX10_copyFrom RX10 4 (rmU 6 118 12 84) ([(h, co 10 [ar pls2, ar ins2, ar tap2, ar d3, ar d4, ar d5, ar d6, ar d7, ar d8, ai (f 0), ai (f 1), ai (f 4), ai (f 2), ai (f 3), ai (f 6), ar bar2]), (pls2, cq 3 6 pv3), (ins2, cq 2 5 iv2), (tap2, cn 0 100 u0), (d3, cn 0 8 u1), (d4, cn 0 8 u2), (d5, cn 0 8 u3), (d6, cn 0 8 u4), (d7, cn 0 8 u5), (d8, cn 0 8 u6)] ++ (zpS ta f p2 t2 (mnI i (f 0)) ++ zpW ta f (fun _ => n1) (fun _ => 0) i)) 88 [(3, ar (pl i)), (0, ar h), (1, ar nw), (2, ai i)] [ar n1, ai i, ar pls2] (2 * i.toNat + 1) (14 * i.toNat + 9)
              refine v_aastO (pc := 88) (o := (some n1)) 1 tQ_3 rfl (fun b h => by cases h; exact ⟨0, zpL ta f i [], _, rfl, Or.inr (List.getElem?_of_mem (List.mem_append_right _ (List.mem_append_right _ (by rw [zpW_o (show f (7 + i) ≠ 6 by omega), e2]; exact List.mem_cons_self)))), (Or.inr (List.mem_of_getElem? (i := 7) rfl))⟩) (by omega) (by omega) (by decide) (ws2 := ([(h, co 10 [ar pls2, ar ins2, ar tap2, ar d3, ar d4, ar d5, ar d6, ar d7, ar d8, ai (f 0), ai (f 1), ai (f 4), ai (f 2), ai (f 3), ai (f 6), ar bar2]), (pls2, cq 3 6 (aupq pv3 i (some n1))), (ins2, cq 2 5 iv2), (tap2, cn 0 100 u0), (d3, cn 0 8 u1), (d4, cn 0 8 u2), (d5, cn 0 8 u3), (d6, cn 0 8 u4), (d7, cn 0 8 u5), (d8, cn 0 8 u6)] ++ (zpS ta f p2 t2 (mnI i (f 0)) ++ zpW ta f (fun _ => n1) (fun _ => 0) i))) rfl dX10_copyFrom_88 ?_
              refine v_iinc (pc := 89) 3 (L2 := [(2, ai (i + 1)), (3, ar (pl i)), (0, ar h), (1, ar nw)]) rfl rfl (by decide) dX10_copyFrom_89 ?_
              refine v_goto (pc := 92) 50 dX10_copyFrom_92 (by decide) ?_
              refine v_sub (L2 := [(0, ar h), (1, ar nw), (2, ai (i + 1))]) [2, 3, 0] rfl ?_
              refine v_widen (k2 := (2 * (i + 1).toNat)) (n2 := (14 * (i + 1).toNat)) (by omega) (by omega) ?_
              refine v_ws (ws2 := ([(h, co 10 [ar pls2, ar ins2, ar tap2, ar d3, ar d4, ar d5, ar d6, ar d7, ar d8, ai (f 0), ai (f 1), ai (f 4), ai (f 2), ai (f 3), ai (f 6), ar bar2]), (pls2, cq 3 6 (aupq pv3 i (some n1))), (ins2, cq 2 5 iv2), (tap2, cn 0 100 u0), (d3, cn 0 8 u1), (d4, cn 0 8 u2), (d5, cn 0 8 u3), (d6, cn 0 8 u4), (d7, cn 0 8 u5), (d8, cn 0 8 u6)] ++ zpS ta f (nuf p2 i n1) (nuf t2 i 0) (mnI (i + 1) (f 0)))) (by rw [mnI_s hif, mnI_lt hif, zpS_succ (by omega)]) ?_
              exact ih _ (by omega) (i + 1) (aupq pv3 i (some n1)) (nuf p2 i n1) (nuf t2 i 0) rfl (by omega) (by intro j j0 j1; by_cases q : j = i; (subst q; rw [aupq_s, if_pos hif, nuf_s]); (rw [aupq_n _ _ q, nuf_n q]; exact hpv3 j j0 (by omega)))
            · skip
              have e : zpO ta f i (tu i) = co 7 (zpL ta f i []) := zpO_k hk rfl rfl
              have rP2 : Ro x (pl i, co 7 [ar ta, ai (f (7 + i)), ai i, ai (f (13 + i)), ai (f (19 + i)), ai (f (25 + i)), ai (f (31 + i)), ai (f (37 + i)), ai (f (43 + i))]) := by have q := rP; rw [e] at q; exact q
              refine v_call0 (pc := 85) (As := []) (rest := [ai i, ar pls2]) (c_X5_twin_k7 (gS := xg x) ta (pl i) (tu i) f i hk) (c := 7) rfl (Or.inl rP2) wl_X10_69 wv_X7_X5_twin_X5_twin wi_X5_twin wk_X5_twin wz_X5 md_X5_twin rfl (Nat.le_of_ble_eq_true rfl) ⟨Nat.le_of_ble_eq_true rfl, Nat.le_of_ble_eq_true rfl, by show 2 * i.toNat + 1 ≤ 12; omega, by show 14 * i.toNat + 9 ≤ 84; omega⟩ (ro_cons (Or.inl rP2) ro_nil) dX10_copyFrom_85 (fun u hu => ?_)
              obtain ⟨n1, rfl⟩ : ∃ z, z = u := ⟨_, rfl⟩
              have e2 : zpO ta f i 0 = co 7 (zpL ta f i []) := zpO_k hk rfl rfl
              refine v_ws (ws2 := ([(h, co 10 [ar pls2, ar ins2, ar tap2, ar d3, ar d4, ar d5, ar d6, ar d7, ar d8, ai (f 0), ai (f 1), ai (f 4), ai (f 2), ai (f 3), ai (f 6), ar bar2]), (pls2, cq 3 6 pv3), (ins2, cq 2 5 iv2), (tap2, cn 0 100 u0), (d3, cn 0 8 u1), (d4, cn 0 8 u2), (d5, cn 0 8 u3), (d6, cn 0 8 u4), (d7, cn 0 8 u5), (d8, cn 0 8 u6)] ++ (zpS ta f p2 t2 (mnI i (f 0)) ++ zpW ta f (fun _ => n1) (fun _ => 0) i))) (by rw [zpW_o (show f (7 + i) ≠ 6 by omega), e2]; exact List.append_assoc _ _ _) ?_
              show V x cX10_copyFrom RX10 4 (rmU 6 118 12 84) ([(h, co 10 [ar pls2, ar ins2, ar tap2, ar d3, ar d4, ar d5, ar d6, ar d7, ar d8, ai (f 0), ai (f 1), ai (f 4), ai (f 2), ai (f 3), ai (f 6), ar bar2]), (pls2, cq 3 6 pv3), (ins2, cq 2 5 iv2), (tap2, cn 0 100 u0), (d3, cn 0 8 u1), (d4, cn 0 8 u2), (d5, cn 0 8 u3), (d6, cn 0 8 u4), (d7, cn 0 8 u5), (d8, cn 0 8 u6)] ++ (zpS ta f p2 t2 (mnI i (f 0)) ++ zpW ta f (fun _ => n1) (fun _ => 0) i)) 88 [(3, ar (pl i)), (0, ar h), (1, ar nw), (2, ai i)] [ar n1, ai i, ar pls2] (2 * i.toNat + 1) (14 * i.toNat + 9)
              refine v_aastO (pc := 88) (o := (some n1)) 1 tQ_3 rfl (fun b h => by cases h; exact ⟨7, zpL ta f i [], _, rfl, Or.inr (List.getElem?_of_mem (List.mem_append_right _ (List.mem_append_right _ (by rw [zpW_o (show f (7 + i) ≠ 6 by omega), e2]; exact List.mem_cons_self)))), (Or.inr (List.mem_of_getElem? (i := 8) rfl))⟩) (by omega) (by omega) (by decide) (ws2 := ([(h, co 10 [ar pls2, ar ins2, ar tap2, ar d3, ar d4, ar d5, ar d6, ar d7, ar d8, ai (f 0), ai (f 1), ai (f 4), ai (f 2), ai (f 3), ai (f 6), ar bar2]), (pls2, cq 3 6 (aupq pv3 i (some n1))), (ins2, cq 2 5 iv2), (tap2, cn 0 100 u0), (d3, cn 0 8 u1), (d4, cn 0 8 u2), (d5, cn 0 8 u3), (d6, cn 0 8 u4), (d7, cn 0 8 u5), (d8, cn 0 8 u6)] ++ (zpS ta f p2 t2 (mnI i (f 0)) ++ zpW ta f (fun _ => n1) (fun _ => 0) i))) rfl dX10_copyFrom_88 ?_
              refine v_iinc (pc := 89) 3 (L2 := [(2, ai (i + 1)), (3, ar (pl i)), (0, ar h), (1, ar nw)]) rfl rfl (by decide) dX10_copyFrom_89 ?_
              refine v_goto (pc := 92) 50 dX10_copyFrom_92 (by decide) ?_
              refine v_sub (L2 := [(0, ar h), (1, ar nw), (2, ai (i + 1))]) [2, 3, 0] rfl ?_
              refine v_widen (k2 := (2 * (i + 1).toNat)) (n2 := (14 * (i + 1).toNat)) (by omega) (by omega) ?_
              refine v_ws (ws2 := ([(h, co 10 [ar pls2, ar ins2, ar tap2, ar d3, ar d4, ar d5, ar d6, ar d7, ar d8, ai (f 0), ai (f 1), ai (f 4), ai (f 2), ai (f 3), ai (f 6), ar bar2]), (pls2, cq 3 6 (aupq pv3 i (some n1))), (ins2, cq 2 5 iv2), (tap2, cn 0 100 u0), (d3, cn 0 8 u1), (d4, cn 0 8 u2), (d5, cn 0 8 u3), (d6, cn 0 8 u4), (d7, cn 0 8 u5), (d8, cn 0 8 u6)] ++ zpS ta f (nuf p2 i n1) (nuf t2 i 0) (mnI (i + 1) (f 0)))) (by rw [mnI_s hif, mnI_lt hif, zpS_succ (by omega)]) ?_
              exact ih _ (by omega) (i + 1) (aupq pv3 i (some n1)) (nuf p2 i n1) (nuf t2 i 0) rfl (by omega) (by intro j j0 j1; by_cases q : j = i; (subst q; rw [aupq_s, if_pos hif, nuf_s]); (rw [aupq_n _ _ q, nuf_n q]; exact hpv3 j j0 (by omega)))
            · skip
              have e : zpO ta f i (tu i) = co 1 (zpL ta f i []) := zpO_k hk rfl rfl
              have rP2 : Ro x (pl i, co 1 [ar ta, ai (f (7 + i)), ai i, ai (f (13 + i)), ai (f (19 + i)), ai (f (25 + i)), ai (f (31 + i)), ai (f (37 + i)), ai (f (43 + i))]) := by have q := rP; rw [e] at q; exact q
              refine v_call0 (pc := 85) (As := []) (rest := [ai i, ar pls2]) (c_X5_twin_k1 (gS := xg x) ta (pl i) (tu i) f i hk) (c := 1) rfl (Or.inl rP2) wl_X10_69 wv_X1_X5_twin_X5_twin wi_X5_twin wk_X5_twin wz_X5 md_X5_twin rfl (Nat.le_of_ble_eq_true rfl) ⟨Nat.le_of_ble_eq_true rfl, Nat.le_of_ble_eq_true rfl, by show 2 * i.toNat + 1 ≤ 12; omega, by show 14 * i.toNat + 9 ≤ 84; omega⟩ (ro_cons (Or.inl rP2) ro_nil) dX10_copyFrom_85 (fun u hu => ?_)
              obtain ⟨n1, rfl⟩ : ∃ z, z = u := ⟨_, rfl⟩
              have e2 : zpO ta f i 0 = co 1 (zpL ta f i []) := zpO_k hk rfl rfl
              refine v_ws (ws2 := ([(h, co 10 [ar pls2, ar ins2, ar tap2, ar d3, ar d4, ar d5, ar d6, ar d7, ar d8, ai (f 0), ai (f 1), ai (f 4), ai (f 2), ai (f 3), ai (f 6), ar bar2]), (pls2, cq 3 6 pv3), (ins2, cq 2 5 iv2), (tap2, cn 0 100 u0), (d3, cn 0 8 u1), (d4, cn 0 8 u2), (d5, cn 0 8 u3), (d6, cn 0 8 u4), (d7, cn 0 8 u5), (d8, cn 0 8 u6)] ++ (zpS ta f p2 t2 (mnI i (f 0)) ++ zpW ta f (fun _ => n1) (fun _ => 0) i))) (by rw [zpW_o (show f (7 + i) ≠ 6 by omega), e2]; exact List.append_assoc _ _ _) ?_
              show V x cX10_copyFrom RX10 4 (rmU 6 118 12 84) ([(h, co 10 [ar pls2, ar ins2, ar tap2, ar d3, ar d4, ar d5, ar d6, ar d7, ar d8, ai (f 0), ai (f 1), ai (f 4), ai (f 2), ai (f 3), ai (f 6), ar bar2]), (pls2, cq 3 6 pv3), (ins2, cq 2 5 iv2), (tap2, cn 0 100 u0), (d3, cn 0 8 u1), (d4, cn 0 8 u2), (d5, cn 0 8 u3), (d6, cn 0 8 u4), (d7, cn 0 8 u5), (d8, cn 0 8 u6)] ++ (zpS ta f p2 t2 (mnI i (f 0)) ++ zpW ta f (fun _ => n1) (fun _ => 0) i)) 88 [(3, ar (pl i)), (0, ar h), (1, ar nw), (2, ai i)] [ar n1, ai i, ar pls2] (2 * i.toNat + 1) (14 * i.toNat + 9)
              refine v_aastO (pc := 88) (o := (some n1)) 1 tQ_3 rfl (fun b h => by cases h; exact ⟨1, zpL ta f i [], _, rfl, Or.inr (List.getElem?_of_mem (List.mem_append_right _ (List.mem_append_right _ (by rw [zpW_o (show f (7 + i) ≠ 6 by omega), e2]; exact List.mem_cons_self)))), (Or.inr (List.mem_of_getElem? (i := 1) rfl))⟩) (by omega) (by omega) (by decide) (ws2 := ([(h, co 10 [ar pls2, ar ins2, ar tap2, ar d3, ar d4, ar d5, ar d6, ar d7, ar d8, ai (f 0), ai (f 1), ai (f 4), ai (f 2), ai (f 3), ai (f 6), ar bar2]), (pls2, cq 3 6 (aupq pv3 i (some n1))), (ins2, cq 2 5 iv2), (tap2, cn 0 100 u0), (d3, cn 0 8 u1), (d4, cn 0 8 u2), (d5, cn 0 8 u3), (d6, cn 0 8 u4), (d7, cn 0 8 u5), (d8, cn 0 8 u6)] ++ (zpS ta f p2 t2 (mnI i (f 0)) ++ zpW ta f (fun _ => n1) (fun _ => 0) i))) rfl dX10_copyFrom_88 ?_
              refine v_iinc (pc := 89) 3 (L2 := [(2, ai (i + 1)), (3, ar (pl i)), (0, ar h), (1, ar nw)]) rfl rfl (by decide) dX10_copyFrom_89 ?_
              refine v_goto (pc := 92) 50 dX10_copyFrom_92 (by decide) ?_
              refine v_sub (L2 := [(0, ar h), (1, ar nw), (2, ai (i + 1))]) [2, 3, 0] rfl ?_
              refine v_widen (k2 := (2 * (i + 1).toNat)) (n2 := (14 * (i + 1).toNat)) (by omega) (by omega) ?_
              refine v_ws (ws2 := ([(h, co 10 [ar pls2, ar ins2, ar tap2, ar d3, ar d4, ar d5, ar d6, ar d7, ar d8, ai (f 0), ai (f 1), ai (f 4), ai (f 2), ai (f 3), ai (f 6), ar bar2]), (pls2, cq 3 6 (aupq pv3 i (some n1))), (ins2, cq 2 5 iv2), (tap2, cn 0 100 u0), (d3, cn 0 8 u1), (d4, cn 0 8 u2), (d5, cn 0 8 u3), (d6, cn 0 8 u4), (d7, cn 0 8 u5), (d8, cn 0 8 u6)] ++ zpS ta f (nuf p2 i n1) (nuf t2 i 0) (mnI (i + 1) (f 0)))) (by rw [mnI_s hif, mnI_lt hif, zpS_succ (by omega)]) ?_
              exact ih _ (by omega) (i + 1) (aupq pv3 i (some n1)) (nuf p2 i n1) (nuf t2 i 0) rfl (by omega) (by intro j j0 j1; by_cases q : j = i; (subst q; rw [aupq_s, if_pos hif, nuf_s]); (rw [aupq_n _ _ q, nuf_n q]; exact hpv3 j j0 (by omega)))
            · skip
              have e : zpO ta f i (tu i) = co 2 (zpL ta f i []) := zpO_k hk rfl rfl
              have rP2 : Ro x (pl i, co 2 [ar ta, ai (f (7 + i)), ai i, ai (f (13 + i)), ai (f (19 + i)), ai (f (25 + i)), ai (f (31 + i)), ai (f (37 + i)), ai (f (43 + i))]) := by have q := rP; rw [e] at q; exact q
              refine v_call0 (pc := 85) (As := []) (rest := [ai i, ar pls2]) (c_X5_twin_k2 (gS := xg x) ta (pl i) (tu i) f i hk) (c := 2) rfl (Or.inl rP2) wl_X10_69 wv_X2_X5_twin_X5_twin wi_X5_twin wk_X5_twin wz_X5 md_X5_twin rfl (Nat.le_of_ble_eq_true rfl) ⟨Nat.le_of_ble_eq_true rfl, Nat.le_of_ble_eq_true rfl, by show 2 * i.toNat + 1 ≤ 12; omega, by show 14 * i.toNat + 9 ≤ 84; omega⟩ (ro_cons (Or.inl rP2) ro_nil) dX10_copyFrom_85 (fun u hu => ?_)
              obtain ⟨n1, rfl⟩ : ∃ z, z = u := ⟨_, rfl⟩
              have e2 : zpO ta f i 0 = co 2 (zpL ta f i []) := zpO_k hk rfl rfl
              refine v_ws (ws2 := ([(h, co 10 [ar pls2, ar ins2, ar tap2, ar d3, ar d4, ar d5, ar d6, ar d7, ar d8, ai (f 0), ai (f 1), ai (f 4), ai (f 2), ai (f 3), ai (f 6), ar bar2]), (pls2, cq 3 6 pv3), (ins2, cq 2 5 iv2), (tap2, cn 0 100 u0), (d3, cn 0 8 u1), (d4, cn 0 8 u2), (d5, cn 0 8 u3), (d6, cn 0 8 u4), (d7, cn 0 8 u5), (d8, cn 0 8 u6)] ++ (zpS ta f p2 t2 (mnI i (f 0)) ++ zpW ta f (fun _ => n1) (fun _ => 0) i))) (by rw [zpW_o (show f (7 + i) ≠ 6 by omega), e2]; exact List.append_assoc _ _ _) ?_
              show V x cX10_copyFrom RX10 4 (rmU 6 118 12 84) ([(h, co 10 [ar pls2, ar ins2, ar tap2, ar d3, ar d4, ar d5, ar d6, ar d7, ar d8, ai (f 0), ai (f 1), ai (f 4), ai (f 2), ai (f 3), ai (f 6), ar bar2]), (pls2, cq 3 6 pv3), (ins2, cq 2 5 iv2), (tap2, cn 0 100 u0), (d3, cn 0 8 u1), (d4, cn 0 8 u2), (d5, cn 0 8 u3), (d6, cn 0 8 u4), (d7, cn 0 8 u5), (d8, cn 0 8 u6)] ++ (zpS ta f p2 t2 (mnI i (f 0)) ++ zpW ta f (fun _ => n1) (fun _ => 0) i)) 88 [(3, ar (pl i)), (0, ar h), (1, ar nw), (2, ai i)] [ar n1, ai i, ar pls2] (2 * i.toNat + 1) (14 * i.toNat + 9)
              refine v_aastO (pc := 88) (o := (some n1)) 1 tQ_3 rfl (fun b h => by cases h; exact ⟨2, zpL ta f i [], _, rfl, Or.inr (List.getElem?_of_mem (List.mem_append_right _ (List.mem_append_right _ (by rw [zpW_o (show f (7 + i) ≠ 6 by omega), e2]; exact List.mem_cons_self)))), (Or.inr (List.mem_of_getElem? (i := 3) rfl))⟩) (by omega) (by omega) (by decide) (ws2 := ([(h, co 10 [ar pls2, ar ins2, ar tap2, ar d3, ar d4, ar d5, ar d6, ar d7, ar d8, ai (f 0), ai (f 1), ai (f 4), ai (f 2), ai (f 3), ai (f 6), ar bar2]), (pls2, cq 3 6 (aupq pv3 i (some n1))), (ins2, cq 2 5 iv2), (tap2, cn 0 100 u0), (d3, cn 0 8 u1), (d4, cn 0 8 u2), (d5, cn 0 8 u3), (d6, cn 0 8 u4), (d7, cn 0 8 u5), (d8, cn 0 8 u6)] ++ (zpS ta f p2 t2 (mnI i (f 0)) ++ zpW ta f (fun _ => n1) (fun _ => 0) i))) rfl dX10_copyFrom_88 ?_
              refine v_iinc (pc := 89) 3 (L2 := [(2, ai (i + 1)), (3, ar (pl i)), (0, ar h), (1, ar nw)]) rfl rfl (by decide) dX10_copyFrom_89 ?_
              refine v_goto (pc := 92) 50 dX10_copyFrom_92 (by decide) ?_
              refine v_sub (L2 := [(0, ar h), (1, ar nw), (2, ai (i + 1))]) [2, 3, 0] rfl ?_
              refine v_widen (k2 := (2 * (i + 1).toNat)) (n2 := (14 * (i + 1).toNat)) (by omega) (by omega) ?_
              refine v_ws (ws2 := ([(h, co 10 [ar pls2, ar ins2, ar tap2, ar d3, ar d4, ar d5, ar d6, ar d7, ar d8, ai (f 0), ai (f 1), ai (f 4), ai (f 2), ai (f 3), ai (f 6), ar bar2]), (pls2, cq 3 6 (aupq pv3 i (some n1))), (ins2, cq 2 5 iv2), (tap2, cn 0 100 u0), (d3, cn 0 8 u1), (d4, cn 0 8 u2), (d5, cn 0 8 u3), (d6, cn 0 8 u4), (d7, cn 0 8 u5), (d8, cn 0 8 u6)] ++ zpS ta f (nuf p2 i n1) (nuf t2 i 0) (mnI (i + 1) (f 0)))) (by rw [mnI_s hif, mnI_lt hif, zpS_succ (by omega)]) ?_
              exact ih _ (by omega) (i + 1) (aupq pv3 i (some n1)) (nuf p2 i n1) (nuf t2 i 0) rfl (by omega) (by intro j j0 j1; by_cases q : j = i; (subst q; rw [aupq_s, if_pos hif, nuf_s]); (rw [aupq_n _ _ q, nuf_n q]; exact hpv3 j j0 (by omega)))
            · skip
              have e : zpO ta f i (tu i) = co 9 (zpL ta f i [ar (tu i)]) := zpO_k hk rfl rfl
              have rP2 : Ro x (pl i, co 9 [ar ta, ai (f (7 + i)), ai i, ai (f (13 + i)), ai (f (19 + i)), ai (f (25 + i)), ai (f (31 + i)), ai (f (37 + i)), ai (f (43 + i)), ar (tu i)]) := by have q := rP; rw [e] at q; exact q
              have rT2 : Ro x (tu i, cn 0 4 (tnF f i)) := by have q := rQ; rw [tq_6 hk] at q; exact q
              refine v_call0 (pc := 85) (As := []) (rest := [ai i, ar pls2]) (c_X5_twin_k9 (gS := xg x) ta (pl i) (tu i) f i hk) (c := 9) rfl (Or.inl rP2) wl_X10_69 wv_X9_X5_twin_X5_twin wi_X5_twin wk_X5_twin wz_X5 md_X5_twin rfl (Nat.le_of_ble_eq_true rfl) ⟨Nat.le_of_ble_eq_true rfl, Nat.le_of_ble_eq_true rfl, by show 2 * i.toNat + 2 ≤ 12; omega, by show 14 * i.toNat + 14 ≤ 84; omega⟩ (ro_cons (Or.inl rP2) (ro_cons (Or.inl rT2) ro_nil)) dX10_copyFrom_85 (fun u hu => ?_)
              obtain ⟨n1, n2⟩ := u
              have e2 : zpO ta f i n2 = co 9 (zpL ta f i [ar n2]) := zpO_k hk rfl rfl
              refine v_ws (ws2 := ([(h, co 10 [ar pls2, ar ins2, ar tap2, ar d3, ar d4, ar d5, ar d6, ar d7, ar d8, ai (f 0), ai (f 1), ai (f 4), ai (f 2), ai (f 3), ai (f 6), ar bar2]), (pls2, cq 3 6 pv3), (ins2, cq 2 5 iv2), (tap2, cn 0 100 u0), (d3, cn 0 8 u1), (d4, cn 0 8 u2), (d5, cn 0 8 u3), (d6, cn 0 8 u4), (d7, cn 0 8 u5), (d8, cn 0 8 u6)] ++ (zpS ta f p2 t2 (mnI i (f 0)) ++ zpW ta f (fun _ => n1) (fun _ => n2) i))) (by rw [zpW_t hk, e2]; exact List.append_assoc _ _ _) ?_
              show V x cX10_copyFrom RX10 4 (rmU 6 118 12 84) ([(h, co 10 [ar pls2, ar ins2, ar tap2, ar d3, ar d4, ar d5, ar d6, ar d7, ar d8, ai (f 0), ai (f 1), ai (f 4), ai (f 2), ai (f 3), ai (f 6), ar bar2]), (pls2, cq 3 6 pv3), (ins2, cq 2 5 iv2), (tap2, cn 0 100 u0), (d3, cn 0 8 u1), (d4, cn 0 8 u2), (d5, cn 0 8 u3), (d6, cn 0 8 u4), (d7, cn 0 8 u5), (d8, cn 0 8 u6)] ++ (zpS ta f p2 t2 (mnI i (f 0)) ++ zpW ta f (fun _ => n1) (fun _ => n2) i)) 88 [(3, ar (pl i)), (0, ar h), (1, ar nw), (2, ai i)] [ar n1, ai i, ar pls2] (2 * i.toNat + 2) (14 * i.toNat + 14)
              refine v_aastO (pc := 88) (o := (some n1)) 1 tQ_3 rfl (fun b h => by cases h; exact ⟨9, zpL ta f i [ar n2], _, rfl, Or.inr (List.getElem?_of_mem (List.mem_append_right _ (List.mem_append_right _ (by rw [zpW_t hk, e2]; exact List.mem_cons_self)))), (Or.inr (List.mem_of_getElem? (i := 5) rfl))⟩) (by omega) (by omega) (by decide) (ws2 := ([(h, co 10 [ar pls2, ar ins2, ar tap2, ar d3, ar d4, ar d5, ar d6, ar d7, ar d8, ai (f 0), ai (f 1), ai (f 4), ai (f 2), ai (f 3), ai (f 6), ar bar2]), (pls2, cq 3 6 (aupq pv3 i (some n1))), (ins2, cq 2 5 iv2), (tap2, cn 0 100 u0), (d3, cn 0 8 u1), (d4, cn 0 8 u2), (d5, cn 0 8 u3), (d6, cn 0 8 u4), (d7, cn 0 8 u5), (d8, cn 0 8 u6)] ++ (zpS ta f p2 t2 (mnI i (f 0)) ++ zpW ta f (fun _ => n1) (fun _ => n2) i))) rfl dX10_copyFrom_88 ?_
              refine v_iinc (pc := 89) 3 (L2 := [(2, ai (i + 1)), (3, ar (pl i)), (0, ar h), (1, ar nw)]) rfl rfl (by decide) dX10_copyFrom_89 ?_
              refine v_goto (pc := 92) 50 dX10_copyFrom_92 (by decide) ?_
              refine v_sub (L2 := [(0, ar h), (1, ar nw), (2, ai (i + 1))]) [2, 3, 0] rfl ?_
              refine v_widen (k2 := (2 * (i + 1).toNat)) (n2 := (14 * (i + 1).toNat)) (by omega) (by omega) ?_
              refine v_ws (ws2 := ([(h, co 10 [ar pls2, ar ins2, ar tap2, ar d3, ar d4, ar d5, ar d6, ar d7, ar d8, ai (f 0), ai (f 1), ai (f 4), ai (f 2), ai (f 3), ai (f 6), ar bar2]), (pls2, cq 3 6 (aupq pv3 i (some n1))), (ins2, cq 2 5 iv2), (tap2, cn 0 100 u0), (d3, cn 0 8 u1), (d4, cn 0 8 u2), (d5, cn 0 8 u3), (d6, cn 0 8 u4), (d7, cn 0 8 u5), (d8, cn 0 8 u6)] ++ zpS ta f (nuf p2 i n1) (nuf t2 i n2) (mnI (i + 1) (f 0)))) (by rw [mnI_s hif, mnI_lt hif, zpS_succ (by omega)]) ?_
              exact ih _ (by omega) (i + 1) (aupq pv3 i (some n1)) (nuf p2 i n1) (nuf t2 i n2) rfl (by omega) (by intro j j0 j1; by_cases q : j = i; (subst q; rw [aupq_s, if_pos hif, nuf_s]); (rw [aupq_n _ _ q, nuf_n q]; exact hpv3 j j0 (by omega)))
          · skip
            exfalso; omega
        · skip
          refine v_eqa (o2 := none) (by rw [hpv i hix.1 (by omega), if_neg hif]) ?_
          refine v_astore_n (pc := 62) (L2 := [(3, an), (0, ar h), (1, ar nw), (2, ai i)]) rfl (by decide) dX10_copyFrom_62 ?_
          refine v_aload_n (pc := 63) 1 rfl dX10_copyFrom_63 ?_
          refine v_get (pc := 64) (v := ar pls2) 0 (Or.inr ⟨0, rfl⟩) fl_10_11_10 rfl dX10_copyFrom_64 ?_
          refine v_iload_n (pc := 67) 3 rfl dX10_copyFrom_67 ?_
          refine v_aload_n (pc := 68) 0 rfl dX10_copyFrom_68 ?_
          refine v_ifnull_n (pc := 69) 80 dX10_copyFrom_69 (by decide) ?_
          refine v_null (pc := 80) dX10_copyFrom_80 ?_
          refine v_goto (pc := 81) 88 dX10_copyFrom_81 (by decide) ?_
          refine v_aastO (pc := 88) (o := none) 1 tQ_3 rfl (fun b h => by cases h) (by omega) (by omega) (by decide) (ws2 := ([(h, co 10 [ar pls2, ar ins2, ar tap2, ar d3, ar d4, ar d5, ar d6, ar d7, ar d8, ai (f 0), ai (f 1), ai (f 4), ai (f 2), ai (f 3), ai (f 6), ar bar2]), (pls2, cq 3 6 (aupq pv3 i none)), (ins2, cq 2 5 iv2), (tap2, cn 0 100 u0), (d3, cn 0 8 u1), (d4, cn 0 8 u2), (d5, cn 0 8 u3), (d6, cn 0 8 u4), (d7, cn 0 8 u5), (d8, cn 0 8 u6)] ++ zpS ta f p2 t2 (mnI i (f 0)))) rfl dX10_copyFrom_88 ?_
          refine v_iinc (pc := 89) 3 (L2 := [(2, ai (i + 1)), (3, an), (0, ar h), (1, ar nw)]) rfl rfl (by decide) dX10_copyFrom_89 ?_
          refine v_goto (pc := 92) 50 dX10_copyFrom_92 (by decide) ?_
          refine v_sub (L2 := [(0, ar h), (1, ar nw), (2, ai (i + 1))]) [2, 3, 0] rfl ?_
          refine v_widen (k2 := (2 * (i + 1).toNat)) (n2 := (14 * (i + 1).toNat)) (by omega) (by omega) ?_
          refine v_ws (ws2 := ([(h, co 10 [ar pls2, ar ins2, ar tap2, ar d3, ar d4, ar d5, ar d6, ar d7, ar d8, ai (f 0), ai (f 1), ai (f 4), ai (f 2), ai (f 3), ai (f 6), ar bar2]), (pls2, cq 3 6 (aupq pv3 i none)), (ins2, cq 2 5 iv2), (tap2, cn 0 100 u0), (d3, cn 0 8 u1), (d4, cn 0 8 u2), (d5, cn 0 8 u3), (d6, cn 0 8 u4), (d7, cn 0 8 u5), (d8, cn 0 8 u6)] ++ zpS ta f p2 t2 (mnI (i + 1) (f 0)))) (by rw [mnI_ge (show f 0 ≤ i by omega), mnI_ge (show f 0 ≤ i + 1 by omega)]) ?_
          exact ih _ (by omega) (i + 1) (aupq pv3 i none) p2 t2 rfl (by omega) (by intro j j0 j1; by_cases q : j = i; (subst q; rw [aupq_s, if_neg hif]); (rw [aupq_n _ _ q]; exact hpv3 j j0 (by omega)))
  refine v_ws (ws2 := ([(h, co 10 [ar pls2, ar ins2, ar tap2, ar d3, ar d4, ar d5, ar d6, ar d7, ar d8, ai (f 0), ai (f 1), ai (f 4), ai (f 2), ai (f 3), ai (f 6), ar bar2]), (pls2, cq 3 6 pv2), (ins2, cq 2 5 iv2), (tap2, cn 0 100 u0), (d3, cn 0 8 u1), (d4, cn 0 8 u2), (d5, cn 0 8 u3), (d6, cn 0 8 u4), (d7, cn 0 8 u5), (d8, cn 0 8 u6)] ++ zpS ta f pl tu (mnI 0 (f 0)))) (by rw [show mnI 0 (f 0) = 0 by unfold mnI; split <;> omega]; rfl) ?_
  refine v_sub (L2 := [(0, ar h), (1, ar nw), (2, ai 0)]) [1, 2, 0] rfl ?_
  refine v_widen (k2 := (2 * (0 : Int).toNat)) (n2 := (14 * (0 : Int).toNat)) (by omega) (by omega) ?_
  exact lp50 _ 0 pv2 pl tu rfl (by omega) (by intro j j0 j1; exfalso; omega)
