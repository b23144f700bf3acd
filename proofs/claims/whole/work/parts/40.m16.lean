set_option maxHeartbeats 4000000 in
set_option maxRecDepth 100000 in
theorem c_X12_inn {gS : sG} (ad : Nat → Nat) (v : Nat → Int) (h : Nat) (f : Int → Int) (hS : SOK f) : Ct gS (S := (Nat → Int) × (Int → Int)) yX12_inn cX12_inn 2 (some .int) 25 534 0 0 [ar h] [(h, co 12 (mO ad v)), ((ad 1), cn 0 936 f)] (fun q => q ∈ ([] : aW)) (fun u => (qInn f).2 = u.2 ∧ vK v u.1) (fun u => some (ai ((qInn f).1))) (fun u => [(h, co 12 (mO ad u.1)), ((ad 1), cn 0 936 u.2)]) := by
  refine ct_I RX12 [(0, ar h)] (by decide) rfl (Nat.le_of_ble_eq_true rfl) rfl (fun x hgS hro hret => ?_)
  subst hgS
  obtain ⟨hg, hSp, hSh, hSs, hSb, hSt, hwf⟩ := id hS
  obtain ⟨hg0, hg1, hg2, hg3, hg4, hg5, hg6, hg7⟩ := id hg
  obtain ⟨e, hee⟩ : ∃ e, f 4 = e := ⟨_, rfl⟩
  obtain ⟨a, haa⟩ : ∃ a, f 1 = a := ⟨_, rfl⟩
  obtain ⟨f0, hf0⟩ : ∃ g, g = aup (aup (aup f 4 0) (221 + a) 6) (226 + a) 1 := ⟨_, rfl⟩
  show V x cX12_inn RX12 2 (rmU 25 534 0 0) [(h, co 12 (mO ad v)), ((ad 1), cn 0 936 f)] 0 [(0, ar h)] [] 0 0
  refine v_aload_n (pc := 0) 0 rfl dX12_inn_0 ?_
  refine v_get (pc := 1) (v := ar (ad 1)) 1 (Or.inr ⟨0, rfl⟩) fl_12_9_12 rfl dX12_inn_1 ?_
  refine v_iconst (pc := 4) dX12_inn_4 ?_
  refine v_iald (pc := 5) (Or.inr ⟨1, rfl⟩) (by omega) (by omega) (by decide) dX12_inn_5 ?_
  refine v_iconst (pc := 6) dX12_inn_6 ?_
  refine v_icmp_ne (pc := 7) 13 dX12_inn_7 (by decide) (by unfold iB; omega) (by unfold iB; omega) (fun c_1 => ?_) (fun c_1 => ?_)
  · skip
    have q9 : ((([] : List Int).length : Nat) : Int) = 0 := rfl
    have haB : 0 ≤ a ∧ a ≤ 4 := by omega
    have htp0 : tp f0 = tp f := by rw [hf0, tp_aup (Or.inr (by omega)), tp_aup (Or.inr (by omega)), tp_aup (Or.inl (by decide))]
    have hT : ∀ j : Int, 0 ≤ j → j < e → 0 ≤ f0 (121 + j) ∧ f0 (121 + j) ≤ 127 := fun j j0 j1 => by rw [hf0, aup_n _ _ (by omega), aup_n _ _ (by omega), aup_n _ _ (by omega)]; exact hSt j j0 (by omega)
    have hf01 : f0 (221 + a) = 6 := by rw [hf0, aup_n _ _ (by omega), aup_s]
    have hf02 : f0 (226 + a) = 1 := by rw [hf0, aup_s]
    have hcl0 : clN (tp f) e 9 (cls (tp f) e ((0, 0, []), 6, 1)) = clF f := by unfold clF; rw [hee]
    refine v_aload_n (pc := 13) 0 rfl dX12_inn_13 ?_
    refine v_aload_n (pc := 14) 0 rfl dX12_inn_14 ?_
    refine v_get (pc := 15) (v := ar (ad 1)) 1 (Or.inr ⟨0, rfl⟩) fl_12_9_12 rfl dX12_inn_15 ?_
    refine v_iconst (pc := 18) dX12_inn_18 ?_
    refine v_iald (pc := 19) (Or.inr ⟨1, rfl⟩) (by omega) (by omega) (by decide) dX12_inn_19 ?_
    refine v_eqi (y := a) (by exact haa) ?_
    refine v_put (pc := 20) 4 0 rfl fl_12_72_12 ck_12 ft_12_4 (okV_i _) (Nat.le_of_ble_eq_true rfl) (ws2 := [(h, co 12 (mO ad (nup v 4 a))), ((ad 1), cn 0 936 f)]) rfl dX12_inn_20 ?_
    refine v_aload_n (pc := 23) 0 rfl dX12_inn_23 ?_
    refine v_aload_n (pc := 24) 0 rfl dX12_inn_24 ?_
    refine v_get (pc := 25) (v := ar (ad 1)) 1 (Or.inr ⟨0, rfl⟩) fl_12_9_12 rfl dX12_inn_25 ?_
    refine v_iconst (pc := 28) dX12_inn_28 ?_
    refine v_iald (pc := 29) (Or.inr ⟨1, rfl⟩) (by omega) (by omega) (by decide) dX12_inn_29 ?_
    refine v_eqi (y := e) (by exact hee) ?_
    refine v_put (pc := 30) 6 0 rfl fl_12_48_12 ck_12 ft_12_6 (okV_i _) (Nat.le_of_ble_eq_true rfl) (ws2 := [(h, co 12 (mO ad (nup (nup v 4 a) 6 e))), ((ad 1), cn 0 936 f)]) rfl dX12_inn_30 ?_
    refine v_aload_n (pc := 33) 0 rfl dX12_inn_33 ?_
    refine v_get (pc := 34) (v := ar (ad 1)) 1 (Or.inr ⟨0, rfl⟩) fl_12_9_12 rfl dX12_inn_34 ?_
    refine v_iconst (pc := 37) dX12_inn_37 ?_
    refine v_iconst (pc := 38) dX12_inn_38 ?_
    refine v_iast (pc := 39) 1 rfl (by omega) (by omega) (by decide) (ws2 := [(h, co 12 (mO ad (nup (nup v 4 a) 6 e))), ((ad 1), cn 0 936 (aup f 4 0))]) rfl dX12_inn_39 ?_
    refine v_aload_n (pc := 40) 0 rfl dX12_inn_40 ?_
    refine v_get (pc := 41) (v := ar (ad 1)) 1 (Or.inr ⟨0, rfl⟩) fl_12_9_12 rfl dX12_inn_41 ?_
    refine v_sipush (pc := 44) dX12_inn_44 (by decide) ?_
    refine v_aload_n (pc := 47) 0 rfl dX12_inn_47 ?_
    refine v_get (pc := 48) (v := ai a) 4 (Or.inr ⟨0, rfl⟩) fl_12_72_12 rfl dX12_inn_48 ?_
    refine v_iadd (pc := 51) dX12_inn_51 ?_
    refine v_bipush (pc := 52) dX12_inn_52 (by decide) ?_
    refine v_iast (pc := 54) 1 rfl (by omega) (by omega) (by decide) (ws2 := [(h, co 12 (mO ad (nup (nup v 4 a) 6 e))), ((ad 1), cn 0 936 (aup (aup f 4 0) (221 + a) 6))]) rfl dX12_inn_54 ?_
    refine v_aload_n (pc := 55) 0 rfl dX12_inn_55 ?_
    refine v_get (pc := 56) (v := ar (ad 1)) 1 (Or.inr ⟨0, rfl⟩) fl_12_9_12 rfl dX12_inn_56 ?_
    refine v_sipush (pc := 59) dX12_inn_59 (by decide) ?_
    refine v_aload_n (pc := 62) 0 rfl dX12_inn_62 ?_
    refine v_get (pc := 63) (v := ai a) 4 (Or.inr ⟨0, rfl⟩) fl_12_72_12 rfl dX12_inn_63 ?_
    refine v_iadd (pc := 66) dX12_inn_66 ?_
    refine v_iconst (pc := 67) dX12_inn_67 ?_
    refine v_iast (pc := 68) 1 rfl (by omega) (by omega) (by decide) (ws2 := [(h, co 12 (mO ad (nup (nup v 4 a) 6 e))), ((ad 1), cn 0 936 (aup (aup (aup f 4 0) (221 + a) 6) (226 + a) 1))]) rfl dX12_inn_68 ?_
    refine v_aload_n (pc := 69) 0 rfl dX12_inn_69 ?_
    refine v_get (pc := 70) (v := ar (ad 1)) 1 (Or.inr ⟨0, rfl⟩) fl_12_9_12 rfl dX12_inn_70 ?_
    refine v_sipush (pc := 73) dX12_inn_73 (by decide) ?_
    refine v_aload_n (pc := 76) 0 rfl dX12_inn_76 ?_
    refine v_get (pc := 77) (v := ai a) 4 (Or.inr ⟨0, rfl⟩) fl_12_72_12 rfl dX12_inn_77 ?_
    refine v_iadd (pc := 80) dX12_inn_80 ?_
    refine v_iconst (pc := 81) dX12_inn_81 ?_
    refine v_iast (pc := 82) 1 rfl (by omega) (by omega) (by decide) (ws2 := [(h, co 12 (mO ad (nup (nup v 4 a) 6 e))), ((ad 1), cn 0 936 (aup (aup (aup (aup f 4 0) (221 + a) 6) (226 + a) 1) (231 + a) 0))]) rfl dX12_inn_82 ?_
    refine v_ws (ws2 := [(h, co 12 (mO ad (nup (nup v 4 a) 6 e))), ((ad 1), cn 0 936 (wrS f0 a ([] : List Int)))]) (by rw [hf0, ← wrS_nil]) ?_
    refine v_aload_n (pc := 83) 0 rfl dX12_inn_83 ?_
    refine v_iconst (pc := 84) dX12_inn_84 ?_
    refine v_put (pc := 85) 5 0 rfl fl_12_45_12 ck_12 ft_12_5 (okV_i _) (Nat.le_of_ble_eq_true rfl) (ws2 := [(h, co 12 (mO ad (nup (nup (nup v 4 a) 6 e) 5 0))), ((ad 1), cn 0 936 (wrS f0 a ([] : List Int)))]) rfl dX12_inn_85 ?_
    refine v_aload_n (pc := 88) 0 rfl dX12_inn_88 ?_
    refine v_iconst (pc := 89) dX12_inn_89 ?_
    refine v_put (pc := 90) 7 0 rfl fl_12_51_12 ck_12 ft_12_7 okV_z0 (Nat.le_of_ble_eq_true rfl) (ws2 := [(h, co 12 (mO ad (nup (nup (nup (nup v 4 a) 6 e) 5 0) 7 0))), ((ad 1), cn 0 936 (wrS f0 a ([] : List Int)))]) rfl dX12_inn_90 ?_
    refine v_aload_n (pc := 93) 0 rfl dX12_inn_93 ?_
    refine v_iconst (pc := 94) dX12_inn_94 ?_
    refine v_put (pc := 95) 8 0 rfl fl_12_75_12 ck_12 ft_12_8 (okV_i _) (Nat.le_of_ble_eq_true rfl) (ws2 := [(h, co 12 (mO ad (nup (nup (nup (nup (nup v 4 a) 6 e) 5 0) 7 0) 8 0))), ((ad 1), cn 0 936 (wrS f0 a ([] : List Int)))]) rfl dX12_inn_95 ?_
    refine v_iconst (pc := 98) dX12_inn_98 ?_
    refine v_istore_n (pc := 99) (L2 := [(1, ai 1), (0, ar h)]) rfl (by decide) dX12_inn_99 ?_
    refine v_aload_n (pc := 100) 1 rfl dX12_inn_100 ?_
    refine v_callV (pc := 101) [0, 1] [] [] (As := []) (rest := []) (c_X12_clauseHere ad (nup (nup (nup (nup (nup v 4 a) 6 e) 5 0) 7 0) 8 0) h f0 a e ([] : List Int) (by first | omega | assumption) (by first | omega | assumption) (by exact hT) (by show a = a; omega) (by show e = e; omega) (by exact ⟨by show 0 ≤ 0; omega, by show 0 ≤ e; omega, by show 0 = 0 ∨ 0 = 1; omega⟩) (by show ((([] : List Int).length : Nat) : Int) ≤ 0; omega) (by show 0 = _; omega)) (c := 12) rfl (Or.inr ⟨0, rfl⟩) wl_X12_120 wi_X12_clauseHere wv_X12_X12_clauseHere_X12_clauseHere wk_X12_clauseHere wz_X12 md_X12_clauseHere rfl (Nat.le_of_ble_eq_true rfl) ⟨Nat.le_of_ble_eq_true rfl, Nat.le_of_ble_eq_true rfl, Nat.le_of_ble_eq_true rfl, Nat.le_of_ble_eq_true rfl⟩ rfl rfl rfl rfl (by decide) ro_nil dX12_inn_101 (fun u hu => ?_)
    obtain ⟨v2_2, l2_3, f2_4⟩ := u
    have g_5 : cls (tp f0) e (ps (nup (nup (nup (nup (nup v 4 a) 6 e) 5 0) 7 0) 8 0) ([] : List Int), f0 (221 + a), f0 (226 + a)) = (ps v2_2 l2_3, f2_4 (221 + a), f2_4 (226 + a)) ∧ kp (nup (nup (nup (nup (nup v 4 a) 6 e) 5 0) 7 0) 8 0) v2_2 ∧ tp f2_4 = tp f0 ∧ ∀ j : Int, j ≠ 221 + a → j ≠ 226 + a → f2_4 j = f0 j := hu
    show V x cX12_inn RX12 2 (rmU 25 534 0 0) [(h, co 12 (mO ad v2_2)), ((ad 1), cn 0 936 (wrS f2_4 a l2_3))] 104 [(1, ai 1), (0, ar h)] [] 0 0
    have hq := cls_k (t := tp f0) (e := e) (ps (nup (nup (nup (nup (nup v 4 a) 6 e) 5 0) 7 0) 8 0) ([] : List Int), f0 (221 + a), f0 (226 + a)) ⟨by show 0 ≤ 0; omega, by show 0 ≤ e; omega, by show 0 = 0 ∨ 0 = 1; omega⟩
    rw [g_5.1] at hq
    have hq2 : (0 ≤ v2_2 5 ∧ v2_2 5 ≤ e ∧ (v2_2 7 = 0 ∨ v2_2 7 = 1)) ∧ 0 ≤ v2_2 5 ∧ 0 - ((([] : List Int).length : Nat) : Int) ≤ v2_2 5 - ((l2_3.length : Nat) : Int) := hq
    have lp104 : ∀ (mm : Nat) (n : Int) (v1 : Nat → Int) (l1 : List Int) (f1 : Int → Int), (10 - n).toNat = mm → (1 ≤ n ∧ n ≤ 10) → (clN (tp f) e (10 - n).toNat (ps v1 l1, f1 (221 + a), f1 (226 + a)) = clF f) → (v1 4 = a) → (v1 6 = e) → (v1 8 = 0) → (vK v v1) → (tp f1 = tp f) → (∀ j : Int, j ≠ 221 + a → j ≠ 226 + a → f1 j = aup f 4 0 j) → (0 ≤ v1 5 ∧ v1 5 ≤ e ∧ (v1 7 = 0 ∨ v1 7 = 1) ∧ (l1.length : Int) ≤ v1 5) → (∀ j : Int, 0 ≤ j → j < e → 0 ≤ f1 (121 + j) ∧ f1 (121 + j) ≤ 127) → V x cX12_inn RX12 2 (rmU 25 534 0 0) [(h, co 12 (mO ad v1)), ((ad 1), cn 0 936 (wrS f1 a l1))] 104 [(0, ar h), (1, ai n)] [] 0 0 := by
      intro mm
      induction mm using Nat.strongRecOn with
      | _ mm ih =>
        intro n v1 l1 f1 hmm hn hcl h4 h6 h8 hvk htp hfj hb1 hT
        refine v_aload_n (pc := 104) 0 rfl dX12_inn_104 ?_
        refine v_get (pc := 105) (v := ai (v1 7)) 7 (Or.inr ⟨0, rfl⟩) fl_12_51_12 rfl dX12_inn_105 ?_
        refine v_if_ne (pc := 108) 146 dX12_inn_108 (by decide) (by unfold iB; omega) (fun c_6 => ?_) (fun c_6 => ?_)
        · skip
          refine v_aload_n (pc := 146) 0 rfl dX12_inn_146 ?_
          refine v_get (pc := 147) (v := ai (v1 7)) 7 (Or.inr ⟨0, rfl⟩) fl_12_51_12 rfl dX12_inn_147 ?_
          refine v_if_ne (pc := 150) 164 dX12_inn_150 (by decide) (by unfold iB; omega) (fun c_7 => ?_) (fun c_7 => ?_)
          · skip
            refine v_bipush (pc := 164) dX12_inn_164 (by decide) ?_
            refine v_aload_n (pc := 166) 0 rfl dX12_inn_166 ?_
            refine v_get (pc := 167) (v := ai (v1 5)) 5 (Or.inr ⟨0, rfl⟩) fl_12_45_12 rfl dX12_inn_167 ?_
            refine v_isub (pc := 170) dX12_inn_170 ?_
            have hcl2 : (ps v1 l1, f1 (221 + a), f1 (226 + a)) = clF f := by first | (rw [clN_st (by show ¬ (v1 7 = 0 ∧ hrp (tp f) e (v1 5) = 59); rw [← htp]; omega)] at hcl; exact hcl) | (rw [show (10 - n).toNat = 0 by omega] at hcl; exact hcl)
            have hqi := qInn_2 haa hee hcl2 hfj (by omega) (by omega)
            exact hret (v1, (wrS f1 a l1)) _ _ _ _ _ _ (by rw [hqi]; exact ⟨rfl, hvk⟩) (congrArg (fun z => some (ai z)) (by rw [hqi])) rfl (Nat.le_of_ble_eq_true rfl) (Nat.le_of_ble_eq_true rfl) dX12_inn_171
          · skip
            refine v_aload_n (pc := 153) 0 rfl dX12_inn_153 ?_
            refine v_get (pc := 154) (v := ai (v1 5)) 5 (Or.inr ⟨0, rfl⟩) fl_12_45_12 rfl dX12_inn_154 ?_
            refine v_aload_n (pc := 157) 0 rfl dX12_inn_157 ?_
            refine v_get (pc := 158) (v := ai (v1 6)) 6 (Or.inr ⟨0, rfl⟩) fl_12_48_12 rfl dX12_inn_158 ?_
            refine v_icmp_eq (pc := 161) 172 dX12_inn_161 (by decide) (by unfold iB; omega) (by unfold iB; omega) (fun c_8 => ?_) (fun c_8 => ?_)
            · skip
              refine v_aload_n (pc := 172) 0 rfl dX12_inn_172 ?_
              refine v_get (pc := 173) (v := ar (ad 1)) 1 (Or.inr ⟨0, rfl⟩) fl_12_9_12 rfl dX12_inn_173 ?_
              refine v_iconst (pc := 176) dX12_inn_176 ?_
              refine v_dup2 (pc := 177) rfl rfl dX12_inn_177 ?_
              refine v_iald (pc := 178) (Or.inr ⟨1, rfl⟩) (by omega) (by omega) (by decide) dX12_inn_178 ?_
              refine v_iconst (pc := 179) dX12_inn_179 ?_
              refine v_iadd (pc := 180) dX12_inn_180 ?_
              refine v_iast (pc := 181) 1 rfl (by omega) (by omega) (by decide) (ws2 := [(h, co 12 (mO ad v1)), ((ad 1), cn 0 936 (aup (wrS f1 a l1) 1 (((wrS f1 a l1) 1) + 1)))]) rfl dX12_inn_181 ?_
              refine v_aload_n (pc := 182) 0 rfl dX12_inn_182 ?_
              refine v_get (pc := 183) (v := ar (ad 1)) 1 (Or.inr ⟨0, rfl⟩) fl_12_9_12 rfl dX12_inn_183 ?_
              refine v_iconst (pc := 186) dX12_inn_186 ?_
              refine v_aload_n (pc := 187) 0 rfl dX12_inn_187 ?_
              refine v_get (pc := 188) (v := ai (v1 4)) 4 (Or.inr ⟨0, rfl⟩) fl_12_72_12 rfl dX12_inn_188 ?_
              refine v_iast (pc := 191) 1 rfl (by omega) (by omega) (by decide) (ws2 := [(h, co 12 (mO ad v1)), ((ad 1), cn 0 936 (aup (aup (wrS f1 a l1) 1 (((wrS f1 a l1) 1) + 1)) 5 (v1 4)))]) rfl dX12_inn_191 ?_
              refine v_ws (ws2 := [(h, co 12 (mO ad v1)), ((ad 1), cn 0 936 (aup (aup (wrS f1 a l1) 1 (a + 1)) 5 a))]) (by rw [wrS_lo haB.1 (by omega), hfj 1 (by omega) (by omega), aup_n _ _ (by omega), haa, h4]) ?_
              refine v_aload_n (pc := 192) 0 rfl dX12_inn_192 ?_
              refine v_get (pc := 193) (v := ai (v1 4)) 4 (Or.inr ⟨0, rfl⟩) fl_12_72_12 rfl dX12_inn_193 ?_
              have hcl2 : (ps v1 l1, f1 (221 + a), f1 (226 + a)) = clF f := by first | (rw [clN_st (by show ¬ (v1 7 = 0 ∧ hrp (tp f) e (v1 5) = 59); rw [← htp]; omega)] at hcl; exact hcl) | (rw [show (10 - n).toNat = 0 by omega] at hcl; exact hcl)
              have hqi := qInn_1 haa hee hcl2 hfj (by omega) (by omega) (by omega)
              exact hret (v1, aup (aup (wrS f1 a l1) 1 (a + 1)) 5 a) _ _ _ _ _ _ (by rw [hqi]; exact ⟨rfl, hvk⟩) (congrArg (fun z => some (ai z)) (by rw [hqi]; omega)) rfl (Nat.le_of_ble_eq_true rfl) (Nat.le_of_ble_eq_true rfl) dX12_inn_196
            · skip
              refine v_bipush (pc := 164) dX12_inn_164 (by decide) ?_
              refine v_aload_n (pc := 166) 0 rfl dX12_inn_166 ?_
              refine v_get (pc := 167) (v := ai (v1 5)) 5 (Or.inr ⟨0, rfl⟩) fl_12_45_12 rfl dX12_inn_167 ?_
              refine v_isub (pc := 170) dX12_inn_170 ?_
              have hcl2 : (ps v1 l1, f1 (221 + a), f1 (226 + a)) = clF f := by first | (rw [clN_st (by show ¬ (v1 7 = 0 ∧ hrp (tp f) e (v1 5) = 59); rw [← htp]; omega)] at hcl; exact hcl) | (rw [show (10 - n).toNat = 0 by omega] at hcl; exact hcl)
              have hqi := qInn_2 haa hee hcl2 hfj (by omega) (by omega)
              exact hret (v1, (wrS f1 a l1)) _ _ _ _ _ _ (by rw [hqi]; exact ⟨rfl, hvk⟩) (congrArg (fun z => some (ai z)) (by rw [hqi])) rfl (Nat.le_of_ble_eq_true rfl) (Nat.le_of_ble_eq_true rfl) dX12_inn_171
        · skip
          refine v_iload_n (pc := 111) 1 rfl dX12_inn_111 ?_
          refine v_bipush (pc := 112) dX12_inn_112 (by decide) ?_
          refine v_icmp_ge (pc := 114) 146 dX12_inn_114 (by decide) (by unfold iB; omega) (by unfold iB; omega) (fun c_9 => ?_) (fun c_9 => ?_)
          · skip
            refine v_aload_n (pc := 146) 0 rfl dX12_inn_146 ?_
            refine v_get (pc := 147) (v := ai (v1 7)) 7 (Or.inr ⟨0, rfl⟩) fl_12_51_12 rfl dX12_inn_147 ?_
            refine v_if_ne (pc := 150) 164 dX12_inn_150 (by decide) (by unfold iB; omega) (fun c_10 => ?_) (fun c_10 => ?_)
            · skip
              refine v_bipush (pc := 164) dX12_inn_164 (by decide) ?_
              refine v_aload_n (pc := 166) 0 rfl dX12_inn_166 ?_
              refine v_get (pc := 167) (v := ai (v1 5)) 5 (Or.inr ⟨0, rfl⟩) fl_12_45_12 rfl dX12_inn_167 ?_
              refine v_isub (pc := 170) dX12_inn_170 ?_
              have hcl2 : (ps v1 l1, f1 (221 + a), f1 (226 + a)) = clF f := by first | (rw [clN_st (by show ¬ (v1 7 = 0 ∧ hrp (tp f) e (v1 5) = 59); rw [← htp]; omega)] at hcl; exact hcl) | (rw [show (10 - n).toNat = 0 by omega] at hcl; exact hcl)
              have hqi := qInn_2 haa hee hcl2 hfj (by omega) (by omega)
              exact hret (v1, (wrS f1 a l1)) _ _ _ _ _ _ (by rw [hqi]; exact ⟨rfl, hvk⟩) (congrArg (fun z => some (ai z)) (by rw [hqi])) rfl (Nat.le_of_ble_eq_true rfl) (Nat.le_of_ble_eq_true rfl) dX12_inn_171
            · skip
              refine v_aload_n (pc := 153) 0 rfl dX12_inn_153 ?_
              refine v_get (pc := 154) (v := ai (v1 5)) 5 (Or.inr ⟨0, rfl⟩) fl_12_45_12 rfl dX12_inn_154 ?_
              refine v_aload_n (pc := 157) 0 rfl dX12_inn_157 ?_
              refine v_get (pc := 158) (v := ai (v1 6)) 6 (Or.inr ⟨0, rfl⟩) fl_12_48_12 rfl dX12_inn_158 ?_
              refine v_icmp_eq (pc := 161) 172 dX12_inn_161 (by decide) (by unfold iB; omega) (by unfold iB; omega) (fun c_11 => ?_) (fun c_11 => ?_)
              · skip
                refine v_aload_n (pc := 172) 0 rfl dX12_inn_172 ?_
                refine v_get (pc := 173) (v := ar (ad 1)) 1 (Or.inr ⟨0, rfl⟩) fl_12_9_12 rfl dX12_inn_173 ?_
                refine v_iconst (pc := 176) dX12_inn_176 ?_
                refine v_dup2 (pc := 177) rfl rfl dX12_inn_177 ?_
                refine v_iald (pc := 178) (Or.inr ⟨1, rfl⟩) (by omega) (by omega) (by decide) dX12_inn_178 ?_
                refine v_iconst (pc := 179) dX12_inn_179 ?_
                refine v_iadd (pc := 180) dX12_inn_180 ?_
                refine v_iast (pc := 181) 1 rfl (by omega) (by omega) (by decide) (ws2 := [(h, co 12 (mO ad v1)), ((ad 1), cn 0 936 (aup (wrS f1 a l1) 1 (((wrS f1 a l1) 1) + 1)))]) rfl dX12_inn_181 ?_
                refine v_aload_n (pc := 182) 0 rfl dX12_inn_182 ?_
                refine v_get (pc := 183) (v := ar (ad 1)) 1 (Or.inr ⟨0, rfl⟩) fl_12_9_12 rfl dX12_inn_183 ?_
                refine v_iconst (pc := 186) dX12_inn_186 ?_
                refine v_aload_n (pc := 187) 0 rfl dX12_inn_187 ?_
                refine v_get (pc := 188) (v := ai (v1 4)) 4 (Or.inr ⟨0, rfl⟩) fl_12_72_12 rfl dX12_inn_188 ?_
                refine v_iast (pc := 191) 1 rfl (by omega) (by omega) (by decide) (ws2 := [(h, co 12 (mO ad v1)), ((ad 1), cn 0 936 (aup (aup (wrS f1 a l1) 1 (((wrS f1 a l1) 1) + 1)) 5 (v1 4)))]) rfl dX12_inn_191 ?_
                refine v_ws (ws2 := [(h, co 12 (mO ad v1)), ((ad 1), cn 0 936 (aup (aup (wrS f1 a l1) 1 (a + 1)) 5 a))]) (by rw [wrS_lo haB.1 (by omega), hfj 1 (by omega) (by omega), aup_n _ _ (by omega), haa, h4]) ?_
                refine v_aload_n (pc := 192) 0 rfl dX12_inn_192 ?_
                refine v_get (pc := 193) (v := ai (v1 4)) 4 (Or.inr ⟨0, rfl⟩) fl_12_72_12 rfl dX12_inn_193 ?_
                have hcl2 : (ps v1 l1, f1 (221 + a), f1 (226 + a)) = clF f := by first | (rw [clN_st (by show ¬ (v1 7 = 0 ∧ hrp (tp f) e (v1 5) = 59); rw [← htp]; omega)] at hcl; exact hcl) | (rw [show (10 - n).toNat = 0 by omega] at hcl; exact hcl)
                have hqi := qInn_1 haa hee hcl2 hfj (by omega) (by omega) (by omega)
                exact hret (v1, aup (aup (wrS f1 a l1) 1 (a + 1)) 5 a) _ _ _ _ _ _ (by rw [hqi]; exact ⟨rfl, hvk⟩) (congrArg (fun z => some (ai z)) (by rw [hqi]; omega)) rfl (Nat.le_of_ble_eq_true rfl) (Nat.le_of_ble_eq_true rfl) dX12_inn_196
              · skip
                refine v_bipush (pc := 164) dX12_inn_164 (by decide) ?_
                refine v_aload_n (pc := 166) 0 rfl dX12_inn_166 ?_
                refine v_get (pc := 167) (v := ai (v1 5)) 5 (Or.inr ⟨0, rfl⟩) fl_12_45_12 rfl dX12_inn_167 ?_
                refine v_isub (pc := 170) dX12_inn_170 ?_
                have hcl2 : (ps v1 l1, f1 (221 + a), f1 (226 + a)) = clF f := by first | (rw [clN_st (by show ¬ (v1 7 = 0 ∧ hrp (tp f) e (v1 5) = 59); rw [← htp]; omega)] at hcl; exact hcl) | (rw [show (10 - n).toNat = 0 by omega] at hcl; exact hcl)
                have hqi := qInn_2 haa hee hcl2 hfj (by omega) (by omega)
                exact hret (v1, (wrS f1 a l1)) _ _ _ _ _ _ (by rw [hqi]; exact ⟨rfl, hvk⟩) (congrArg (fun z => some (ai z)) (by rw [hqi])) rfl (Nat.le_of_ble_eq_true rfl) (Nat.le_of_ble_eq_true rfl) dX12_inn_171
          · skip
            refine v_aload_n (pc := 117) 0 rfl dX12_inn_117 ?_
            refine v_callV (pc := 118) [] [0, 1] [(h, co 12 (mO ad v1)), ((ad 1), cn 0 936 (wrS f1 a l1))] (As := []) (rest := []) (c_X12_here ad v1 h f1 a e l1 (v1 5) (by first | omega | assumption) (by first | omega | assumption) (by show (v1 6) = e; omega) (by rfl) (by first | omega | assumption)) (c := 12) rfl (Or.inr ⟨0, rfl⟩) wl_X12_55 wi_X12_here wv_X12_X12_here_X12_here wk_X12_here wz_X12 md_X12_here rfl (Nat.le_of_ble_eq_true rfl) ⟨Nat.le_of_ble_eq_true rfl, Nat.le_of_ble_eq_true rfl, Nat.le_of_ble_eq_true rfl, Nat.le_of_ble_eq_true rfl⟩ rfl rfl rfl rfl (by decide) (ro_cons (Or.inr ⟨0, rfl, by decide⟩) (ro_cons (Or.inr ⟨1, rfl, by decide⟩) ro_nil)) dX12_inn_118 (fun u hu => ?_)
            show V x cX12_inn RX12 2 (rmU 25 534 0 0) [(h, co 12 (mO ad v1)), ((ad 1), cn 0 936 (wrS f1 a l1))] 121 [(0, ar h), (1, ai n)] [ai (hrp (tp f1) e (v1 5))] 0 0
            have hb_12 := hrp_b (p := (v1 5)) hT (by omega)
            refine v_bipush (pc := 121) dX12_inn_121 (by decide) ?_
            refine v_icmp_ne (pc := 123) 146 dX12_inn_123 (by decide) (by unfold iB; omega) (by unfold iB; omega) (fun c_13 => ?_) (fun c_13 => ?_)
            · skip
              refine v_aload_n (pc := 146) 0 rfl dX12_inn_146 ?_
              refine v_get (pc := 147) (v := ai (v1 7)) 7 (Or.inr ⟨0, rfl⟩) fl_12_51_12 rfl dX12_inn_147 ?_
              refine v_if_ne (pc := 150) 164 dX12_inn_150 (by decide) (by unfold iB; omega) (fun c_14 => ?_) (fun c_14 => ?_)
              · skip
                refine v_bipush (pc := 164) dX12_inn_164 (by decide) ?_
                refine v_aload_n (pc := 166) 0 rfl dX12_inn_166 ?_
                refine v_get (pc := 167) (v := ai (v1 5)) 5 (Or.inr ⟨0, rfl⟩) fl_12_45_12 rfl dX12_inn_167 ?_
                refine v_isub (pc := 170) dX12_inn_170 ?_
                have hcl2 : (ps v1 l1, f1 (221 + a), f1 (226 + a)) = clF f := by first | (rw [clN_st (by show ¬ (v1 7 = 0 ∧ hrp (tp f) e (v1 5) = 59); rw [← htp]; omega)] at hcl; exact hcl) | (rw [show (10 - n).toNat = 0 by omega] at hcl; exact hcl)
                have hqi := qInn_2 haa hee hcl2 hfj (by omega) (by omega)
                exact hret (v1, (wrS f1 a l1)) _ _ _ _ _ _ (by rw [hqi]; exact ⟨rfl, hvk⟩) (congrArg (fun z => some (ai z)) (by rw [hqi])) rfl (Nat.le_of_ble_eq_true rfl) (Nat.le_of_ble_eq_true rfl) dX12_inn_171
              · skip
                refine v_aload_n (pc := 153) 0 rfl dX12_inn_153 ?_
                refine v_get (pc := 154) (v := ai (v1 5)) 5 (Or.inr ⟨0, rfl⟩) fl_12_45_12 rfl dX12_inn_154 ?_
                refine v_aload_n (pc := 157) 0 rfl dX12_inn_157 ?_
                refine v_get (pc := 158) (v := ai (v1 6)) 6 (Or.inr ⟨0, rfl⟩) fl_12_48_12 rfl dX12_inn_158 ?_
                refine v_icmp_eq (pc := 161) 172 dX12_inn_161 (by decide) (by unfold iB; omega) (by unfold iB; omega) (fun c_15 => ?_) (fun c_15 => ?_)
                · skip
                  refine v_aload_n (pc := 172) 0 rfl dX12_inn_172 ?_
                  refine v_get (pc := 173) (v := ar (ad 1)) 1 (Or.inr ⟨0, rfl⟩) fl_12_9_12 rfl dX12_inn_173 ?_
                  refine v_iconst (pc := 176) dX12_inn_176 ?_
                  refine v_dup2 (pc := 177) rfl rfl dX12_inn_177 ?_
                  refine v_iald (pc := 178) (Or.inr ⟨1, rfl⟩) (by omega) (by omega) (by decide) dX12_inn_178 ?_
                  refine v_iconst (pc := 179) dX12_inn_179 ?_
                  refine v_iadd (pc := 180) dX12_inn_180 ?_
                  refine v_iast (pc := 181) 1 rfl (by omega) (by omega) (by decide) (ws2 := [(h, co 12 (mO ad v1)), ((ad 1), cn 0 936 (aup (wrS f1 a l1) 1 (((wrS f1 a l1) 1) + 1)))]) rfl dX12_inn_181 ?_
                  refine v_aload_n (pc := 182) 0 rfl dX12_inn_182 ?_
                  refine v_get (pc := 183) (v := ar (ad 1)) 1 (Or.inr ⟨0, rfl⟩) fl_12_9_12 rfl dX12_inn_183 ?_
                  refine v_iconst (pc := 186) dX12_inn_186 ?_
                  refine v_aload_n (pc := 187) 0 rfl dX12_inn_187 ?_
                  refine v_get (pc := 188) (v := ai (v1 4)) 4 (Or.inr ⟨0, rfl⟩) fl_12_72_12 rfl dX12_inn_188 ?_
                  refine v_iast (pc := 191) 1 rfl (by omega) (by omega) (by decide) (ws2 := [(h, co 12 (mO ad v1)), ((ad 1), cn 0 936 (aup (aup (wrS f1 a l1) 1 (((wrS f1 a l1) 1) + 1)) 5 (v1 4)))]) rfl dX12_inn_191 ?_
                  refine v_ws (ws2 := [(h, co 12 (mO ad v1)), ((ad 1), cn 0 936 (aup (aup (wrS f1 a l1) 1 (a + 1)) 5 a))]) (by rw [wrS_lo haB.1 (by omega), hfj 1 (by omega) (by omega), aup_n _ _ (by omega), haa, h4]) ?_
                  refine v_aload_n (pc := 192) 0 rfl dX12_inn_192 ?_
                  refine v_get (pc := 193) (v := ai (v1 4)) 4 (Or.inr ⟨0, rfl⟩) fl_12_72_12 rfl dX12_inn_193 ?_
                  have hcl2 : (ps v1 l1, f1 (221 + a), f1 (226 + a)) = clF f := by first | (rw [clN_st (by show ¬ (v1 7 = 0 ∧ hrp (tp f) e (v1 5) = 59); rw [← htp]; omega)] at hcl; exact hcl) | (rw [show (10 - n).toNat = 0 by omega] at hcl; exact hcl)
                  have hqi := qInn_1 haa hee hcl2 hfj (by omega) (by omega) (by omega)
                  exact hret (v1, aup (aup (wrS f1 a l1) 1 (a + 1)) 5 a) _ _ _ _ _ _ (by rw [hqi]; exact ⟨rfl, hvk⟩) (congrArg (fun z => some (ai z)) (by rw [hqi]; omega)) rfl (Nat.le_of_ble_eq_true rfl) (Nat.le_of_ble_eq_true rfl) dX12_inn_196
                · skip
                  refine v_bipush (pc := 164) dX12_inn_164 (by decide) ?_
                  refine v_aload_n (pc := 166) 0 rfl dX12_inn_166 ?_
                  refine v_get (pc := 167) (v := ai (v1 5)) 5 (Or.inr ⟨0, rfl⟩) fl_12_45_12 rfl dX12_inn_167 ?_
                  refine v_isub (pc := 170) dX12_inn_170 ?_
                  have hcl2 : (ps v1 l1, f1 (221 + a), f1 (226 + a)) = clF f := by first | (rw [clN_st (by show ¬ (v1 7 = 0 ∧ hrp (tp f) e (v1 5) = 59); rw [← htp]; omega)] at hcl; exact hcl) | (rw [show (10 - n).toNat = 0 by omega] at hcl; exact hcl)
                  have hqi := qInn_2 haa hee hcl2 hfj (by omega) (by omega)
                  exact hret (v1, (wrS f1 a l1)) _ _ _ _ _ _ (by rw [hqi]; exact ⟨rfl, hvk⟩) (congrArg (fun z => some (ai z)) (by rw [hqi])) rfl (Nat.le_of_ble_eq_true rfl) (Nat.le_of_ble_eq_true rfl) dX12_inn_171
            · skip
              refine v_aload_n (pc := 126) 0 rfl dX12_inn_126 ?_
              refine v_dup (pc := 127) rfl dX12_inn_127 ?_
              refine v_get (pc := 128) (v := ai (v1 5)) 5 (Or.inr ⟨0, rfl⟩) fl_12_45_12 rfl dX12_inn_128 ?_
              refine v_iconst (pc := 131) dX12_inn_131 ?_
              refine v_iadd (pc := 132) dX12_inn_132 ?_
              refine v_put (pc := 133) 5 0 rfl fl_12_45_12 ck_12 ft_12_5 (okV_i _) (Nat.le_of_ble_eq_true rfl) (ws2 := [(h, co 12 (mO ad (nup v1 5 ((v1 5) + 1)))), ((ad 1), cn 0 936 (wrS f1 a l1))]) rfl dX12_inn_133 ?_
              refine v_aload_n (pc := 136) 0 rfl dX12_inn_136 ?_
              refine v_callV (pc := 137) [0, 1] [] [] (As := []) (rest := []) (c_X12_clauseHere ad (nup v1 5 ((v1 5) + 1)) h f1 a e l1 (by first | omega | assumption) (by first | omega | assumption) (by exact hT) (by show (v1 4) = a; omega) (by show (v1 6) = e; omega) (by exact ⟨by show 0 ≤ ((v1 5) + 1); omega, by show ((v1 5) + 1) ≤ e; omega, by show (v1 7) = 0 ∨ (v1 7) = 1; omega⟩) (by show ((l1.length : Nat) : Int) ≤ ((v1 5) + 1); omega) (by show (v1 8) = _; omega)) (c := 12) rfl (Or.inr ⟨0, rfl⟩) wl_X12_120 wi_X12_clauseHere wv_X12_X12_clauseHere_X12_clauseHere wk_X12_clauseHere wz_X12 md_X12_clauseHere rfl (Nat.le_of_ble_eq_true rfl) ⟨Nat.le_of_ble_eq_true rfl, Nat.le_of_ble_eq_true rfl, Nat.le_of_ble_eq_true rfl, Nat.le_of_ble_eq_true rfl⟩ rfl rfl rfl rfl (by decide) ro_nil dX12_inn_137 (fun u hu => ?_)
              obtain ⟨v2_16, l2_17, f2_18⟩ := u
              have g_19 : cls (tp f1) e (ps (nup v1 5 ((v1 5) + 1)) l1, f1 (221 + a), f1 (226 + a)) = (ps v2_16 l2_17, f2_18 (221 + a), f2_18 (226 + a)) ∧ kp (nup v1 5 ((v1 5) + 1)) v2_16 ∧ tp f2_18 = tp f1 ∧ ∀ j : Int, j ≠ 221 + a → j ≠ 226 + a → f2_18 j = f1 j := hu
              show V x cX12_inn RX12 2 (rmU 25 534 0 0) [(h, co 12 (mO ad v2_16)), ((ad 1), cn 0 936 (wrS f2_18 a l2_17))] 140 [(0, ar h), (1, ai n)] [] 0 0
              have hq := cls_k (t := tp f1) (e := e) (ps (nup v1 5 ((v1 5) + 1)) l1, f1 (221 + a), f1 (226 + a)) ⟨by show 0 ≤ (v1 5 + 1); omega, by show (v1 5 + 1) ≤ e; omega, by show (v1 7) = 0 ∨ (v1 7) = 1; omega⟩
              rw [g_19.1] at hq
              have hq2 : (0 ≤ v2_16 5 ∧ v2_16 5 ≤ e ∧ (v2_16 7 = 0 ∨ v2_16 7 = 1)) ∧ (v1 5 + 1) ≤ v2_16 5 ∧ (v1 5 + 1) - ((l1.length : Nat) : Int) ≤ v2_16 5 - ((l2_17.length : Nat) : Int) := hq
              refine v_iinc (pc := 140) 1 (L2 := [(1, ai (n + 1)), (0, ar h)]) rfl rfl (by decide) dX12_inn_140 ?_
              refine v_goto (pc := 143) 104 dX12_inn_143 (by decide) ?_
              refine v_sub (L2 := [(0, ar h), (1, ai (n + 1))]) [1, 0] rfl ?_
              exact ih _ (by omega) (n + 1) v2_16 l2_17 f2_18 rfl (by omega) (by rw [← hcl, show (10 - n).toNat = (10 - (n + 1)).toNat + 1 by omega, clN_go ⟨by show v1 7 = 0; omega, by show hrp (tp f) e (v1 5) = 59; rw [← htp]; omega⟩]; congr 1; rw [← htp]; exact g_19.1.symm) (by exact (g_19.2.1 4 (by decide) (by decide)).trans h4) (by exact (g_19.2.1 6 (by decide) (by decide)).trans h6) (by exact (g_19.2.1 8 (by decide) (by decide)).trans h8) (by exact ⟨(g_19.2.1 3 (by decide) (by decide)).trans hvk.1, (g_19.2.1 16 (by decide) (by decide)).trans hvk.2.1, (g_19.2.1 17 (by decide) (by decide)).trans hvk.2.2.1, (g_19.2.1 21 (by decide) (by decide)).trans hvk.2.2.2⟩) (by exact g_19.2.2.1.trans htp) (by intro j j1 j2; rw [g_19.2.2.2 j j1 j2]; exact hfj j j1 j2) (by omega) (by intro j j0 j1; rw [g_19.2.2.2 _ (by omega) (by omega)]; exact hT j j0 j1)
    refine v_sub (L2 := [(0, ar h), (1, ai 1)]) [1, 0] rfl ?_
    exact lp104 _ 1 v2_2 l2_3 f2_4 rfl (by omega) (by have z := g_5.1; rw [hf01, hf02, htp0] at z; rw [← hcl0]; exact congrArg (clN (tp f) e 9) z.symm) (by exact (g_5.2.1 4 (by decide) (by decide)).trans rfl) (by exact (g_5.2.1 6 (by decide) (by decide)).trans rfl) (by exact (g_5.2.1 8 (by decide) (by decide)).trans rfl) (by exact ⟨(g_5.2.1 3 (by decide) (by decide)).trans rfl, (g_5.2.1 16 (by decide) (by decide)).trans rfl, (g_5.2.1 17 (by decide) (by decide)).trans rfl, (g_5.2.1 21 (by decide) (by decide)).trans rfl⟩) (by exact g_5.2.2.1.trans htp0) (by intro j j1 j2; rw [g_5.2.2.2 j j1 j2, hf0, aup_n _ _ j2, aup_n _ _ j1]) (by have q9 : (([] : List Int).length : Int) = 0 := rfl; omega) (by intro j j0 j1; rw [g_5.2.2.2 _ (by omega) (by omega)]; exact hT j j0 j1)
  · skip
    refine v_bipush (pc := 10) dX12_inn_10 (by decide) ?_
    exact hret (v, f) _ _ _ _ _ _ (by rw [qInn_0 (by omega)]; exact ⟨rfl, vK_rf v⟩) (congrArg (fun z => some (ai z)) (by rw [qInn_0 (by omega)])) rfl (Nat.le_of_ble_eq_true rfl) (Nat.le_of_ble_eq_true rfl) dX12_inn_12
