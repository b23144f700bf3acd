set_option maxHeartbeats 4000000 in
set_option maxRecDepth 100000 in
theorem c_X12_planOdds {gS : sG} (ad : Nat → Nat) (v : Nat → Int) (h : Nat) (f : Int → Int) (by0 : Int → Int) (tr0 : Int → Int) (kp : Int → Int) (p : Int) (k : Int) (hf : PF f p) (hg : GF f) (hwf : wfS 0 (SL f)) (hki : KI f p kp) (hk : 0 ≤ k ∧ k < 12) : Ct gS (S := (Int → Int) × (Nat → Int) × (Int → Int) × (Int → Int)) yX12_planOdds cX12_planOdds 4 (some .int) 4 102 0 0 [ar h, ai p, ai k] [((ad 14), cn 0 252 kp), (h, co 12 (mO ad v)), ((ad 9), cn 0 6 by0), ((ad 10), cn 1 64 tr0)] (fun q => q ∈ ([((ad 1), cn 0 936 f)] : aW)) (fun u => KI f p u.1 ∧ vK v u.2.1) (fun u => some (ai (kPB f p (f (19 + p)) k))) (fun u => [((ad 14), cn 0 252 u.1), (h, co 12 (mO ad u.2.1)), ((ad 9), cn 0 6 u.2.2.1), ((ad 10), cn 1 64 u.2.2.2)]) := by
  refine ct_I RX12 [(0, ar h), (1, ai p), (2, ai k)] (by decide) rfl (Nat.le_of_ble_eq_true rfl) rfl (fun x hgS hro hret => ?_)
  subst hgS
  have r0 := hro _ (mem_at 0 rfl)
  obtain ⟨hp, hf1, hf2, hf3, hf4, hf5, hf6, hf7, hf8⟩ := id hf
  have hkv := hki (f (19 + p)) k (by omega) (by omega) (by omega) (by omega)
  have hkb := kPB_b (f := f) (p := p) (s := f (19 + p)) (k := k)
  show V x cX12_planOdds RX12 4 (rmU 4 102 0 0) [((ad 14), cn 0 252 kp), (h, co 12 (mO ad v)), ((ad 9), cn 0 6 by0), ((ad 10), cn 1 64 tr0)] 0 [(0, ar h), (1, ai p), (2, ai k)] [] 0 0
  refine v_bipush (pc := 0) dX12_planOdds_0 (by decide) ?_
  refine v_aload_n (pc := 2) 0 rfl dX12_planOdds_2 ?_
  refine v_get (pc := 3) (v := ar (ad 1)) 1 (Or.inr ⟨1, rfl⟩) fl_12_9_12 rfl dX12_planOdds_3 ?_
  refine v_bipush (pc := 6) dX12_planOdds_6 (by decide) ?_
  refine v_iload_n (pc := 8) 1 rfl dX12_planOdds_8 ?_
  refine v_iadd (pc := 9) dX12_planOdds_9 ?_
  refine v_iald (pc := 10) (Or.inl r0) (by omega) (by omega) (by decide) dX12_planOdds_10 ?_
  refine v_imul (pc := 11) dX12_planOdds_11 ?_
  refine v_iload_n (pc := 12) 2 rfl dX12_planOdds_12 ?_
  refine v_iadd (pc := 13) dX12_planOdds_13 ?_
  refine v_istore_n (pc := 14) (L2 := [(3, ai ((12 * (f (19 + p))) + k)), (0, ar h), (1, ai p), (2, ai k)]) rfl (by decide) dX12_planOdds_14 ?_
  refine v_aload_n (pc := 15) 1 rfl dX12_planOdds_15 ?_
  refine v_get (pc := 16) (v := ar (ad 14)) 14 (Or.inr ⟨1, rfl⟩) fl_12_25_12 rfl dX12_planOdds_16 ?_
  refine v_iload_n (pc := 19) 0 rfl dX12_planOdds_19 ?_
  refine v_iald (pc := 20) (Or.inr ⟨0, rfl⟩) (by omega) (by omega) (by decide) dX12_planOdds_20 ?_
  refine v_iconst (pc := 21) dX12_planOdds_21 ?_
  refine v_icmp_ne (pc := 22) 41 dX12_planOdds_22 (by decide) (by unfold iB; omega) (by unfold iB; omega) (fun c_1 => ?_) (fun c_1 => ?_)
  · skip
    refine v_aload_n (pc := 41) 1 rfl dX12_planOdds_41 ?_
    refine v_get (pc := 42) (v := ar (ad 14)) 14 (Or.inr ⟨1, rfl⟩) fl_12_25_12 rfl dX12_planOdds_42 ?_
    refine v_iload_n (pc := 45) 0 rfl dX12_planOdds_45 ?_
    refine v_iald (pc := 46) (Or.inr ⟨0, rfl⟩) (by omega) (by omega) (by decide) dX12_planOdds_46 ?_
    exact hret (kp, v, by0, tr0) _ _ _ _ _ _ (by exact ⟨hki, vK_rf v⟩) (congrArg (fun z => some (ai z)) (by first | (rw [aup_s]; done) | exact (hkv.resolve_left (by omega)).symm)) rfl (Nat.le_of_ble_eq_true rfl) (Nat.le_of_ble_eq_true rfl) dX12_planOdds_47
  · skip
    refine v_aload_n (pc := 25) 1 rfl dX12_planOdds_25 ?_
    refine v_get (pc := 26) (v := ar (ad 14)) 14 (Or.inr ⟨1, rfl⟩) fl_12_25_12 rfl dX12_planOdds_26 ?_
    refine v_iload_n (pc := 29) 0 rfl dX12_planOdds_29 ?_
    refine v_aload_n (pc := 30) 1 rfl dX12_planOdds_30 ?_
    refine v_iload_n (pc := 31) 2 rfl dX12_planOdds_31 ?_
    refine v_iconst (pc := 32) dX12_planOdds_32 ?_
    refine v_iload_n (pc := 33) 3 rfl dX12_planOdds_33 ?_
    refine v_imul (pc := 34) dX12_planOdds_34 ?_
    refine v_iconst (pc := 35) dX12_planOdds_35 ?_
    refine v_iadd (pc := 36) dX12_planOdds_36 ?_
    refine v_callV (pc := 37) [1, 2, 3] [0] [((ad 14), cn 0 252 kp)] (As := [ai p, ai ((5 * k) + 5)]) (rest := [ai ((12 * (f (19 + p))) + k), ar (ad 14)]) (c_X12_bestOf ad v h f by0 tr0 p ((5 * k) + 5) (by assumption) (by assumption) (by first | omega | assumption) (by assumption)) (c := 12) rfl (Or.inr ⟨1, rfl⟩) wl_X12_187 wi_X12_bestOf wv_X12_X12_bestOf_X12_bestOf wk_X12_bestOf wz_X12 md_X12_bestOf rfl (Nat.le_of_ble_eq_true rfl) ⟨Nat.le_of_ble_eq_true rfl, Nat.le_of_ble_eq_true rfl, Nat.le_of_ble_eq_true rfl, Nat.le_of_ble_eq_true rfl⟩ rfl rfl rfl rfl (by decide) (ro_cons (Or.inl r0) ro_nil) dX12_planOdds_37 (fun u hu => ?_)
    obtain ⟨v2_2, by2_3, tr2_4⟩ := u
    have g_5 : vK v v2_2 ∧ v2_2 15 = v 15 ∧ v2_2 13 = (fBst f p ((5 * k) + 5) 21).2 := hu
    show V x cX12_planOdds RX12 4 (rmU 4 102 0 0) [((ad 14), cn 0 252 kp), (h, co 12 (mO ad v2_2)), ((ad 9), cn 0 6 by2_3), ((ad 10), cn 1 64 tr2_4)] 40 [(3, ai ((12 * (f (19 + p))) + k)), (0, ar h), (1, ai p), (2, ai k)] [ai (fBest f p ((5 * k) + 5)), ai ((12 * (f (19 + p))) + k), ar (ad 14)] 0 0
    have hkeep := g_5.1
    refine v_eqi (y := (kPB f p (f (19 + p)) k)) (kPB_own.symm) ?_
    refine v_iast (pc := 40) 0 rfl (by omega) (by omega) (by decide) (ws2 := [((ad 14), cn 0 252 (aup kp ((12 * (f (19 + p))) + k) (kPB f p (f (19 + p)) k))), (h, co 12 (mO ad v2_2)), ((ad 9), cn 0 6 by2_3), ((ad 10), cn 1 64 tr2_4)]) rfl dX12_planOdds_40 ?_
    refine v_aload_n (pc := 41) 1 rfl dX12_planOdds_41 ?_
    refine v_get (pc := 42) (v := ar (ad 14)) 14 (Or.inr ⟨1, rfl⟩) fl_12_25_12 rfl dX12_planOdds_42 ?_
    refine v_iload_n (pc := 45) 0 rfl dX12_planOdds_45 ?_
    refine v_iald (pc := 46) (Or.inr ⟨0, rfl⟩) (by omega) (by omega) (by decide) dX12_planOdds_46 ?_
    exact hret ((aup kp ((12 * (f (19 + p))) + k) (kPB f p (f (19 + p)) k)), v2_2, by2_3, tr2_4) _ _ _ _ _ _ (by exact ⟨KI_up hki (by omega) (by omega), hkeep⟩) (congrArg (fun z => some (ai z)) (by rw [aup_s])) rfl (Nat.le_of_ble_eq_true rfl) (Nat.le_of_ble_eq_true rfl) dX12_planOdds_47
set_option maxHeartbeats 4000000 in
set_option maxRecDepth 100000 in
theorem c_planFor_0 {gS : sG} (ad : Nat → Nat) (v : Nat → Int) (h : Nat) (f : Int → Int) (p : Int) (hf : PF f p) : Ct gS (S := Unit) yX12_planFor cX12_planFor 12 (some .int) 5 133 0 0 [ar h, ai p, ai 0] [] (fun q => q ∈ ([(h, co 12 (mO ad v)), ((ad 1), cn 0 936 f)] : aW)) (fun _ => True) (fun _ => some (ai (plN (kPB f p) 0 (f (37 + p)) (f (19 + p))))) (fun _ => []) := by
  refine ct_I RX12 [(0, ar h), (1, ai p), (2, ai 0)] (by decide) rfl (Nat.le_of_ble_eq_true rfl) rfl (fun x hgS hro hret => ?_)
  subst hgS
  have r0 := hro _ (mem_at 0 rfl)
  have r1 := hro _ (mem_at 1 rfl)
  obtain ⟨hp, hf1, hf2, hf3, hf4, hf5, hf6, hf7, hf8⟩ := id hf
  show V x cX12_planFor RX12 12 (rmU 5 133 0 0) [] 0 [(0, ar h), (1, ai p), (2, ai 0)] [] 0 0
  refine v_iload_n (pc := 0) 2 rfl dX12_planFor_0 ?_
  refine v_if_ne (pc := 1) 14 dX12_planFor_1 (by decide) (by unfold iB; omega) (fun c_1 => by exfalso; omega) (fun c_1 => ?_)
  refine v_aload_n (pc := 4) 0 rfl dX12_planFor_4 ?_
  refine v_get (pc := 5) (v := ar (ad 1)) 1 (Or.inl r0) fl_12_9_12 rfl dX12_planFor_5 ?_
  refine v_bipush (pc := 8) dX12_planFor_8 (by decide) ?_
  refine v_iload_n (pc := 10) 1 rfl dX12_planFor_10 ?_
  refine v_iadd (pc := 11) dX12_planFor_11 ?_
  refine v_iald (pc := 12) (Or.inl r1) (by omega) (by omega) (by decide) dX12_planFor_12 ?_
  exact hret () _ _ _ _ _ _ trivial (congrArg (fun z => some (ai z)) (by rfl)) rfl (Nat.le_of_ble_eq_true rfl) (Nat.le_of_ble_eq_true rfl) dX12_planFor_13
set_option maxHeartbeats 4000000 in
set_option maxRecDepth 100000 in
theorem c_planFor_1 {gS : sG} (ad : Nat → Nat) (v : Nat → Int) (h : Nat) (f : Int → Int) (by0 : Int → Int) (tr0 : Int → Int) (kp : Int → Int) (p : Int) (hS : SOK f) (hp0 : 0 ≤ p ∧ p < 6) (hki : KI f p kp) : Ct gS (S := (Int → Int) × (Int → Int) × (Nat → Int) × (Int → Int) × (Int → Int)) yX12_planFor cX12_planFor 12 (some .int) 6 164 0 0 [ar h, ai p, ai 1] [((ad 1), cn 0 936 f), ((ad 14), cn 0 252 kp), (h, co 12 (mO ad v)), ((ad 9), cn 0 6 by0), ((ad 10), cn 1 64 tr0)] (fun q => q ∈ ([] : aW)) (fun u => u.1 = f ∧ KI f p u.2.1 ∧ vK v u.2.2.1 ∧ u.2.2.1 15 = plA f p 0) (fun u => some (ai (plN (kPB f p) 1 (f (37 + p)) (f (19 + p))))) (fun u => [((ad 1), cn 0 936 u.1), ((ad 14), cn 0 252 u.2.1), (h, co 12 (mO ad u.2.2.1)), ((ad 9), cn 0 6 u.2.2.2.1), ((ad 10), cn 1 64 u.2.2.2.2)]) := by
  refine ct_I RX12 [(0, ar h), (1, ai p), (2, ai 1)] (by decide) rfl (Nat.le_of_ble_eq_true rfl) rfl (fun x hgS hro hret => ?_)
  subst hgS
  obtain ⟨hg, hSp, hSh, hSs, hSb, hSt, hwf⟩ := id hS
  obtain ⟨hg0, hg1, hg2, hg3, hg4, hg5, hg6, hg7⟩ := id hg
  have hf := hSp p hp0.1 hp0.2
  obtain ⟨hp, hf1, hf2, hf3, hf4, hf5, hf6, hf7, hf8⟩ := id hf
  have hNb := plN_b (B := kPB f p) (fun _ _ => kPB_b) 0
  have hn0 := hNb (f (37 + p)) (f (19 + p)) (by omega) (by omega)
  show V x cX12_planFor RX12 12 (rmU 6 164 0 0) [((ad 1), cn 0 936 f), ((ad 14), cn 0 252 kp), (h, co 12 (mO ad v)), ((ad 9), cn 0 6 by0), ((ad 10), cn 1 64 tr0)] 0 [(0, ar h), (1, ai p), (2, ai 1)] [] 0 0
  refine v_iload_n (pc := 0) 2 rfl dX12_planFor_0 ?_
  refine v_if_ne (pc := 1) 14 dX12_planFor_1 (by decide) (by unfold iB; omega) (fun c_1 => ?_) (fun c_1 => by exfalso; omega)
  refine v_iconst (pc := 14) dX12_planFor_14 ?_
  refine v_istore_n (pc := 15) (L2 := [(3, ai (-1)), (0, ar h), (1, ai p), (2, ai 1)]) rfl (by decide) dX12_planFor_15 ?_
  refine v_iconst (pc := 16) dX12_planFor_16 ?_
  refine v_istore (pc := 17) (L2 := [(4, ai 0), (3, ai (-1)), (0, ar h), (1, ai p), (2, ai 1)]) rfl (by decide) dX12_planFor_17 ?_
  refine v_aload_n (pc := 19) 2 rfl dX12_planFor_19 ?_
  refine v_get (pc := 20) (v := ar (ad 1)) 1 (Or.inr ⟨2, rfl⟩) fl_12_9_12 rfl dX12_planFor_20 ?_
  refine v_bipush (pc := 23) dX12_planFor_23 (by decide) ?_
  refine v_iload_n (pc := 25) 3 rfl dX12_planFor_25 ?_
  refine v_iadd (pc := 26) dX12_planFor_26 ?_
  refine v_iald (pc := 27) (Or.inr ⟨0, rfl⟩) (by omega) (by omega) (by decide) dX12_planFor_27 ?_
  refine v_istore (pc := 28) (L2 := [(5, ai (f (37 + p))), (4, ai 0), (3, ai (-1)), (0, ar h), (1, ai p), (2, ai 1)]) rfl (by decide) dX12_planFor_28 ?_
  refine v_aload_n (pc := 30) 3 rfl dX12_planFor_30 ?_
  refine v_get (pc := 31) (v := ar (ad 1)) 1 (Or.inr ⟨2, rfl⟩) fl_12_9_12 rfl dX12_planFor_31 ?_
  refine v_bipush (pc := 34) dX12_planFor_34 (by decide) ?_
  refine v_iload_n (pc := 36) 4 rfl dX12_planFor_36 ?_
  refine v_iadd (pc := 37) dX12_planFor_37 ?_
  refine v_iald (pc := 38) (Or.inr ⟨0, rfl⟩) (by omega) (by omega) (by decide) dX12_planFor_38 ?_
  refine v_istore (pc := 39) (L2 := [(6, ai (f (19 + p))), (5, ai (f (37 + p))), (4, ai 0), (3, ai (-1)), (0, ar h), (1, ai p), (2, ai 1)]) rfl (by decide) dX12_planFor_39 ?_
  refine v_aload_n (pc := 41) 4 rfl dX12_planFor_41 ?_
  refine v_iload_n (pc := 42) 5 rfl dX12_planFor_42 ?_
  refine v_iload_n (pc := 43) 6 rfl dX12_planFor_43 ?_
  refine v_iconst (pc := 44) dX12_planFor_44 ?_
  refine v_isub (pc := 45) dX12_planFor_45 ?_
  refine v_callV (pc := 46) [] [0, 1, 2, 3, 4] [((ad 1), cn 0 936 f), ((ad 14), cn 0 252 kp), (h, co 12 (mO ad v)), ((ad 9), cn 0 6 by0), ((ad 10), cn 1 64 tr0)] (As := [ai p, ai 0]) (rest := []) (c_planFor_0 ad v h f p (by assumption)) (c := 12) rfl (Or.inr ⟨2, rfl⟩) wl_X12_193 wi_X12_planFor wv_X12_X12_planFor_X12_planFor wk_X12_planFor wz_X12 md_X12_planFor rfl (Nat.le_of_ble_eq_true rfl) ⟨Nat.le_of_ble_eq_true rfl, Nat.le_of_ble_eq_true rfl, Nat.le_of_ble_eq_true rfl, Nat.le_of_ble_eq_true rfl⟩ rfl rfl rfl rfl (by decide) (ro_cons (Or.inr ⟨2, rfl, by decide⟩) (ro_cons (Or.inr ⟨0, rfl, by decide⟩) ro_nil)) dX12_planFor_46 (fun u hu => ?_)
  show V x cX12_planFor RX12 12 (rmU 6 164 0 0) [((ad 1), cn 0 936 f), ((ad 14), cn 0 252 kp), (h, co 12 (mO ad v)), ((ad 9), cn 0 6 by0), ((ad 10), cn 1 64 tr0)] 49 [(6, ai (f (19 + p))), (5, ai (f (37 + p))), (4, ai 0), (3, ai (-1)), (0, ar h), (1, ai p), (2, ai 1)] [ai (plN (kPB f p) 0 (f (37 + p)) (f (19 + p)))] 0 0
  refine v_istore (pc := 49) (L2 := [(7, ai (plN (kPB f p) 0 (f (37 + p)) (f (19 + p)))), (6, ai (f (19 + p))), (5, ai (f (37 + p))), (4, ai 0), (3, ai (-1)), (0, ar h), (1, ai p), (2, ai 1)]) rfl (by decide) dX12_planFor_49 ?_
  refine v_iconst (pc := 51) dX12_planFor_51 ?_
  refine v_istore (pc := 52) (L2 := [(8, ai 0), (7, ai (plN (kPB f p) 0 (f (37 + p)) (f (19 + p)))), (6, ai (f (19 + p))), (5, ai (f (37 + p))), (4, ai 0), (3, ai (-1)), (0, ar h), (1, ai p), (2, ai 1)]) rfl (by decide) dX12_planFor_52 ?_
  have lp54 : ∀ (mm : Nat) (bt : Int) (wh : Int) (k : Int) (kp1 : Int → Int) (v1 : Nat → Int) (by1 : Int → Int) (tr1 : Int → Int), (12 - k).toNat = mm → (0 ≤ k ∧ k ≤ 12) → (bt = (bst (plV (kPB f p) (plN (kPB f p) 0) (f (37 + p)) (f (19 + p))) k.toNat).1 ∧ wh = if k = 0 then 0 else 5 * (bst (plV (kPB f p) (plN (kPB f p) 0) (f (37 + p)) (f (19 + p))) k.toNat).2 + 5) → (-1 ≤ bt ∧ bt ≤ 100000000 ∧ (k = 0 → bt = -1)) → (KI f p kp1) → (vK v v1) → V x cX12_planFor RX12 12 (rmU 6 164 0 0) [((ad 1), cn 0 936 f), ((ad 14), cn 0 252 kp1), (h, co 12 (mO ad v1)), ((ad 9), cn 0 6 by1), ((ad 10), cn 1 64 tr1)] 54 [(0, ar h), (1, ai p), (2, ai 1), (3, ai bt), (4, ai wh), (5, ai (f (37 + p))), (6, ai (f (19 + p))), (7, ai (plN (kPB f p) 0 (f (37 + p)) (f (19 + p)))), (8, ai k)] [] 0 0 := by
    intro mm
    induction mm using Nat.strongRecOn with
    | _ mm ih =>
      intro bt wh k kp1 v1 by1 tr1 hmm hk hbs hbb hkp hvk
      have hbn : bst (plV (kPB f p) (plN (kPB f p) 0) (f (37 + p)) (f (19 + p))) (k + 1).toNat = if bt < (plV (kPB f p) (plN (kPB f p) 0) (f (37 + p)) (f (19 + p))) k then ((plV (kPB f p) (plN (kPB f p) 0) (f (37 + p)) (f (19 + p))) k, k) else bst (plV (kPB f p) (plN (kPB f p) 0) (f (37 + p)) (f (19 + p))) k.toNat := by rw [show (k + 1).toNat = k.toNat + 1 by omega, bst_succ, show ((k.toNat : Nat) : Int) = k by omega, ← hbs.1]
      refine v_iload (pc := 54) 8 rfl dX12_planFor_54 ?_
      refine v_bipush (pc := 56) dX12_planFor_56 (by decide) ?_
      refine v_icmp_ge (pc := 58) 167 dX12_planFor_58 (by decide) (by unfold iB; omega) (by unfold iB; omega) (fun c_2 => ?_) (fun c_2 => ?_)
      · skip
        refine v_aload_n (pc := 167) 0 rfl dX12_planFor_167 ?_
        refine v_iload (pc := 168) 4 rfl dX12_planFor_168 ?_
        refine v_put (pc := 170) 15 2 rfl fl_12_199_12 ck_12 ft_12_15 (okV_i _) (Nat.le_of_ble_eq_true rfl) (ws2 := [((ad 1), cn 0 936 f), ((ad 14), cn 0 252 kp1), (h, co 12 (mO ad (nup v1 15 wh))), ((ad 9), cn 0 6 by1), ((ad 10), cn 1 64 tr1)]) rfl dX12_planFor_170 ?_
        refine v_iload_n (pc := 173) 3 rfl dX12_planFor_173 ?_
        exact hret (f, kp1, (nup v1 15 wh), by1, tr1) _ _ _ _ _ _ (by (have e12 : k = 12 := (by omega)); subst e12; have q := hbs.2; rw [if_neg (by omega)] at q; exact ⟨rfl, hkp, vK_up hvk (by decide) (by decide) (by decide) (by decide), by show nup v1 15 wh 15 = _; rw [nup_s, q]; rfl⟩) (congrArg (fun z => some (ai z)) (by (have e12 : k = 12 := (by omega)); subst e12; rw [hbs.1]; rfl)) rfl (Nat.le_of_ble_eq_true rfl) (Nat.le_of_ble_eq_true rfl) dX12_planFor_174
      · skip
        refine v_aload_n (pc := 61) 0 rfl dX12_planFor_61 ?_
        refine v_iload_n (pc := 62) 1 rfl dX12_planFor_62 ?_
        refine v_iload (pc := 63) 8 rfl dX12_planFor_63 ?_
        refine v_callV (pc := 65) [1, 2, 3, 4] [0] [((ad 1), cn 0 936 f)] (As := [ai p, ai k]) (rest := []) (c_X12_planOdds ad v1 h f by1 tr1 kp1 p k (by assumption) (by assumption) (by assumption) (by assumption) (by first | omega | assumption)) (c := 12) rfl (Or.inr ⟨2, rfl⟩) wl_X12_196 wi_X12_planOdds wv_X12_X12_planOdds_X12_planOdds wk_X12_planOdds wz_X12 md_X12_planOdds rfl (Nat.le_of_ble_eq_true rfl) ⟨Nat.le_of_ble_eq_true rfl, Nat.le_of_ble_eq_true rfl, Nat.le_of_ble_eq_true rfl, Nat.le_of_ble_eq_true rfl⟩ rfl rfl rfl rfl (by decide) (ro_cons (Or.inr ⟨0, rfl, by decide⟩) ro_nil) dX12_planFor_65 (fun u hu => ?_)
        obtain ⟨kp2_3, v2_4, by2_5, tr2_6⟩ := u
        have g_7 : KI f p kp2_3 ∧ vK v1 v2_4 := hu
        show V x cX12_planFor RX12 12 (rmU 6 164 0 0) [((ad 1), cn 0 936 f), ((ad 14), cn 0 252 kp2_3), (h, co 12 (mO ad v2_4)), ((ad 9), cn 0 6 by2_5), ((ad 10), cn 1 64 tr2_6)] 68 [(0, ar h), (1, ai p), (2, ai 1), (3, ai bt), (4, ai wh), (5, ai (f (37 + p))), (6, ai (f (19 + p))), (7, ai (plN (kPB f p) 0 (f (37 + p)) (f (19 + p)))), (8, ai k)] [ai (kPB f p (f (19 + p)) k)] 0 0
        have hki3 := g_7.1
        have hk3 := g_7.2
        have hob := kPB_b (f := f) (p := p) (s := f (19 + p)) (k := k)
        refine v_istore (pc := 68) (L2 := [(9, ai (kPB f p (f (19 + p)) k)), (0, ar h), (1, ai p), (2, ai 1), (3, ai bt), (4, ai wh), (5, ai (f (37 + p))), (6, ai (f (19 + p))), (7, ai (plN (kPB f p) 0 (f (37 + p)) (f (19 + p)))), (8, ai k)]) rfl (by decide) dX12_planFor_68 ?_
        refine v_aload_n (pc := 70) 1 rfl dX12_planFor_70 ?_
        refine v_iload_n (pc := 71) 2 rfl dX12_planFor_71 ?_
        refine v_iconst (pc := 72) dX12_planFor_72 ?_
        refine v_iload (pc := 73) 9 rfl dX12_planFor_73 ?_
        refine v_imul (pc := 75) dX12_planFor_75 ?_
        refine v_iconst (pc := 76) dX12_planFor_76 ?_
        refine v_iadd (pc := 77) dX12_planFor_77 ?_
        refine v_callV (pc := 78) [0] [1, 2, 3, 4] [((ad 14), cn 0 252 kp2_3), (h, co 12 (mO ad v2_4)), ((ad 9), cn 0 6 by2_5), ((ad 10), cn 1 64 tr2_6)] (As := [ai p, ai ((5 * k) + 5)]) (rest := []) (c_X12_learnsBy ad v2_4 h f p ((5 * k) + 5) (by assumption) (by first | omega | assumption)) (c := 12) rfl (Or.inr ⟨2, rfl⟩) wl_X12_167 wi_X12_learnsBy wv_X12_X12_learnsBy_X12_learnsBy wk_X12_learnsBy wz_X12 md_X12_learnsBy rfl (Nat.le_of_ble_eq_true rfl) ⟨Nat.le_of_ble_eq_true rfl, Nat.le_of_ble_eq_true rfl, Nat.le_of_ble_eq_true rfl, Nat.le_of_ble_eq_true rfl⟩ rfl rfl rfl rfl (by decide) (ro_cons (Or.inr ⟨2, rfl, by decide⟩) ro_nil) dX12_planFor_78 (fun u hu => ?_)
        obtain ⟨f2_8, rfl⟩ : ∃ z, z = u := ⟨_, rfl⟩
        have g_9 : f2_8 = kLrn f p ((5 * k) + 5) := hu
        show V x cX12_planFor RX12 12 (rmU 6 164 0 0) [((ad 14), cn 0 252 kp2_3), (h, co 12 (mO ad v2_4)), ((ad 9), cn 0 6 by2_5), ((ad 10), cn 1 64 tr2_6), ((ad 1), cn 0 936 f2_8)] 81 [(9, ai (kPB f p (f (19 + p)) k)), (0, ar h), (1, ai p), (2, ai 1), (3, ai bt), (4, ai wh), (5, ai (f (37 + p))), (6, ai (f (19 + p))), (7, ai (plN (kPB f p) 0 (f (37 + p)) (f (19 + p)))), (8, ai k)] [] 0 0
        refine v_ws (ws2 := [((ad 14), cn 0 252 kp2_3), (h, co 12 (mO ad v2_4)), ((ad 9), cn 0 6 by2_5), ((ad 10), cn 1 64 tr2_6), ((ad 1), cn 0 936 (kLrn f p (5 * k + 5)))]) (by rw [g_9]) ?_
        have hS4 := SOK_lrn hS hp0 (n := 5 * k + 5) (by omega)
        refine v_aload_n (pc := 81) 1 rfl dX12_planFor_81 ?_
        refine v_iload_n (pc := 82) 2 rfl dX12_planFor_82 ?_
        refine v_iload_n (pc := 83) 3 rfl dX12_planFor_83 ?_
        refine v_iconst (pc := 84) dX12_planFor_84 ?_
        refine v_isub (pc := 85) dX12_planFor_85 ?_
        refine v_callV (pc := 86) [] [0, 1, 2, 3, 4] [((ad 14), cn 0 252 kp2_3), (h, co 12 (mO ad v2_4)), ((ad 9), cn 0 6 by2_5), ((ad 10), cn 1 64 tr2_6), ((ad 1), cn 0 936 (kLrn f p (5 * k + 5)))] (As := [ai p, ai 0]) (rest := []) (c_planFor_0 ad v2_4 h (kLrn f p (5 * k + 5)) p (by exact hS4.2.1 p hp0.1 hp0.2)) (c := 12) rfl (Or.inr ⟨1, rfl⟩) wl_X12_193 wi_X12_planFor wv_X12_X12_planFor_X12_planFor wk_X12_planFor wz_X12 md_X12_planFor rfl (Nat.le_of_ble_eq_true rfl) ⟨Nat.le_of_ble_eq_true rfl, Nat.le_of_ble_eq_true rfl, Nat.le_of_ble_eq_true rfl, Nat.le_of_ble_eq_true rfl⟩ rfl rfl rfl rfl (by decide) (ro_cons (Or.inr ⟨1, rfl, by decide⟩) (ro_cons (Or.inr ⟨4, rfl, by decide⟩) ro_nil)) dX12_planFor_86 (fun u hu => ?_)
        show V x cX12_planFor RX12 12 (rmU 6 164 0 0) [((ad 14), cn 0 252 kp2_3), (h, co 12 (mO ad v2_4)), ((ad 9), cn 0 6 by2_5), ((ad 10), cn 1 64 tr2_6), ((ad 1), cn 0 936 (kLrn f p (5 * k + 5)))] 89 [(9, ai (kPB f p (f (19 + p)) k)), (0, ar h), (1, ai p), (2, ai 1), (3, ai bt), (4, ai wh), (5, ai (f (37 + p))), (6, ai (f (19 + p))), (7, ai (plN (kPB f p) 0 (f (37 + p)) (f (19 + p)))), (8, ai k)] [ai (plN (kPB (kLrn f p (5 * k + 5)) p) 0 ((kLrn f p (5 * k + 5)) (37 + p)) ((kLrn f p (5 * k + 5)) (19 + p)))] 0 0
        refine v_eqi (y := (plN (kPB f p) 0 (if f (37 + p) < 5 * k + 5 then 5 * k + 5 else f (37 + p)) (lsk (f (37 + p)) (f (19 + p)) (5 * k + 5)))) (by rw [kPB_lrn hp0 (by omega), kLrn_37, kLrn_19]) ?_
        have hw := hNb (if f (37 + p) < 5 * k + 5 then 5 * k + 5 else f (37 + p)) (lsk (f (37 + p)) (f (19 + p)) (5 * k + 5)) (by split <;> omega) (by split <;> omega)
        refine v_istore (pc := 89) (L2 := [(10, ai (plN (kPB f p) 0 (if f (37 + p) < 5 * k + 5 then 5 * k + 5 else f (37 + p)) (lsk (f (37 + p)) (f (19 + p)) (5 * k + 5)))), (9, ai (kPB f p (f (19 + p)) k)), (0, ar h), (1, ai p), (2, ai 1), (3, ai bt), (4, ai wh), (5, ai (f (37 + p))), (6, ai (f (19 + p))), (7, ai (plN (kPB f p) 0 (f (37 + p)) (f (19 + p)))), (8, ai k)]) rfl (by decide) dX12_planFor_89 ?_
        refine v_aload_n (pc := 91) 2 rfl dX12_planFor_91 ?_
        refine v_get (pc := 92) (v := ar (ad 1)) 1 (Or.inr ⟨1, rfl⟩) fl_12_9_12 rfl dX12_planFor_92 ?_
        refine v_bipush (pc := 95) dX12_planFor_95 (by decide) ?_
        refine v_iload_n (pc := 97) 3 rfl dX12_planFor_97 ?_
        refine v_iadd (pc := 98) dX12_planFor_98 ?_
        refine v_iload (pc := 99) 7 rfl dX12_planFor_99 ?_
        refine v_iast (pc := 101) 4 rfl (by omega) (by omega) (by decide) (ws2 := [((ad 14), cn 0 252 kp2_3), (h, co 12 (mO ad v2_4)), ((ad 9), cn 0 6 by2_5), ((ad 10), cn 1 64 tr2_6), ((ad 1), cn 0 936 (aup (kLrn f p (5 * k + 5)) (37 + p) (f (37 + p))))]) rfl dX12_planFor_101 ?_
        refine v_aload_n (pc := 102) 2 rfl dX12_planFor_102 ?_
        refine v_get (pc := 103) (v := ar (ad 1)) 1 (Or.inr ⟨1, rfl⟩) fl_12_9_12 rfl dX12_planFor_103 ?_
        refine v_bipush (pc := 106) dX12_planFor_106 (by decide) ?_
        refine v_iload_n (pc := 108) 3 rfl dX12_planFor_108 ?_
        refine v_iadd (pc := 109) dX12_planFor_109 ?_
        refine v_iload (pc := 110) 8 rfl dX12_planFor_110 ?_
        refine v_iast (pc := 112) 4 rfl (by omega) (by omega) (by decide) (ws2 := [((ad 14), cn 0 252 kp2_3), (h, co 12 (mO ad v2_4)), ((ad 9), cn 0 6 by2_5), ((ad 10), cn 1 64 tr2_6), ((ad 1), cn 0 936 (aup (aup (kLrn f p (5 * k + 5)) (37 + p) (f (37 + p))) (19 + p) (f (19 + p))))]) rfl dX12_planFor_112 ?_
        refine v_ws (ws2 := [((ad 14), cn 0 252 kp2_3), (h, co 12 (mO ad v2_4)), ((ad 9), cn 0 6 by2_5), ((ad 10), cn 1 64 tr2_6), ((ad 1), cn 0 936 f)]) (by rw [kLrn_back]) ?_
        refine v_iload (pc := 113) 1 rfl dX12_planFor_113 ?_
        refine v_iload (pc := 115) 0 rfl dX12_planFor_115 ?_
        refine v_imul (pc := 117) dX12_planFor_117 ?_
        refine v_bipush (pc := 118) dX12_planFor_118 (by decide) ?_
        refine v_iload (pc := 120) 1 rfl dX12_planFor_120 ?_
        refine v_isub (pc := 122) dX12_planFor_122 ?_
        refine v_iload (pc := 123) 9 rfl dX12_planFor_123 ?_
        refine v_imul (pc := 125) dX12_planFor_125 ?_
        refine v_iadd (pc := 126) dX12_planFor_126 ?_
        refine v_eqi (y := (plV (kPB f p) (plN (kPB f p) 0) (f (37 + p)) (f (19 + p))) k) rfl ?_
        have hvb := plV_b (B := kPB f p) (P := plN (kPB f p) 0) (sc := f (37 + p)) (sk := f (19 + p)) (k := k) (fun _ _ => kPB_b) (fun a b c d => plN_b (fun _ _ => kPB_b) 0 a b c d) (by omega) (by omega)
        refine v_istore (pc := 127) (L2 := [(11, ai ((plV (kPB f p) (plN (kPB f p) 0) (f (37 + p)) (f (19 + p))) k)), (10, ai (plN (kPB f p) 0 (if f (37 + p) < 5 * k + 5 then 5 * k + 5 else f (37 + p)) (lsk (f (37 + p)) (f (19 + p)) (5 * k + 5)))), (9, ai (kPB f p (f (19 + p)) k)), (0, ar h), (1, ai p), (2, ai 1), (3, ai bt), (4, ai wh), (5, ai (f (37 + p))), (6, ai (f (19 + p))), (7, ai (plN (kPB f p) 0 (f (37 + p)) (f (19 + p)))), (8, ai k)]) rfl (by decide) dX12_planFor_127 ?_
        refine v_iload (pc := 129) 0 rfl dX12_planFor_129 ?_
        refine v_iload_n (pc := 131) 6 rfl dX12_planFor_131 ?_
        refine v_icmp_le (pc := 132) 144 dX12_planFor_132 (by decide) (by unfold iB; omega) (by unfold iB; omega) (fun c_10 => ?_) (fun c_10 => ?_)
        · skip
          refine v_iload (pc := 144) 7 rfl dX12_planFor_144 ?_
          refine v_istore (pc := 146) (L2 := [(4, ai wh), (11, ai ((plV (kPB f p) (plN (kPB f p) 0) (f (37 + p)) (f (19 + p))) k)), (10, ai (plN (kPB f p) 0 (if f (37 + p) < 5 * k + 5 then 5 * k + 5 else f (37 + p)) (lsk (f (37 + p)) (f (19 + p)) (5 * k + 5)))), (9, ai (kPB f p (f (19 + p)) k)), (0, ar h), (1, ai p), (2, ai 1), (3, ai bt), (5, ai (f (37 + p))), (6, ai (f (19 + p))), (7, ai (plN (kPB f p) 0 (f (37 + p)) (f (19 + p)))), (8, ai k)]) rfl (by decide) dX12_planFor_146 ?_
          refine v_iload (pc := 148) 1 rfl dX12_planFor_148 ?_
          refine v_iload_n (pc := 150) 7 rfl dX12_planFor_150 ?_
          refine v_icmp_le (pc := 151) 159 dX12_planFor_151 (by decide) (by unfold iB; omega) (by unfold iB; omega) (fun c_11 => ?_) (fun c_11 => ?_)
          · skip
            refine v_iload_n (pc := 159) 7 rfl dX12_planFor_159 ?_
            refine v_istore_n (pc := 160) (L2 := [(3, ai bt), (4, ai wh), (11, ai ((plV (kPB f p) (plN (kPB f p) 0) (f (37 + p)) (f (19 + p))) k)), (10, ai (plN (kPB f p) 0 (if f (37 + p) < 5 * k + 5 then 5 * k + 5 else f (37 + p)) (lsk (f (37 + p)) (f (19 + p)) (5 * k + 5)))), (9, ai (kPB f p (f (19 + p)) k)), (0, ar h), (1, ai p), (2, ai 1), (5, ai (f (37 + p))), (6, ai (f (19 + p))), (7, ai (plN (kPB f p) 0 (f (37 + p)) (f (19 + p)))), (8, ai k)]) rfl (by decide) dX12_planFor_160 ?_
            refine v_iinc (pc := 161) 11 (L2 := [(8, ai (k + 1)), (3, ai bt), (4, ai wh), (11, ai ((plV (kPB f p) (plN (kPB f p) 0) (f (37 + p)) (f (19 + p))) k)), (10, ai (plN (kPB f p) 0 (if f (37 + p) < 5 * k + 5 then 5 * k + 5 else f (37 + p)) (lsk (f (37 + p)) (f (19 + p)) (5 * k + 5)))), (9, ai (kPB f p (f (19 + p)) k)), (0, ar h), (1, ai p), (2, ai 1), (5, ai (f (37 + p))), (6, ai (f (19 + p))), (7, ai (plN (kPB f p) 0 (f (37 + p)) (f (19 + p))))]) rfl rfl (by decide) dX12_planFor_161 ?_
            refine v_goto (pc := 164) 54 dX12_planFor_164 (by decide) ?_
            refine v_wsub (ws2 := [((ad 1), cn 0 936 f), ((ad 14), cn 0 252 kp2_3), (h, co 12 (mO ad v2_4)), ((ad 9), cn 0 6 by2_5), ((ad 10), cn 1 64 tr2_6)]) [4, 0, 1, 2, 3] rfl rfl ?_
            refine v_sub (L2 := [(0, ar h), (1, ai p), (2, ai 1), (3, ai bt), (4, ai wh), (5, ai (f (37 + p))), (6, ai (f (19 + p))), (7, ai (plN (kPB f p) 0 (f (37 + p)) (f (19 + p)))), (8, ai (k + 1))]) [6, 7, 8, 1, 2, 9, 10, 11, 0] rfl ?_
            exact ih _ (by omega) bt wh (k + 1) kp2_3 v2_4 by2_5 tr2_6 rfl (by omega) (by rw [hbn]; (first | (rw [if_pos (by omega), if_neg (by omega)]; exact ⟨rfl, rfl⟩) | (rw [if_neg (by omega), if_neg (by omega)]; have q := hbs.2; rw [if_neg (by omega)] at q; exact ⟨hbs.1, q⟩) | (exfalso; omega))) (by omega) (by exact hki3) (by exact vK_tr hvk hk3)
          · skip
            refine v_iload (pc := 154) 1 rfl dX12_planFor_154 ?_
            refine v_goto (pc := 156) 160 dX12_planFor_156 (by decide) ?_
            refine v_istore_n (pc := 160) (L2 := [(3, ai ((plV (kPB f p) (plN (kPB f p) 0) (f (37 + p)) (f (19 + p))) k)), (4, ai wh), (11, ai ((plV (kPB f p) (plN (kPB f p) 0) (f (37 + p)) (f (19 + p))) k)), (10, ai (plN (kPB f p) 0 (if f (37 + p) < 5 * k + 5 then 5 * k + 5 else f (37 + p)) (lsk (f (37 + p)) (f (19 + p)) (5 * k + 5)))), (9, ai (kPB f p (f (19 + p)) k)), (0, ar h), (1, ai p), (2, ai 1), (5, ai (f (37 + p))), (6, ai (f (19 + p))), (7, ai (plN (kPB f p) 0 (f (37 + p)) (f (19 + p)))), (8, ai k)]) rfl (by decide) dX12_planFor_160 ?_
            refine v_iinc (pc := 161) 11 (L2 := [(8, ai (k + 1)), (3, ai ((plV (kPB f p) (plN (kPB f p) 0) (f (37 + p)) (f (19 + p))) k)), (4, ai wh), (11, ai ((plV (kPB f p) (plN (kPB f p) 0) (f (37 + p)) (f (19 + p))) k)), (10, ai (plN (kPB f p) 0 (if f (37 + p) < 5 * k + 5 then 5 * k + 5 else f (37 + p)) (lsk (f (37 + p)) (f (19 + p)) (5 * k + 5)))), (9, ai (kPB f p (f (19 + p)) k)), (0, ar h), (1, ai p), (2, ai 1), (5, ai (f (37 + p))), (6, ai (f (19 + p))), (7, ai (plN (kPB f p) 0 (f (37 + p)) (f (19 + p))))]) rfl rfl (by decide) dX12_planFor_161 ?_
            refine v_goto (pc := 164) 54 dX12_planFor_164 (by decide) ?_
            refine v_wsub (ws2 := [((ad 1), cn 0 936 f), ((ad 14), cn 0 252 kp2_3), (h, co 12 (mO ad v2_4)), ((ad 9), cn 0 6 by2_5), ((ad 10), cn 1 64 tr2_6)]) [4, 0, 1, 2, 3] rfl rfl ?_
            refine v_sub (L2 := [(0, ar h), (1, ai p), (2, ai 1), (3, ai ((plV (kPB f p) (plN (kPB f p) 0) (f (37 + p)) (f (19 + p))) k)), (4, ai wh), (5, ai (f (37 + p))), (6, ai (f (19 + p))), (7, ai (plN (kPB f p) 0 (f (37 + p)) (f (19 + p)))), (8, ai (k + 1))]) [6, 7, 8, 1, 2, 9, 10, 11, 0] rfl ?_
            exact ih _ (by omega) ((plV (kPB f p) (plN (kPB f p) 0) (f (37 + p)) (f (19 + p))) k) wh (k + 1) kp2_3 v2_4 by2_5 tr2_6 rfl (by omega) (by rw [hbn]; (first | (rw [if_pos (by omega), if_neg (by omega)]; exact ⟨rfl, rfl⟩) | (rw [if_neg (by omega), if_neg (by omega)]; have q := hbs.2; rw [if_neg (by omega)] at q; exact ⟨hbs.1, q⟩) | (exfalso; omega))) (by omega) (by exact hki3) (by exact vK_tr hvk hk3)
        · skip
          refine v_iconst (pc := 135) dX12_planFor_135 ?_
          refine v_iload (pc := 136) 11 rfl dX12_planFor_136 ?_
          refine v_imul (pc := 138) dX12_planFor_138 ?_
          refine v_iconst (pc := 139) dX12_planFor_139 ?_
          refine v_iadd (pc := 140) dX12_planFor_140 ?_
          refine v_goto (pc := 141) 146 dX12_planFor_141 (by decide) ?_
          refine v_istore (pc := 146) (L2 := [(4, ai ((5 * k) + 5)), (11, ai ((plV (kPB f p) (plN (kPB f p) 0) (f (37 + p)) (f (19 + p))) k)), (10, ai (plN (kPB f p) 0 (if f (37 + p) < 5 * k + 5 then 5 * k + 5 else f (37 + p)) (lsk (f (37 + p)) (f (19 + p)) (5 * k + 5)))), (9, ai (kPB f p (f (19 + p)) k)), (0, ar h), (1, ai p), (2, ai 1), (3, ai bt), (5, ai (f (37 + p))), (6, ai (f (19 + p))), (7, ai (plN (kPB f p) 0 (f (37 + p)) (f (19 + p)))), (8, ai k)]) rfl (by decide) dX12_planFor_146 ?_
          refine v_iload (pc := 148) 1 rfl dX12_planFor_148 ?_
          refine v_iload_n (pc := 150) 7 rfl dX12_planFor_150 ?_
          refine v_icmp_le (pc := 151) 159 dX12_planFor_151 (by decide) (by unfold iB; omega) (by unfold iB; omega) (fun c_12 => ?_) (fun c_12 => ?_)
          · skip
            refine v_iload_n (pc := 159) 7 rfl dX12_planFor_159 ?_
            refine v_istore_n (pc := 160) (L2 := [(3, ai bt), (4, ai ((5 * k) + 5)), (11, ai ((plV (kPB f p) (plN (kPB f p) 0) (f (37 + p)) (f (19 + p))) k)), (10, ai (plN (kPB f p) 0 (if f (37 + p) < 5 * k + 5 then 5 * k + 5 else f (37 + p)) (lsk (f (37 + p)) (f (19 + p)) (5 * k + 5)))), (9, ai (kPB f p (f (19 + p)) k)), (0, ar h), (1, ai p), (2, ai 1), (5, ai (f (37 + p))), (6, ai (f (19 + p))), (7, ai (plN (kPB f p) 0 (f (37 + p)) (f (19 + p)))), (8, ai k)]) rfl (by decide) dX12_planFor_160 ?_
            refine v_iinc (pc := 161) 11 (L2 := [(8, ai (k + 1)), (3, ai bt), (4, ai ((5 * k) + 5)), (11, ai ((plV (kPB f p) (plN (kPB f p) 0) (f (37 + p)) (f (19 + p))) k)), (10, ai (plN (kPB f p) 0 (if f (37 + p) < 5 * k + 5 then 5 * k + 5 else f (37 + p)) (lsk (f (37 + p)) (f (19 + p)) (5 * k + 5)))), (9, ai (kPB f p (f (19 + p)) k)), (0, ar h), (1, ai p), (2, ai 1), (5, ai (f (37 + p))), (6, ai (f (19 + p))), (7, ai (plN (kPB f p) 0 (f (37 + p)) (f (19 + p))))]) rfl rfl (by decide) dX12_planFor_161 ?_
            refine v_goto (pc := 164) 54 dX12_planFor_164 (by decide) ?_
            refine v_wsub (ws2 := [((ad 1), cn 0 936 f), ((ad 14), cn 0 252 kp2_3), (h, co 12 (mO ad v2_4)), ((ad 9), cn 0 6 by2_5), ((ad 10), cn 1 64 tr2_6)]) [4, 0, 1, 2, 3] rfl rfl ?_
            refine v_sub (L2 := [(0, ar h), (1, ai p), (2, ai 1), (3, ai bt), (4, ai ((5 * k) + 5)), (5, ai (f (37 + p))), (6, ai (f (19 + p))), (7, ai (plN (kPB f p) 0 (f (37 + p)) (f (19 + p)))), (8, ai (k + 1))]) [6, 7, 8, 1, 2, 9, 10, 11, 0] rfl ?_
            exact ih _ (by omega) bt ((5 * k) + 5) (k + 1) kp2_3 v2_4 by2_5 tr2_6 rfl (by omega) (by rw [hbn]; (first | (rw [if_pos (by omega), if_neg (by omega)]; exact ⟨rfl, rfl⟩) | (rw [if_neg (by omega), if_neg (by omega)]; have q := hbs.2; rw [if_neg (by omega)] at q; exact ⟨hbs.1, q⟩) | (exfalso; omega))) (by omega) (by exact hki3) (by exact vK_tr hvk hk3)
          · skip
            refine v_iload (pc := 154) 1 rfl dX12_planFor_154 ?_
            refine v_goto (pc := 156) 160 dX12_planFor_156 (by decide) ?_
            refine v_istore_n (pc := 160) (L2 := [(3, ai ((plV (kPB f p) (plN (kPB f p) 0) (f (37 + p)) (f (19 + p))) k)), (4, ai ((5 * k) + 5)), (11, ai ((plV (kPB f p) (plN (kPB f p) 0) (f (37 + p)) (f (19 + p))) k)), (10, ai (plN (kPB f p) 0 (if f (37 + p) < 5 * k + 5 then 5 * k + 5 else f (37 + p)) (lsk (f (37 + p)) (f (19 + p)) (5 * k + 5)))), (9, ai (kPB f p (f (19 + p)) k)), (0, ar h), (1, ai p), (2, ai 1), (5, ai (f (37 + p))), (6, ai (f (19 + p))), (7, ai (plN (kPB f p) 0 (f (37 + p)) (f (19 + p)))), (8, ai k)]) rfl (by decide) dX12_planFor_160 ?_
            refine v_iinc (pc := 161) 11 (L2 := [(8, ai (k + 1)), (3, ai ((plV (kPB f p) (plN (kPB f p) 0) (f (37 + p)) (f (19 + p))) k)), (4, ai ((5 * k) + 5)), (11, ai ((plV (kPB f p) (plN (kPB f p) 0) (f (37 + p)) (f (19 + p))) k)), (10, ai (plN (kPB f p) 0 (if f (37 + p) < 5 * k + 5 then 5 * k + 5 else f (37 + p)) (lsk (f (37 + p)) (f (19 + p)) (5 * k + 5)))), (9, ai (kPB f p (f (19 + p)) k)), (0, ar h), (1, ai p), (2, ai 1), (5, ai (f (37 + p))), (6, ai (f (19 + p))), (7, ai (plN (kPB f p) 0 (f (37 + p)) (f (19 + p))))]) rfl rfl (by decide) dX12_planFor_161 ?_
            refine v_goto (pc := 164) 54 dX12_planFor_164 (by decide) ?_
            refine v_wsub (ws2 := [((ad 1), cn 0 936 f), ((ad 14), cn 0 252 kp2_3), (h, co 12 (mO ad v2_4)), ((ad 9), cn 0 6 by2_5), ((ad 10), cn 1 64 tr2_6)]) [4, 0, 1, 2, 3] rfl rfl ?_
            refine v_sub (L2 := [(0, ar h), (1, ai p), (2, ai 1), (3, ai ((plV (kPB f p) (plN (kPB f p) 0) (f (37 + p)) (f (19 + p))) k)), (4, ai ((5 * k) + 5)), (5, ai (f (37 + p))), (6, ai (f (19 + p))), (7, ai (plN (kPB f p) 0 (f (37 + p)) (f (19 + p)))), (8, ai (k + 1))]) [6, 7, 8, 1, 2, 9, 10, 11, 0] rfl ?_
            exact ih _ (by omega) ((plV (kPB f p) (plN (kPB f p) 0) (f (37 + p)) (f (19 + p))) k) ((5 * k) + 5) (k + 1) kp2_3 v2_4 by2_5 tr2_6 rfl (by omega) (by rw [hbn]; (first | (rw [if_pos (by omega), if_neg (by omega)]; exact ⟨rfl, rfl⟩) | (rw [if_neg (by omega), if_neg (by omega)]; have q := hbs.2; rw [if_neg (by omega)] at q; exact ⟨hbs.1, q⟩) | (exfalso; omega))) (by omega) (by exact hki3) (by exact vK_tr hvk hk3)
  refine v_sub (L2 := [(0, ar h), (1, ai p), (2, ai 1), (3, ai (-1)), (4, ai 0), (5, ai (f (37 + p))), (6, ai (f (19 + p))), (7, ai (plN (kPB f p) 0 (f (37 + p)) (f (19 + p)))), (8, ai 0)]) [6, 7, 8, 5, 4, 3, 2, 1, 0] rfl ?_
  exact lp54 _ (-1) 0 0 kp v by0 tr0 rfl (by omega) (by exact ⟨rfl, rfl⟩) (by omega) (by exact hki) (by exact vK_rf v)
set_option maxHeartbeats 4000000 in
set_option maxRecDepth 100000 in
theorem c_planFor_2 {gS : sG} (ad : Nat → Nat) (v : Nat → Int) (h : Nat) (f : Int → Int) (by0 : Int → Int) (tr0 : Int → Int) (kp : Int → Int) (p : Int) (hS : SOK f) (hp0 : 0 ≤ p ∧ p < 6) (hki : KI f p kp) : Ct gS (S := (Int → Int) × (Int → Int) × (Nat → Int) × (Int → Int) × (Int → Int)) yX12_planFor cX12_planFor 12 (some .int) 7 195 0 0 [ar h, ai p, ai 2] [((ad 1), cn 0 936 f), ((ad 14), cn 0 252 kp), (h, co 12 (mO ad v)), ((ad 9), cn 0 6 by0), ((ad 10), cn 1 64 tr0)] (fun q => q ∈ ([] : aW)) (fun u => u.1 = f ∧ KI f p u.2.1 ∧ vK v u.2.2.1 ∧ u.2.2.1 15 = plA f p 1) (fun u => some (ai (plN (kPB f p) 2 (f (37 + p)) (f (19 + p))))) (fun u => [((ad 1), cn 0 936 u.1), ((ad 14), cn 0 252 u.2.1), (h, co 12 (mO ad u.2.2.1)), ((ad 9), cn 0 6 u.2.2.2.1), ((ad 10), cn 1 64 u.2.2.2.2)]) := by
  refine ct_I RX12 [(0, ar h), (1, ai p), (2, ai 2)] (by decide) rfl (Nat.le_of_ble_eq_true rfl) rfl (fun x hgS hro hret => ?_)
  subst hgS
  obtain ⟨hg, hSp, hSh, hSs, hSb, hSt, hwf⟩ := id hS
  obtain ⟨hg0, hg1, hg2, hg3, hg4, hg5, hg6, hg7⟩ := id hg
  have hf := hSp p hp0.1 hp0.2
  obtain ⟨hp, hf1, hf2, hf3, hf4, hf5, hf6, hf7, hf8⟩ := id hf
  have hNb := plN_b (B := kPB f p) (fun _ _ => kPB_b) 1
  have hn0 := hNb (f (37 + p)) (f (19 + p)) (by omega) (by omega)
  show V x cX12_planFor RX12 12 (rmU 7 195 0 0) [((ad 1), cn 0 936 f), ((ad 14), cn 0 252 kp), (h, co 12 (mO ad v)), ((ad 9), cn 0 6 by0), ((ad 10), cn 1 64 tr0)] 0 [(0, ar h), (1, ai p), (2, ai 2)] [] 0 0
  refine v_iload_n (pc := 0) 2 rfl dX12_planFor_0 ?_
  refine v_if_ne (pc := 1) 14 dX12_planFor_1 (by decide) (by unfold iB; omega) (fun c_1 => ?_) (fun c_1 => by exfalso; omega)
  refine v_iconst (pc := 14) dX12_planFor_14 ?_
  refine v_istore_n (pc := 15) (L2 := [(3, ai (-1)), (0, ar h), (1, ai p), (2, ai 2)]) rfl (by decide) dX12_planFor_15 ?_
  refine v_iconst (pc := 16) dX12_planFor_16 ?_
  refine v_istore (pc := 17) (L2 := [(4, ai 0), (3, ai (-1)), (0, ar h), (1, ai p), (2, ai 2)]) rfl (by decide) dX12_planFor_17 ?_
  refine v_aload_n (pc := 19) 2 rfl dX12_planFor_19 ?_
  refine v_get (pc := 20) (v := ar (ad 1)) 1 (Or.inr ⟨2, rfl⟩) fl_12_9_12 rfl dX12_planFor_20 ?_
  refine v_bipush (pc := 23) dX12_planFor_23 (by decide) ?_
  refine v_iload_n (pc := 25) 3 rfl dX12_planFor_25 ?_
  refine v_iadd (pc := 26) dX12_planFor_26 ?_
  refine v_iald (pc := 27) (Or.inr ⟨0, rfl⟩) (by omega) (by omega) (by decide) dX12_planFor_27 ?_
  refine v_istore (pc := 28) (L2 := [(5, ai (f (37 + p))), (4, ai 0), (3, ai (-1)), (0, ar h), (1, ai p), (2, ai 2)]) rfl (by decide) dX12_planFor_28 ?_
  refine v_aload_n (pc := 30) 3 rfl dX12_planFor_30 ?_
  refine v_get (pc := 31) (v := ar (ad 1)) 1 (Or.inr ⟨2, rfl⟩) fl_12_9_12 rfl dX12_planFor_31 ?_
  refine v_bipush (pc := 34) dX12_planFor_34 (by decide) ?_
  refine v_iload_n (pc := 36) 4 rfl dX12_planFor_36 ?_
  refine v_iadd (pc := 37) dX12_planFor_37 ?_
  refine v_iald (pc := 38) (Or.inr ⟨0, rfl⟩) (by omega) (by omega) (by decide) dX12_planFor_38 ?_
  refine v_istore (pc := 39) (L2 := [(6, ai (f (19 + p))), (5, ai (f (37 + p))), (4, ai 0), (3, ai (-1)), (0, ar h), (1, ai p), (2, ai 2)]) rfl (by decide) dX12_planFor_39 ?_
  refine v_aload_n (pc := 41) 4 rfl dX12_planFor_41 ?_
  refine v_iload_n (pc := 42) 5 rfl dX12_planFor_42 ?_
  refine v_iload_n (pc := 43) 6 rfl dX12_planFor_43 ?_
  refine v_iconst (pc := 44) dX12_planFor_44 ?_
  refine v_isub (pc := 45) dX12_planFor_45 ?_
  refine v_callV (pc := 46) [0, 1, 2, 3, 4] [] [] (As := [ai p, ai 1]) (rest := []) (c_planFor_1 ad v h f by0 tr0 kp p (by assumption) (by first | omega | assumption) (by assumption)) (c := 12) rfl (Or.inr ⟨2, rfl⟩) wl_X12_193 wi_X12_planFor wv_X12_X12_planFor_X12_planFor wk_X12_planFor wz_X12 md_X12_planFor rfl (Nat.le_of_ble_eq_true rfl) ⟨Nat.le_of_ble_eq_true rfl, Nat.le_of_ble_eq_true rfl, Nat.le_of_ble_eq_true rfl, Nat.le_of_ble_eq_true rfl⟩ rfl rfl rfl rfl (by decide) ro_nil dX12_planFor_46 (fun u hu => ?_)
  obtain ⟨f2_2, kp2_3, v2_4, by2_5, tr2_6⟩ := u
  have g_7 : f2_2 = f ∧ KI f p kp2_3 ∧ vK v v2_4 ∧ v2_4 15 = plA f p 0 := hu
  show V x cX12_planFor RX12 12 (rmU 7 195 0 0) [((ad 1), cn 0 936 f2_2), ((ad 14), cn 0 252 kp2_3), (h, co 12 (mO ad v2_4)), ((ad 9), cn 0 6 by2_5), ((ad 10), cn 1 64 tr2_6)] 49 [(6, ai (f (19 + p))), (5, ai (f (37 + p))), (4, ai 0), (3, ai (-1)), (0, ar h), (1, ai p), (2, ai 2)] [ai (plN (kPB f p) 1 (f (37 + p)) (f (19 + p)))] 0 0
  have hf2 := g_7.1
  have hki2 := g_7.2.1
  have hk2 := g_7.2.2.1
  refine v_ws (ws2 := [((ad 1), cn 0 936 f), ((ad 14), cn 0 252 kp2_3), (h, co 12 (mO ad v2_4)), ((ad 9), cn 0 6 by2_5), ((ad 10), cn 1 64 tr2_6)]) (by rw [hf2]) ?_
  refine v_istore (pc := 49) (L2 := [(7, ai (plN (kPB f p) 1 (f (37 + p)) (f (19 + p)))), (6, ai (f (19 + p))), (5, ai (f (37 + p))), (4, ai 0), (3, ai (-1)), (0, ar h), (1, ai p), (2, ai 2)]) rfl (by decide) dX12_planFor_49 ?_
  refine v_iconst (pc := 51) dX12_planFor_51 ?_
  refine v_istore (pc := 52) (L2 := [(8, ai 0), (7, ai (plN (kPB f p) 1 (f (37 + p)) (f (19 + p)))), (6, ai (f (19 + p))), (5, ai (f (37 + p))), (4, ai 0), (3, ai (-1)), (0, ar h), (1, ai p), (2, ai 2)]) rfl (by decide) dX12_planFor_52 ?_
  have lp54 : ∀ (mm : Nat) (bt : Int) (wh : Int) (k : Int) (kp1 : Int → Int) (v1 : Nat → Int) (by1 : Int → Int) (tr1 : Int → Int), (12 - k).toNat = mm → (0 ≤ k ∧ k ≤ 12) → (bt = (bst (plV (kPB f p) (plN (kPB f p) 1) (f (37 + p)) (f (19 + p))) k.toNat).1 ∧ wh = if k = 0 then 0 else 5 * (bst (plV (kPB f p) (plN (kPB f p) 1) (f (37 + p)) (f (19 + p))) k.toNat).2 + 5) → (-1 ≤ bt ∧ bt ≤ 100000000 ∧ (k = 0 → bt = -1)) → (KI f p kp1) → (vK v v1) → V x cX12_planFor RX12 12 (rmU 7 195 0 0) [((ad 1), cn 0 936 f), ((ad 14), cn 0 252 kp1), (h, co 12 (mO ad v1)), ((ad 9), cn 0 6 by1), ((ad 10), cn 1 64 tr1)] 54 [(0, ar h), (1, ai p), (2, ai 2), (3, ai bt), (4, ai wh), (5, ai (f (37 + p))), (6, ai (f (19 + p))), (7, ai (plN (kPB f p) 1 (f (37 + p)) (f (19 + p)))), (8, ai k)] [] 0 0 := by
    intro mm
    induction mm using Nat.strongRecOn with
    | _ mm ih =>
      intro bt wh k kp1 v1 by1 tr1 hmm hk hbs hbb hkp hvk
      have hbn : bst (plV (kPB f p) (plN (kPB f p) 1) (f (37 + p)) (f (19 + p))) (k + 1).toNat = if bt < (plV (kPB f p) (plN (kPB f p) 1) (f (37 + p)) (f (19 + p))) k then ((plV (kPB f p) (plN (kPB f p) 1) (f (37 + p)) (f (19 + p))) k, k) else bst (plV (kPB f p) (plN (kPB f p) 1) (f (37 + p)) (f (19 + p))) k.toNat := by rw [show (k + 1).toNat = k.toNat + 1 by omega, bst_succ, show ((k.toNat : Nat) : Int) = k by omega, ← hbs.1]
      refine v_iload (pc := 54) 8 rfl dX12_planFor_54 ?_
      refine v_bipush (pc := 56) dX12_planFor_56 (by decide) ?_
      refine v_icmp_ge (pc := 58) 167 dX12_planFor_58 (by decide) (by unfold iB; omega) (by unfold iB; omega) (fun c_8 => ?_) (fun c_8 => ?_)
      · skip
        refine v_aload_n (pc := 167) 0 rfl dX12_planFor_167 ?_
        refine v_iload (pc := 168) 4 rfl dX12_planFor_168 ?_
        refine v_put (pc := 170) 15 2 rfl fl_12_199_12 ck_12 ft_12_15 (okV_i _) (Nat.le_of_ble_eq_true rfl) (ws2 := [((ad 1), cn 0 936 f), ((ad 14), cn 0 252 kp1), (h, co 12 (mO ad (nup v1 15 wh))), ((ad 9), cn 0 6 by1), ((ad 10), cn 1 64 tr1)]) rfl dX12_planFor_170 ?_
        refine v_iload_n (pc := 173) 3 rfl dX12_planFor_173 ?_
        exact hret (f, kp1, (nup v1 15 wh), by1, tr1) _ _ _ _ _ _ (by (have e12 : k = 12 := (by omega)); subst e12; have q := hbs.2; rw [if_neg (by omega)] at q; exact ⟨rfl, hkp, vK_up hvk (by decide) (by decide) (by decide) (by decide), by show nup v1 15 wh 15 = _; rw [nup_s, q]; rfl⟩) (congrArg (fun z => some (ai z)) (by (have e12 : k = 12 := (by omega)); subst e12; rw [hbs.1]; rfl)) rfl (Nat.le_of_ble_eq_true rfl) (Nat.le_of_ble_eq_true rfl) dX12_planFor_174
      · skip
        refine v_aload_n (pc := 61) 0 rfl dX12_planFor_61 ?_
        refine v_iload_n (pc := 62) 1 rfl dX12_planFor_62 ?_
        refine v_iload (pc := 63) 8 rfl dX12_planFor_63 ?_
        refine v_callV (pc := 65) [1, 2, 3, 4] [0] [((ad 1), cn 0 936 f)] (As := [ai p, ai k]) (rest := []) (c_X12_planOdds ad v1 h f by1 tr1 kp1 p k (by assumption) (by assumption) (by assumption) (by assumption) (by first | omega | assumption)) (c := 12) rfl (Or.inr ⟨2, rfl⟩) wl_X12_196 wi_X12_planOdds wv_X12_X12_planOdds_X12_planOdds wk_X12_planOdds wz_X12 md_X12_planOdds rfl (Nat.le_of_ble_eq_true rfl) ⟨Nat.le_of_ble_eq_true rfl, Nat.le_of_ble_eq_true rfl, Nat.le_of_ble_eq_true rfl, Nat.le_of_ble_eq_true rfl⟩ rfl rfl rfl rfl (by decide) (ro_cons (Or.inr ⟨0, rfl, by decide⟩) ro_nil) dX12_planFor_65 (fun u hu => ?_)
        obtain ⟨kp2_9, v2_10, by2_11, tr2_12⟩ := u
        have g_13 : KI f p kp2_9 ∧ vK v1 v2_10 := hu
        show V x cX12_planFor RX12 12 (rmU 7 195 0 0) [((ad 1), cn 0 936 f), ((ad 14), cn 0 252 kp2_9), (h, co 12 (mO ad v2_10)), ((ad 9), cn 0 6 by2_11), ((ad 10), cn 1 64 tr2_12)] 68 [(0, ar h), (1, ai p), (2, ai 2), (3, ai bt), (4, ai wh), (5, ai (f (37 + p))), (6, ai (f (19 + p))), (7, ai (plN (kPB f p) 1 (f (37 + p)) (f (19 + p)))), (8, ai k)] [ai (kPB f p (f (19 + p)) k)] 0 0
        have hki3 := g_13.1
        have hk3 := g_13.2
        have hob := kPB_b (f := f) (p := p) (s := f (19 + p)) (k := k)
        refine v_istore (pc := 68) (L2 := [(9, ai (kPB f p (f (19 + p)) k)), (0, ar h), (1, ai p), (2, ai 2), (3, ai bt), (4, ai wh), (5, ai (f (37 + p))), (6, ai (f (19 + p))), (7, ai (plN (kPB f p) 1 (f (37 + p)) (f (19 + p)))), (8, ai k)]) rfl (by decide) dX12_planFor_68 ?_
        refine v_aload_n (pc := 70) 1 rfl dX12_planFor_70 ?_
        refine v_iload_n (pc := 71) 2 rfl dX12_planFor_71 ?_
        refine v_iconst (pc := 72) dX12_planFor_72 ?_
        refine v_iload (pc := 73) 9 rfl dX12_planFor_73 ?_
        refine v_imul (pc := 75) dX12_planFor_75 ?_
        refine v_iconst (pc := 76) dX12_planFor_76 ?_
        refine v_iadd (pc := 77) dX12_planFor_77 ?_
        refine v_callV (pc := 78) [0] [1, 2, 3, 4] [((ad 14), cn 0 252 kp2_9), (h, co 12 (mO ad v2_10)), ((ad 9), cn 0 6 by2_11), ((ad 10), cn 1 64 tr2_12)] (As := [ai p, ai ((5 * k) + 5)]) (rest := []) (c_X12_learnsBy ad v2_10 h f p ((5 * k) + 5) (by assumption) (by first | omega | assumption)) (c := 12) rfl (Or.inr ⟨2, rfl⟩) wl_X12_167 wi_X12_learnsBy wv_X12_X12_learnsBy_X12_learnsBy wk_X12_learnsBy wz_X12 md_X12_learnsBy rfl (Nat.le_of_ble_eq_true rfl) ⟨Nat.le_of_ble_eq_true rfl, Nat.le_of_ble_eq_true rfl, Nat.le_of_ble_eq_true rfl, Nat.le_of_ble_eq_true rfl⟩ rfl rfl rfl rfl (by decide) (ro_cons (Or.inr ⟨2, rfl, by decide⟩) ro_nil) dX12_planFor_78 (fun u hu => ?_)
        obtain ⟨f2_14, rfl⟩ : ∃ z, z = u := ⟨_, rfl⟩
        have g_15 : f2_14 = kLrn f p ((5 * k) + 5) := hu
        show V x cX12_planFor RX12 12 (rmU 7 195 0 0) [((ad 14), cn 0 252 kp2_9), (h, co 12 (mO ad v2_10)), ((ad 9), cn 0 6 by2_11), ((ad 10), cn 1 64 tr2_12), ((ad 1), cn 0 936 f2_14)] 81 [(9, ai (kPB f p (f (19 + p)) k)), (0, ar h), (1, ai p), (2, ai 2), (3, ai bt), (4, ai wh), (5, ai (f (37 + p))), (6, ai (f (19 + p))), (7, ai (plN (kPB f p) 1 (f (37 + p)) (f (19 + p)))), (8, ai k)] [] 0 0
        refine v_ws (ws2 := [((ad 14), cn 0 252 kp2_9), (h, co 12 (mO ad v2_10)), ((ad 9), cn 0 6 by2_11), ((ad 10), cn 1 64 tr2_12), ((ad 1), cn 0 936 (kLrn f p (5 * k + 5)))]) (by rw [g_15]) ?_
        have hS4 := SOK_lrn hS hp0 (n := 5 * k + 5) (by omega)
        refine v_aload_n (pc := 81) 1 rfl dX12_planFor_81 ?_
        refine v_iload_n (pc := 82) 2 rfl dX12_planFor_82 ?_
        refine v_iload_n (pc := 83) 3 rfl dX12_planFor_83 ?_
        refine v_iconst (pc := 84) dX12_planFor_84 ?_
        refine v_isub (pc := 85) dX12_planFor_85 ?_
        refine v_callV (pc := 86) [4, 0, 1, 2, 3] [] [] (As := [ai p, ai 1]) (rest := []) (c_planFor_1 ad v2_10 h (kLrn f p (5 * k + 5)) by2_11 tr2_12 kp2_9 p (by exact hS4) (by omega) (by exact KI_lrn hki3 hp0 (by omega))) (c := 12) rfl (Or.inr ⟨1, rfl⟩) wl_X12_193 wi_X12_planFor wv_X12_X12_planFor_X12_planFor wk_X12_planFor wz_X12 md_X12_planFor rfl (Nat.le_of_ble_eq_true rfl) ⟨Nat.le_of_ble_eq_true rfl, Nat.le_of_ble_eq_true rfl, Nat.le_of_ble_eq_true rfl, Nat.le_of_ble_eq_true rfl⟩ rfl rfl rfl rfl (by decide) ro_nil dX12_planFor_86 (fun u hu => ?_)
        obtain ⟨f2_16, kp2_17, v2_18, by2_19, tr2_20⟩ := u
        have g_21 : f2_16 = (kLrn f p (5 * k + 5)) ∧ KI (kLrn f p (5 * k + 5)) p kp2_17 ∧ vK v2_10 v2_18 ∧ v2_18 15 = plA (kLrn f p (5 * k + 5)) p 0 := hu
        show V x cX12_planFor RX12 12 (rmU 7 195 0 0) [((ad 1), cn 0 936 f2_16), ((ad 14), cn 0 252 kp2_17), (h, co 12 (mO ad v2_18)), ((ad 9), cn 0 6 by2_19), ((ad 10), cn 1 64 tr2_20)] 89 [(9, ai (kPB f p (f (19 + p)) k)), (0, ar h), (1, ai p), (2, ai 2), (3, ai bt), (4, ai wh), (5, ai (f (37 + p))), (6, ai (f (19 + p))), (7, ai (plN (kPB f p) 1 (f (37 + p)) (f (19 + p)))), (8, ai k)] [ai (plN (kPB (kLrn f p (5 * k + 5)) p) 1 ((kLrn f p (5 * k + 5)) (37 + p)) ((kLrn f p (5 * k + 5)) (19 + p)))] 0 0
        have hf5 := g_21.1
        have hki5 := KI_back g_21.2.1 hp0 (by omega)
        have hk5 := g_21.2.2.1
        refine v_ws (ws2 := [((ad 1), cn 0 936 (kLrn f p (5 * k + 5))), ((ad 14), cn 0 252 kp2_17), (h, co 12 (mO ad v2_18)), ((ad 9), cn 0 6 by2_19), ((ad 10), cn 1 64 tr2_20)]) (by rw [hf5]) ?_
        refine v_eqi (y := (plN (kPB f p) 1 (if f (37 + p) < 5 * k + 5 then 5 * k + 5 else f (37 + p)) (lsk (f (37 + p)) (f (19 + p)) (5 * k + 5)))) (by rw [kPB_lrn hp0 (by omega), kLrn_37, kLrn_19]) ?_
        have hw := hNb (if f (37 + p) < 5 * k + 5 then 5 * k + 5 else f (37 + p)) (lsk (f (37 + p)) (f (19 + p)) (5 * k + 5)) (by split <;> omega) (by split <;> omega)
        refine v_istore (pc := 89) (L2 := [(10, ai (plN (kPB f p) 1 (if f (37 + p) < 5 * k + 5 then 5 * k + 5 else f (37 + p)) (lsk (f (37 + p)) (f (19 + p)) (5 * k + 5)))), (9, ai (kPB f p (f (19 + p)) k)), (0, ar h), (1, ai p), (2, ai 2), (3, ai bt), (4, ai wh), (5, ai (f (37 + p))), (6, ai (f (19 + p))), (7, ai (plN (kPB f p) 1 (f (37 + p)) (f (19 + p)))), (8, ai k)]) rfl (by decide) dX12_planFor_89 ?_
        refine v_aload_n (pc := 91) 2 rfl dX12_planFor_91 ?_
        refine v_get (pc := 92) (v := ar (ad 1)) 1 (Or.inr ⟨2, rfl⟩) fl_12_9_12 rfl dX12_planFor_92 ?_
        refine v_bipush (pc := 95) dX12_planFor_95 (by decide) ?_
        refine v_iload_n (pc := 97) 3 rfl dX12_planFor_97 ?_
        refine v_iadd (pc := 98) dX12_planFor_98 ?_
        refine v_iload (pc := 99) 7 rfl dX12_planFor_99 ?_
        refine v_iast (pc := 101) 0 rfl (by omega) (by omega) (by decide) (ws2 := [((ad 1), cn 0 936 (aup (kLrn f p (5 * k + 5)) (37 + p) (f (37 + p)))), ((ad 14), cn 0 252 kp2_17), (h, co 12 (mO ad v2_18)), ((ad 9), cn 0 6 by2_19), ((ad 10), cn 1 64 tr2_20)]) rfl dX12_planFor_101 ?_
        refine v_aload_n (pc := 102) 2 rfl dX12_planFor_102 ?_
        refine v_get (pc := 103) (v := ar (ad 1)) 1 (Or.inr ⟨2, rfl⟩) fl_12_9_12 rfl dX12_planFor_103 ?_
        refine v_bipush (pc := 106) dX12_planFor_106 (by decide) ?_
        refine v_iload_n (pc := 108) 3 rfl dX12_planFor_108 ?_
        refine v_iadd (pc := 109) dX12_planFor_109 ?_
        refine v_iload (pc := 110) 8 rfl dX12_planFor_110 ?_
        refine v_iast (pc := 112) 0 rfl (by omega) (by omega) (by decide) (ws2 := [((ad 1), cn 0 936 (aup (aup (kLrn f p (5 * k + 5)) (37 + p) (f (37 + p))) (19 + p) (f (19 + p)))), ((ad 14), cn 0 252 kp2_17), (h, co 12 (mO ad v2_18)), ((ad 9), cn 0 6 by2_19), ((ad 10), cn 1 64 tr2_20)]) rfl dX12_planFor_112 ?_
        refine v_ws (ws2 := [((ad 1), cn 0 936 f), ((ad 14), cn 0 252 kp2_17), (h, co 12 (mO ad v2_18)), ((ad 9), cn 0 6 by2_19), ((ad 10), cn 1 64 tr2_20)]) (by rw [kLrn_back]) ?_
        refine v_iload (pc := 113) 1 rfl dX12_planFor_113 ?_
        refine v_iload (pc := 115) 0 rfl dX12_planFor_115 ?_
        refine v_imul (pc := 117) dX12_planFor_117 ?_
        refine v_bipush (pc := 118) dX12_planFor_118 (by decide) ?_
        refine v_iload (pc := 120) 1 rfl dX12_planFor_120 ?_
        refine v_isub (pc := 122) dX12_planFor_122 ?_
        refine v_iload (pc := 123) 9 rfl dX12_planFor_123 ?_
        refine v_imul (pc := 125) dX12_planFor_125 ?_
        refine v_iadd (pc := 126) dX12_planFor_126 ?_
        refine v_eqi (y := (plV (kPB f p) (plN (kPB f p) 1) (f (37 + p)) (f (19 + p))) k) rfl ?_
        have hvb := plV_b (B := kPB f p) (P := plN (kPB f p) 1) (sc := f (37 + p)) (sk := f (19 + p)) (k := k) (fun _ _ => kPB_b) (fun a b c d => plN_b (fun _ _ => kPB_b) 1 a b c d) (by omega) (by omega)
        refine v_istore (pc := 127) (L2 := [(11, ai ((plV (kPB f p) (plN (kPB f p) 1) (f (37 + p)) (f (19 + p))) k)), (10, ai (plN (kPB f p) 1 (if f (37 + p) < 5 * k + 5 then 5 * k + 5 else f (37 + p)) (lsk (f (37 + p)) (f (19 + p)) (5 * k + 5)))), (9, ai (kPB f p (f (19 + p)) k)), (0, ar h), (1, ai p), (2, ai 2), (3, ai bt), (4, ai wh), (5, ai (f (37 + p))), (6, ai (f (19 + p))), (7, ai (plN (kPB f p) 1 (f (37 + p)) (f (19 + p)))), (8, ai k)]) rfl (by decide) dX12_planFor_127 ?_
        refine v_iload (pc := 129) 0 rfl dX12_planFor_129 ?_
        refine v_iload_n (pc := 131) 6 rfl dX12_planFor_131 ?_
        refine v_icmp_le (pc := 132) 144 dX12_planFor_132 (by decide) (by unfold iB; omega) (by unfold iB; omega) (fun c_22 => ?_) (fun c_22 => ?_)
        · skip
          refine v_iload (pc := 144) 7 rfl dX12_planFor_144 ?_
          refine v_istore (pc := 146) (L2 := [(4, ai wh), (11, ai ((plV (kPB f p) (plN (kPB f p) 1) (f (37 + p)) (f (19 + p))) k)), (10, ai (plN (kPB f p) 1 (if f (37 + p) < 5 * k + 5 then 5 * k + 5 else f (37 + p)) (lsk (f (37 + p)) (f (19 + p)) (5 * k + 5)))), (9, ai (kPB f p (f (19 + p)) k)), (0, ar h), (1, ai p), (2, ai 2), (3, ai bt), (5, ai (f (37 + p))), (6, ai (f (19 + p))), (7, ai (plN (kPB f p) 1 (f (37 + p)) (f (19 + p)))), (8, ai k)]) rfl (by decide) dX12_planFor_146 ?_
          refine v_iload (pc := 148) 1 rfl dX12_planFor_148 ?_
          refine v_iload_n (pc := 150) 7 rfl dX12_planFor_150 ?_
          refine v_icmp_le (pc := 151) 159 dX12_planFor_151 (by decide) (by unfold iB; omega) (by unfold iB; omega) (fun c_23 => ?_) (fun c_23 => ?_)
          · skip
            refine v_iload_n (pc := 159) 7 rfl dX12_planFor_159 ?_
            refine v_istore_n (pc := 160) (L2 := [(3, ai bt), (4, ai wh), (11, ai ((plV (kPB f p) (plN (kPB f p) 1) (f (37 + p)) (f (19 + p))) k)), (10, ai (plN (kPB f p) 1 (if f (37 + p) < 5 * k + 5 then 5 * k + 5 else f (37 + p)) (lsk (f (37 + p)) (f (19 + p)) (5 * k + 5)))), (9, ai (kPB f p (f (19 + p)) k)), (0, ar h), (1, ai p), (2, ai 2), (5, ai (f (37 + p))), (6, ai (f (19 + p))), (7, ai (plN (kPB f p) 1 (f (37 + p)) (f (19 + p)))), (8, ai k)]) rfl (by decide) dX12_planFor_160 ?_
            refine v_iinc (pc := 161) 11 (L2 := [(8, ai (k + 1)), (3, ai bt), (4, ai wh), (11, ai ((plV (kPB f p) (plN (kPB f p) 1) (f (37 + p)) (f (19 + p))) k)), (10, ai (plN (kPB f p) 1 (if f (37 + p) < 5 * k + 5 then 5 * k + 5 else f (37 + p)) (lsk (f (37 + p)) (f (19 + p)) (5 * k + 5)))), (9, ai (kPB f p (f (19 + p)) k)), (0, ar h), (1, ai p), (2, ai 2), (5, ai (f (37 + p))), (6, ai (f (19 + p))), (7, ai (plN (kPB f p) 1 (f (37 + p)) (f (19 + p))))]) rfl rfl (by decide) dX12_planFor_161 ?_
            refine v_goto (pc := 164) 54 dX12_planFor_164 (by decide) ?_
            refine v_sub (L2 := [(0, ar h), (1, ai p), (2, ai 2), (3, ai bt), (4, ai wh), (5, ai (f (37 + p))), (6, ai (f (19 + p))), (7, ai (plN (kPB f p) 1 (f (37 + p)) (f (19 + p)))), (8, ai (k + 1))]) [6, 7, 8, 1, 2, 9, 10, 11, 0] rfl ?_
            exact ih _ (by omega) bt wh (k + 1) kp2_17 v2_18 by2_19 tr2_20 rfl (by omega) (by rw [hbn]; (first | (rw [if_pos (by omega), if_neg (by omega)]; exact ⟨rfl, rfl⟩) | (rw [if_neg (by omega), if_neg (by omega)]; have q := hbs.2; rw [if_neg (by omega)] at q; exact ⟨hbs.1, q⟩) | (exfalso; omega))) (by omega) (by exact hki5) (by exact vK_tr hvk (vK_tr hk3 hk5))
          · skip
            refine v_iload (pc := 154) 1 rfl dX12_planFor_154 ?_
            refine v_goto (pc := 156) 160 dX12_planFor_156 (by decide) ?_
            refine v_istore_n (pc := 160) (L2 := [(3, ai ((plV (kPB f p) (plN (kPB f p) 1) (f (37 + p)) (f (19 + p))) k)), (4, ai wh), (11, ai ((plV (kPB f p) (plN (kPB f p) 1) (f (37 + p)) (f (19 + p))) k)), (10, ai (plN (kPB f p) 1 (if f (37 + p) < 5 * k + 5 then 5 * k + 5 else f (37 + p)) (lsk (f (37 + p)) (f (19 + p)) (5 * k + 5)))), (9, ai (kPB f p (f (19 + p)) k)), (0, ar h), (1, ai p), (2, ai 2), (5, ai (f (37 + p))), (6, ai (f (19 + p))), (7, ai (plN (kPB f p) 1 (f (37 + p)) (f (19 + p)))), (8, ai k)]) rfl (by decide) dX12_planFor_160 ?_
            refine v_iinc (pc := 161) 11 (L2 := [(8, ai (k + 1)), (3, ai ((plV (kPB f p) (plN (kPB f p) 1) (f (37 + p)) (f (19 + p))) k)), (4, ai wh), (11, ai ((plV (kPB f p) (plN (kPB f p) 1) (f (37 + p)) (f (19 + p))) k)), (10, ai (plN (kPB f p) 1 (if f (37 + p) < 5 * k + 5 then 5 * k + 5 else f (37 + p)) (lsk (f (37 + p)) (f (19 + p)) (5 * k + 5)))), (9, ai (kPB f p (f (19 + p)) k)), (0, ar h), (1, ai p), (2, ai 2), (5, ai (f (37 + p))), (6, ai (f (19 + p))), (7, ai (plN (kPB f p) 1 (f (37 + p)) (f (19 + p))))]) rfl rfl (by decide) dX12_planFor_161 ?_
            refine v_goto (pc := 164) 54 dX12_planFor_164 (by decide) ?_
            refine v_sub (L2 := [(0, ar h), (1, ai p), (2, ai 2), (3, ai ((plV (kPB f p) (plN (kPB f p) 1) (f (37 + p)) (f (19 + p))) k)), (4, ai wh), (5, ai (f (37 + p))), (6, ai (f (19 + p))), (7, ai (plN (kPB f p) 1 (f (37 + p)) (f (19 + p)))), (8, ai (k + 1))]) [6, 7, 8, 1, 2, 9, 10, 11, 0] rfl ?_
            exact ih _ (by omega) ((plV (kPB f p) (plN (kPB f p) 1) (f (37 + p)) (f (19 + p))) k) wh (k + 1) kp2_17 v2_18 by2_19 tr2_20 rfl (by omega) (by rw [hbn]; (first | (rw [if_pos (by omega), if_neg (by omega)]; exact ⟨rfl, rfl⟩) | (rw [if_neg (by omega), if_neg (by omega)]; have q := hbs.2; rw [if_neg (by omega)] at q; exact ⟨hbs.1, q⟩) | (exfalso; omega))) (by omega) (by exact hki5) (by exact vK_tr hvk (vK_tr hk3 hk5))
        · skip
          refine v_iconst (pc := 135) dX12_planFor_135 ?_
          refine v_iload (pc := 136) 11 rfl dX12_planFor_136 ?_
          refine v_imul (pc := 138) dX12_planFor_138 ?_
          refine v_iconst (pc := 139) dX12_planFor_139 ?_
          refine v_iadd (pc := 140) dX12_planFor_140 ?_
          refine v_goto (pc := 141) 146 dX12_planFor_141 (by decide) ?_
          refine v_istore (pc := 146) (L2 := [(4, ai ((5 * k) + 5)), (11, ai ((plV (kPB f p) (plN (kPB f p) 1) (f (37 + p)) (f (19 + p))) k)), (10, ai (plN (kPB f p) 1 (if f (37 + p) < 5 * k + 5 then 5 * k + 5 else f (37 + p)) (lsk (f (37 + p)) (f (19 + p)) (5 * k + 5)))), (9, ai (kPB f p (f (19 + p)) k)), (0, ar h), (1, ai p), (2, ai 2), (3, ai bt), (5, ai (f (37 + p))), (6, ai (f (19 + p))), (7, ai (plN (kPB f p) 1 (f (37 + p)) (f (19 + p)))), (8, ai k)]) rfl (by decide) dX12_planFor_146 ?_
          refine v_iload (pc := 148) 1 rfl dX12_planFor_148 ?_
          refine v_iload_n (pc := 150) 7 rfl dX12_planFor_150 ?_
          refine v_icmp_le (pc := 151) 159 dX12_planFor_151 (by decide) (by unfold iB; omega) (by unfold iB; omega) (fun c_24 => ?_) (fun c_24 => ?_)
          · skip
            refine v_iload_n (pc := 159) 7 rfl dX12_planFor_159 ?_
            refine v_istore_n (pc := 160) (L2 := [(3, ai bt), (4, ai ((5 * k) + 5)), (11, ai ((plV (kPB f p) (plN (kPB f p) 1) (f (37 + p)) (f (19 + p))) k)), (10, ai (plN (kPB f p) 1 (if f (37 + p) < 5 * k + 5 then 5 * k + 5 else f (37 + p)) (lsk (f (37 + p)) (f (19 + p)) (5 * k + 5)))), (9, ai (kPB f p (f (19 + p)) k)), (0, ar h), (1, ai p), (2, ai 2), (5, ai (f (37 + p))), (6, ai (f (19 + p))), (7, ai (plN (kPB f p) 1 (f (37 + p)) (f (19 + p)))), (8, ai k)]) rfl (by decide) dX12_planFor_160 ?_
            refine v_iinc (pc := 161) 11 (L2 := [(8, ai (k + 1)), (3, ai bt), (4, ai ((5 * k) + 5)), (11, ai ((plV (kPB f p) (plN (kPB f p) 1) (f (37 + p)) (f (19 + p))) k)), (10, ai (plN (kPB f p) 1 (if f (37 + p) < 5 * k + 5 then 5 * k + 5 else f (37 + p)) (lsk (f (37 + p)) (f (19 + p)) (5 * k + 5)))), (9, ai (kPB f p (f (19 + p)) k)), (0, ar h), (1, ai p), (2, ai 2), (5, ai (f (37 + p))), (6, ai (f (19 + p))), (7, ai (plN (kPB f p) 1 (f (37 + p)) (f (19 + p))))]) rfl rfl (by decide) dX12_planFor_161 ?_
            refine v_goto (pc := 164) 54 dX12_planFor_164 (by decide) ?_
            refine v_sub (L2 := [(0, ar h), (1, ai p), (2, ai 2), (3, ai bt), (4, ai ((5 * k) + 5)), (5, ai (f (37 + p))), (6, ai (f (19 + p))), (7, ai (plN (kPB f p) 1 (f (37 + p)) (f (19 + p)))), (8, ai (k + 1))]) [6, 7, 8, 1, 2, 9, 10, 11, 0] rfl ?_
            exact ih _ (by omega) bt ((5 * k) + 5) (k + 1) kp2_17 v2_18 by2_19 tr2_20 rfl (by omega) (by rw [hbn]; (first | (rw [if_pos (by omega), if_neg (by omega)]; exact ⟨rfl, rfl⟩) | (rw [if_neg (by omega), if_neg (by omega)]; have q := hbs.2; rw [if_neg (by omega)] at q; exact ⟨hbs.1, q⟩) | (exfalso; omega))) (by omega) (by exact hki5) (by exact vK_tr hvk (vK_tr hk3 hk5))
          · skip
            refine v_iload (pc := 154) 1 rfl dX12_planFor_154 ?_
            refine v_goto (pc := 156) 160 dX12_planFor_156 (by decide) ?_
            refine v_istore_n (pc := 160) (L2 := [(3, ai ((plV (kPB f p) (plN (kPB f p) 1) (f (37 + p)) (f (19 + p))) k)), (4, ai ((5 * k) + 5)), (11, ai ((plV (kPB f p) (plN (kPB f p) 1) (f (37 + p)) (f (19 + p))) k)), (10, ai (plN (kPB f p) 1 (if f (37 + p) < 5 * k + 5 then 5 * k + 5 else f (37 + p)) (lsk (f (37 + p)) (f (19 + p)) (5 * k + 5)))), (9, ai (kPB f p (f (19 + p)) k)), (0, ar h), (1, ai p), (2, ai 2), (5, ai (f (37 + p))), (6, ai (f (19 + p))), (7, ai (plN (kPB f p) 1 (f (37 + p)) (f (19 + p)))), (8, ai k)]) rfl (by decide) dX12_planFor_160 ?_
            refine v_iinc (pc := 161) 11 (L2 := [(8, ai (k + 1)), (3, ai ((plV (kPB f p) (plN (kPB f p) 1) (f (37 + p)) (f (19 + p))) k)), (4, ai ((5 * k) + 5)), (11, ai ((plV (kPB f p) (plN (kPB f p) 1) (f (37 + p)) (f (19 + p))) k)), (10, ai (plN (kPB f p) 1 (if f (37 + p) < 5 * k + 5 then 5 * k + 5 else f (37 + p)) (lsk (f (37 + p)) (f (19 + p)) (5 * k + 5)))), (9, ai (kPB f p (f (19 + p)) k)), (0, ar h), (1, ai p), (2, ai 2), (5, ai (f (37 + p))), (6, ai (f (19 + p))), (7, ai (plN (kPB f p) 1 (f (37 + p)) (f (19 + p))))]) rfl rfl (by decide) dX12_planFor_161 ?_
            refine v_goto (pc := 164) 54 dX12_planFor_164 (by decide) ?_
            refine v_sub (L2 := [(0, ar h), (1, ai p), (2, ai 2), (3, ai ((plV (kPB f p) (plN (kPB f p) 1) (f (37 + p)) (f (19 + p))) k)), (4, ai ((5 * k) + 5)), (5, ai (f (37 + p))), (6, ai (f (19 + p))), (7, ai (plN (kPB f p) 1 (f (37 + p)) (f (19 + p)))), (8, ai (k + 1))]) [6, 7, 8, 1, 2, 9, 10, 11, 0] rfl ?_
            exact ih _ (by omega) ((plV (kPB f p) (plN (kPB f p) 1) (f (37 + p)) (f (19 + p))) k) ((5 * k) + 5) (k + 1) kp2_17 v2_18 by2_19 tr2_20 rfl (by omega) (by rw [hbn]; (first | (rw [if_pos (by omega), if_neg (by omega)]; exact ⟨rfl, rfl⟩) | (rw [if_neg (by omega), if_neg (by omega)]; have q := hbs.2; rw [if_neg (by omega)] at q; exact ⟨hbs.1, q⟩) | (exfalso; omega))) (by omega) (by exact hki5) (by exact vK_tr hvk (vK_tr hk3 hk5))
  refine v_sub (L2 := [(0, ar h), (1, ai p), (2, ai 2), (3, ai (-1)), (4, ai 0), (5, ai (f (37 + p))), (6, ai (f (19 + p))), (7, ai (plN (kPB f p) 1 (f (37 + p)) (f (19 + p)))), (8, ai 0)]) [6, 7, 8, 5, 4, 3, 2, 1, 0] rfl ?_
  exact lp54 _ (-1) 0 0 kp2_3 v2_4 by2_5 tr2_6 rfl (by omega) (by exact ⟨rfl, rfl⟩) (by omega) (by exact hki2) (by exact hk2)
set_option maxHeartbeats 4000000 in
set_option maxRecDepth 100000 in
theorem c_planFor_3 {gS : sG} (ad : Nat → Nat) (v : Nat → Int) (h : Nat) (f : Int → Int) (by0 : Int → Int) (tr0 : Int → Int) (kp : Int → Int) (p : Int) (hS : SOK f) (hp0 : 0 ≤ p ∧ p < 6) (hki : KI f p kp) : Ct gS (S := (Int → Int) × (Int → Int) × (Nat → Int) × (Int → Int) × (Int → Int)) yX12_planFor cX12_planFor 12 (some .int) 8 226 0 0 [ar h, ai p, ai 3] [((ad 1), cn 0 936 f), ((ad 14), cn 0 252 kp), (h, co 12 (mO ad v)), ((ad 9), cn 0 6 by0), ((ad 10), cn 1 64 tr0)] (fun q => q ∈ ([] : aW)) (fun u => u.1 = f ∧ KI f p u.2.1 ∧ vK v u.2.2.1 ∧ u.2.2.1 15 = plA f p 2) (fun u => some (ai (plN (kPB f p) 3 (f (37 + p)) (f (19 + p))))) (fun u => [((ad 1), cn 0 936 u.1), ((ad 14), cn 0 252 u.2.1), (h, co 12 (mO ad u.2.2.1)), ((ad 9), cn 0 6 u.2.2.2.1), ((ad 10), cn 1 64 u.2.2.2.2)]) := by
  refine ct_I RX12 [(0, ar h), (1, ai p), (2, ai 3)] (by decide) rfl (Nat.le_of_ble_eq_true rfl) rfl (fun x hgS hro hret => ?_)
  subst hgS
  obtain ⟨hg, hSp, hSh, hSs, hSb, hSt, hwf⟩ := id hS
  obtain ⟨hg0, hg1, hg2, hg3, hg4, hg5, hg6, hg7⟩ := id hg
  have hf := hSp p hp0.1 hp0.2
  obtain ⟨hp, hf1, hf2, hf3, hf4, hf5, hf6, hf7, hf8⟩ := id hf
  have hNb := plN_b (B := kPB f p) (fun _ _ => kPB_b) 2
  have hn0 := hNb (f (37 + p)) (f (19 + p)) (by omega) (by omega)
  show V x cX12_planFor RX12 12 (rmU 8 226 0 0) [((ad 1), cn 0 936 f), ((ad 14), cn 0 252 kp), (h, co 12 (mO ad v)), ((ad 9), cn 0 6 by0), ((ad 10), cn 1 64 tr0)] 0 [(0, ar h), (1, ai p), (2, ai 3)] [] 0 0
  refine v_iload_n (pc := 0) 2 rfl dX12_planFor_0 ?_
  refine v_if_ne (pc := 1) 14 dX12_planFor_1 (by decide) (by unfold iB; omega) (fun c_1 => ?_) (fun c_1 => by exfalso; omega)
  refine v_iconst (pc := 14) dX12_planFor_14 ?_
  refine v_istore_n (pc := 15) (L2 := [(3, ai (-1)), (0, ar h), (1, ai p), (2, ai 3)]) rfl (by decide) dX12_planFor_15 ?_
  refine v_iconst (pc := 16) dX12_planFor_16 ?_
  refine v_istore (pc := 17) (L2 := [(4, ai 0), (3, ai (-1)), (0, ar h), (1, ai p), (2, ai 3)]) rfl (by decide) dX12_planFor_17 ?_
  refine v_aload_n (pc := 19) 2 rfl dX12_planFor_19 ?_
  refine v_get (pc := 20) (v := ar (ad 1)) 1 (Or.inr ⟨2, rfl⟩) fl_12_9_12 rfl dX12_planFor_20 ?_
  refine v_bipush (pc := 23) dX12_planFor_23 (by decide) ?_
  refine v_iload_n (pc := 25) 3 rfl dX12_planFor_25 ?_
  refine v_iadd (pc := 26) dX12_planFor_26 ?_
  refine v_iald (pc := 27) (Or.inr ⟨0, rfl⟩) (by omega) (by omega) (by decide) dX12_planFor_27 ?_
  refine v_istore (pc := 28) (L2 := [(5, ai (f (37 + p))), (4, ai 0), (3, ai (-1)), (0, ar h), (1, ai p), (2, ai 3)]) rfl (by decide) dX12_planFor_28 ?_
  refine v_aload_n (pc := 30) 3 rfl dX12_planFor_30 ?_
  refine v_get (pc := 31) (v := ar (ad 1)) 1 (Or.inr ⟨2, rfl⟩) fl_12_9_12 rfl dX12_planFor_31 ?_
  refine v_bipush (pc := 34) dX12_planFor_34 (by decide) ?_
  refine v_iload_n (pc := 36) 4 rfl dX12_planFor_36 ?_
  refine v_iadd (pc := 37) dX12_planFor_37 ?_
  refine v_iald (pc := 38) (Or.inr ⟨0, rfl⟩) (by omega) (by omega) (by decide) dX12_planFor_38 ?_
  refine v_istore (pc := 39) (L2 := [(6, ai (f (19 + p))), (5, ai (f (37 + p))), (4, ai 0), (3, ai (-1)), (0, ar h), (1, ai p), (2, ai 3)]) rfl (by decide) dX12_planFor_39 ?_
  refine v_aload_n (pc := 41) 4 rfl dX12_planFor_41 ?_
  refine v_iload_n (pc := 42) 5 rfl dX12_planFor_42 ?_
  refine v_iload_n (pc := 43) 6 rfl dX12_planFor_43 ?_
  refine v_iconst (pc := 44) dX12_planFor_44 ?_
  refine v_isub (pc := 45) dX12_planFor_45 ?_
  refine v_callV (pc := 46) [0, 1, 2, 3, 4] [] [] (As := [ai p, ai 2]) (rest := []) (c_planFor_2 ad v h f by0 tr0 kp p (by assumption) (by first | omega | assumption) (by assumption)) (c := 12) rfl (Or.inr ⟨2, rfl⟩) wl_X12_193 wi_X12_planFor wv_X12_X12_planFor_X12_planFor wk_X12_planFor wz_X12 md_X12_planFor rfl (Nat.le_of_ble_eq_true rfl) ⟨Nat.le_of_ble_eq_true rfl, Nat.le_of_ble_eq_true rfl, Nat.le_of_ble_eq_true rfl, Nat.le_of_ble_eq_true rfl⟩ rfl rfl rfl rfl (by decide) ro_nil dX12_planFor_46 (fun u hu => ?_)
  obtain ⟨f2_2, kp2_3, v2_4, by2_5, tr2_6⟩ := u
  have g_7 : f2_2 = f ∧ KI f p kp2_3 ∧ vK v v2_4 ∧ v2_4 15 = plA f p 1 := hu
  show V x cX12_planFor RX12 12 (rmU 8 226 0 0) [((ad 1), cn 0 936 f2_2), ((ad 14), cn 0 252 kp2_3), (h, co 12 (mO ad v2_4)), ((ad 9), cn 0 6 by2_5), ((ad 10), cn 1 64 tr2_6)] 49 [(6, ai (f (19 + p))), (5, ai (f (37 + p))), (4, ai 0), (3, ai (-1)), (0, ar h), (1, ai p), (2, ai 3)] [ai (plN (kPB f p) 2 (f (37 + p)) (f (19 + p)))] 0 0
  have hf2 := g_7.1
  have hki2 := g_7.2.1
  have hk2 := g_7.2.2.1
  refine v_ws (ws2 := [((ad 1), cn 0 936 f), ((ad 14), cn 0 252 kp2_3), (h, co 12 (mO ad v2_4)), ((ad 9), cn 0 6 by2_5), ((ad 10), cn 1 64 tr2_6)]) (by rw [hf2]) ?_
  refine v_istore (pc := 49) (L2 := [(7, ai (plN (kPB f p) 2 (f (37 + p)) (f (19 + p)))), (6, ai (f (19 + p))), (5, ai (f (37 + p))), (4, ai 0), (3, ai (-1)), (0, ar h), (1, ai p), (2, ai 3)]) rfl (by decide) dX12_planFor_49 ?_
  refine v_iconst (pc := 51) dX12_planFor_51 ?_
  refine v_istore (pc := 52) (L2 := [(8, ai 0), (7, ai (plN (kPB f p) 2 (f (37 + p)) (f (19 + p)))), (6, ai (f (19 + p))), (5, ai (f (37 + p))), (4, ai 0), (3, ai (-1)), (0, ar h), (1, ai p), (2, ai 3)]) rfl (by decide) dX12_planFor_52 ?_
  have lp54 : ∀ (mm : Nat) (bt : Int) (wh : Int) (k : Int) (kp1 : Int → Int) (v1 : Nat → Int) (by1 : Int → Int) (tr1 : Int → Int), (12 - k).toNat = mm → (0 ≤ k ∧ k ≤ 12) → (bt = (bst (plV (kPB f p) (plN (kPB f p) 2) (f (37 + p)) (f (19 + p))) k.toNat).1 ∧ wh = if k = 0 then 0 else 5 * (bst (plV (kPB f p) (plN (kPB f p) 2) (f (37 + p)) (f (19 + p))) k.toNat).2 + 5) → (-1 ≤ bt ∧ bt ≤ 100000000 ∧ (k = 0 → bt = -1)) → (KI f p kp1) → (vK v v1) → V x cX12_planFor RX12 12 (rmU 8 226 0 0) [((ad 1), cn 0 936 f), ((ad 14), cn 0 252 kp1), (h, co 12 (mO ad v1)), ((ad 9), cn 0 6 by1), ((ad 10), cn 1 64 tr1)] 54 [(0, ar h), (1, ai p), (2, ai 3), (3, ai bt), (4, ai wh), (5, ai (f (37 + p))), (6, ai (f (19 + p))), (7, ai (plN (kPB f p) 2 (f (37 + p)) (f (19 + p)))), (8, ai k)] [] 0 0 := by
    intro mm
    induction mm using Nat.strongRecOn with
    | _ mm ih =>
      intro bt wh k kp1 v1 by1 tr1 hmm hk hbs hbb hkp hvk
      have hbn : bst (plV (kPB f p) (plN (kPB f p) 2) (f (37 + p)) (f (19 + p))) (k + 1).toNat = if bt < (plV (kPB f p) (plN (kPB f p) 2) (f (37 + p)) (f (19 + p))) k then ((plV (kPB f p) (plN (kPB f p) 2) (f (37 + p)) (f (19 + p))) k, k) else bst (plV (kPB f p) (plN (kPB f p) 2) (f (37 + p)) (f (19 + p))) k.toNat := by rw [show (k + 1).toNat = k.toNat + 1 by omega, bst_succ, show ((k.toNat : Nat) : Int) = k by omega, ← hbs.1]
      refine v_iload (pc := 54) 8 rfl dX12_planFor_54 ?_
      refine v_bipush (pc := 56) dX12_planFor_56 (by decide) ?_
      refine v_icmp_ge (pc := 58) 167 dX12_planFor_58 (by decide) (by unfold iB; omega) (by unfold iB; omega) (fun c_8 => ?_) (fun c_8 => ?_)
      · skip
        refine v_aload_n (pc := 167) 0 rfl dX12_planFor_167 ?_
        refine v_iload (pc := 168) 4 rfl dX12_planFor_168 ?_
        refine v_put (pc := 170) 15 2 rfl fl_12_199_12 ck_12 ft_12_15 (okV_i _) (Nat.le_of_ble_eq_true rfl) (ws2 := [((ad 1), cn 0 936 f), ((ad 14), cn 0 252 kp1), (h, co 12 (mO ad (nup v1 15 wh))), ((ad 9), cn 0 6 by1), ((ad 10), cn 1 64 tr1)]) rfl dX12_planFor_170 ?_
        refine v_iload_n (pc := 173) 3 rfl dX12_planFor_173 ?_
        exact hret (f, kp1, (nup v1 15 wh), by1, tr1) _ _ _ _ _ _ (by (have e12 : k = 12 := (by omega)); subst e12; have q := hbs.2; rw [if_neg (by omega)] at q; exact ⟨rfl, hkp, vK_up hvk (by decide) (by decide) (by decide) (by decide), by show nup v1 15 wh 15 = _; rw [nup_s, q]; rfl⟩) (congrArg (fun z => some (ai z)) (by (have e12 : k = 12 := (by omega)); subst e12; rw [hbs.1]; rfl)) rfl (Nat.le_of_ble_eq_true rfl) (Nat.le_of_ble_eq_true rfl) dX12_planFor_174
      · skip
        refine v_aload_n (pc := 61) 0 rfl dX12_planFor_61 ?_
        refine v_iload_n (pc := 62) 1 rfl dX12_planFor_62 ?_
        refine v_iload (pc := 63) 8 rfl dX12_planFor_63 ?_
        refine v_callV (pc := 65) [1, 2, 3, 4] [0] [((ad 1), cn 0 936 f)] (As := [ai p, ai k]) (rest := []) (c_X12_planOdds ad v1 h f by1 tr1 kp1 p k (by assumption) (by assumption) (by assumption) (by assumption) (by first | omega | assumption)) (c := 12) rfl (Or.inr ⟨2, rfl⟩) wl_X12_196 wi_X12_planOdds wv_X12_X12_planOdds_X12_planOdds wk_X12_planOdds wz_X12 md_X12_planOdds rfl (Nat.le_of_ble_eq_true rfl) ⟨Nat.le_of_ble_eq_true rfl, Nat.le_of_ble_eq_true rfl, Nat.le_of_ble_eq_true rfl, Nat.le_of_ble_eq_true rfl⟩ rfl rfl rfl rfl (by decide) (ro_cons (Or.inr ⟨0, rfl, by decide⟩) ro_nil) dX12_planFor_65 (fun u hu => ?_)
        obtain ⟨kp2_9, v2_10, by2_11, tr2_12⟩ := u
        have g_13 : KI f p kp2_9 ∧ vK v1 v2_10 := hu
        show V x cX12_planFor RX12 12 (rmU 8 226 0 0) [((ad 1), cn 0 936 f), ((ad 14), cn 0 252 kp2_9), (h, co 12 (mO ad v2_10)), ((ad 9), cn 0 6 by2_11), ((ad 10), cn 1 64 tr2_12)] 68 [(0, ar h), (1, ai p), (2, ai 3), (3, ai bt), (4, ai wh), (5, ai (f (37 + p))), (6, ai (f (19 + p))), (7, ai (plN (kPB f p) 2 (f (37 + p)) (f (19 + p)))), (8, ai k)] [ai (kPB f p (f (19 + p)) k)] 0 0
        have hki3 := g_13.1
        have hk3 := g_13.2
        have hob := kPB_b (f := f) (p := p) (s := f (19 + p)) (k := k)
        refine v_istore (pc := 68) (L2 := [(9, ai (kPB f p (f (19 + p)) k)), (0, ar h), (1, ai p), (2, ai 3), (3, ai bt), (4, ai wh), (5, ai (f (37 + p))), (6, ai (f (19 + p))), (7, ai (plN (kPB f p) 2 (f (37 + p)) (f (19 + p)))), (8, ai k)]) rfl (by decide) dX12_planFor_68 ?_
        refine v_aload_n (pc := 70) 1 rfl dX12_planFor_70 ?_
        refine v_iload_n (pc := 71) 2 rfl dX12_planFor_71 ?_
        refine v_iconst (pc := 72) dX12_planFor_72 ?_
        refine v_iload (pc := 73) 9 rfl dX12_planFor_73 ?_
        refine v_imul (pc := 75) dX12_planFor_75 ?_
        refine v_iconst (pc := 76) dX12_planFor_76 ?_
        refine v_iadd (pc := 77) dX12_planFor_77 ?_
        refine v_callV (pc := 78) [0] [1, 2, 3, 4] [((ad 14), cn 0 252 kp2_9), (h, co 12 (mO ad v2_10)), ((ad 9), cn 0 6 by2_11), ((ad 10), cn 1 64 tr2_12)] (As := [ai p, ai ((5 * k) + 5)]) (rest := []) (c_X12_learnsBy ad v2_10 h f p ((5 * k) + 5) (by assumption) (by first | omega | assumption)) (c := 12) rfl (Or.inr ⟨2, rfl⟩) wl_X12_167 wi_X12_learnsBy wv_X12_X12_learnsBy_X12_learnsBy wk_X12_learnsBy wz_X12 md_X12_learnsBy rfl (Nat.le_of_ble_eq_true rfl) ⟨Nat.le_of_ble_eq_true rfl, Nat.le_of_ble_eq_true rfl, Nat.le_of_ble_eq_true rfl, Nat.le_of_ble_eq_true rfl⟩ rfl rfl rfl rfl (by decide) (ro_cons (Or.inr ⟨2, rfl, by decide⟩) ro_nil) dX12_planFor_78 (fun u hu => ?_)
        obtain ⟨f2_14, rfl⟩ : ∃ z, z = u := ⟨_, rfl⟩
        have g_15 : f2_14 = kLrn f p ((5 * k) + 5) := hu
        show V x cX12_planFor RX12 12 (rmU 8 226 0 0) [((ad 14), cn 0 252 kp2_9), (h, co 12 (mO ad v2_10)), ((ad 9), cn 0 6 by2_11), ((ad 10), cn 1 64 tr2_12), ((ad 1), cn 0 936 f2_14)] 81 [(9, ai (kPB f p (f (19 + p)) k)), (0, ar h), (1, ai p), (2, ai 3), (3, ai bt), (4, ai wh), (5, ai (f (37 + p))), (6, ai (f (19 + p))), (7, ai (plN (kPB f p) 2 (f (37 + p)) (f (19 + p)))), (8, ai k)] [] 0 0
        refine v_ws (ws2 := [((ad 14), cn 0 252 kp2_9), (h, co 12 (mO ad v2_10)), ((ad 9), cn 0 6 by2_11), ((ad 10), cn 1 64 tr2_12), ((ad 1), cn 0 936 (kLrn f p (5 * k + 5)))]) (by rw [g_15]) ?_
        have hS4 := SOK_lrn hS hp0 (n := 5 * k + 5) (by omega)
        refine v_aload_n (pc := 81) 1 rfl dX12_planFor_81 ?_
        refine v_iload_n (pc := 82) 2 rfl dX12_planFor_82 ?_
        refine v_iload_n (pc := 83) 3 rfl dX12_planFor_83 ?_
        refine v_iconst (pc := 84) dX12_planFor_84 ?_
        refine v_isub (pc := 85) dX12_planFor_85 ?_
        refine v_callV (pc := 86) [4, 0, 1, 2, 3] [] [] (As := [ai p, ai 2]) (rest := []) (c_planFor_2 ad v2_10 h (kLrn f p (5 * k + 5)) by2_11 tr2_12 kp2_9 p (by exact hS4) (by omega) (by exact KI_lrn hki3 hp0 (by omega))) (c := 12) rfl (Or.inr ⟨1, rfl⟩) wl_X12_193 wi_X12_planFor wv_X12_X12_planFor_X12_planFor wk_X12_planFor wz_X12 md_X12_planFor rfl (Nat.le_of_ble_eq_true rfl) ⟨Nat.le_of_ble_eq_true rfl, Nat.le_of_ble_eq_true rfl, Nat.le_of_ble_eq_true rfl, Nat.le_of_ble_eq_true rfl⟩ rfl rfl rfl rfl (by decide) ro_nil dX12_planFor_86 (fun u hu => ?_)
        obtain ⟨f2_16, kp2_17, v2_18, by2_19, tr2_20⟩ := u
        have g_21 : f2_16 = (kLrn f p (5 * k + 5)) ∧ KI (kLrn f p (5 * k + 5)) p kp2_17 ∧ vK v2_10 v2_18 ∧ v2_18 15 = plA (kLrn f p (5 * k + 5)) p 1 := hu
        show V x cX12_planFor RX12 12 (rmU 8 226 0 0) [((ad 1), cn 0 936 f2_16), ((ad 14), cn 0 252 kp2_17), (h, co 12 (mO ad v2_18)), ((ad 9), cn 0 6 by2_19), ((ad 10), cn 1 64 tr2_20)] 89 [(9, ai (kPB f p (f (19 + p)) k)), (0, ar h), (1, ai p), (2, ai 3), (3, ai bt), (4, ai wh), (5, ai (f (37 + p))), (6, ai (f (19 + p))), (7, ai (plN (kPB f p) 2 (f (37 + p)) (f (19 + p)))), (8, ai k)] [ai (plN (kPB (kLrn f p (5 * k + 5)) p) 2 ((kLrn f p (5 * k + 5)) (37 + p)) ((kLrn f p (5 * k + 5)) (19 + p)))] 0 0
        have hf5 := g_21.1
        have hki5 := KI_back g_21.2.1 hp0 (by omega)
        have hk5 := g_21.2.2.1
        refine v_ws (ws2 := [((ad 1), cn 0 936 (kLrn f p (5 * k + 5))), ((ad 14), cn 0 252 kp2_17), (h, co 12 (mO ad v2_18)), ((ad 9), cn 0 6 by2_19), ((ad 10), cn 1 64 tr2_20)]) (by rw [hf5]) ?_
        refine v_eqi (y := (plN (kPB f p) 2 (if f (37 + p) < 5 * k + 5 then 5 * k + 5 else f (37 + p)) (lsk (f (37 + p)) (f (19 + p)) (5 * k + 5)))) (by rw [kPB_lrn hp0 (by omega), kLrn_37, kLrn_19]) ?_
        have hw := hNb (if f (37 + p) < 5 * k + 5 then 5 * k + 5 else f (37 + p)) (lsk (f (37 + p)) (f (19 + p)) (5 * k + 5)) (by split <;> omega) (by split <;> omega)
        refine v_istore (pc := 89) (L2 := [(10, ai (plN (kPB f p) 2 (if f (37 + p) < 5 * k + 5 then 5 * k + 5 else f (37 + p)) (lsk (f (37 + p)) (f (19 + p)) (5 * k + 5)))), (9, ai (kPB f p (f (19 + p)) k)), (0, ar h), (1, ai p), (2, ai 3), (3, ai bt), (4, ai wh), (5, ai (f (37 + p))), (6, ai (f (19 + p))), (7, ai (plN (kPB f p) 2 (f (37 + p)) (f (19 + p)))), (8, ai k)]) rfl (by decide) dX12_planFor_89 ?_
        refine v_aload_n (pc := 91) 2 rfl dX12_planFor_91 ?_
        refine v_get (pc := 92) (v := ar (ad 1)) 1 (Or.inr ⟨2, rfl⟩) fl_12_9_12 rfl dX12_planFor_92 ?_
        refine v_bipush (pc := 95) dX12_planFor_95 (by decide) ?_
        refine v_iload_n (pc := 97) 3 rfl dX12_planFor_97 ?_
        refine v_iadd (pc := 98) dX12_planFor_98 ?_
        refine v_iload (pc := 99) 7 rfl dX12_planFor_99 ?_
        refine v_iast (pc := 101) 0 rfl (by omega) (by omega) (by decide) (ws2 := [((ad 1), cn 0 936 (aup (kLrn f p (5 * k + 5)) (37 + p) (f (37 + p)))), ((ad 14), cn 0 252 kp2_17), (h, co 12 (mO ad v2_18)), ((ad 9), cn 0 6 by2_19), ((ad 10), cn 1 64 tr2_20)]) rfl dX12_planFor_101 ?_
        refine v_aload_n (pc := 102) 2 rfl dX12_planFor_102 ?_
        refine v_get (pc := 103) (v := ar (ad 1)) 1 (Or.inr ⟨2, rfl⟩) fl_12_9_12 rfl dX12_planFor_103 ?_
        refine v_bipush (pc := 106) dX12_planFor_106 (by decide) ?_
        refine v_iload_n (pc := 108) 3 rfl dX12_planFor_108 ?_
        refine v_iadd (pc := 109) dX12_planFor_109 ?_
        refine v_iload (pc := 110) 8 rfl dX12_planFor_110 ?_
        refine v_iast (pc := 112) 0 rfl (by omega) (by omega) (by decide) (ws2 := [((ad 1), cn 0 936 (aup (aup (kLrn f p (5 * k + 5)) (37 + p) (f (37 + p))) (19 + p) (f (19 + p)))), ((ad 14), cn 0 252 kp2_17), (h, co 12 (mO ad v2_18)), ((ad 9), cn 0 6 by2_19), ((ad 10), cn 1 64 tr2_20)]) rfl dX12_planFor_112 ?_
        refine v_ws (ws2 := [((ad 1), cn 0 936 f), ((ad 14), cn 0 252 kp2_17), (h, co 12 (mO ad v2_18)), ((ad 9), cn 0 6 by2_19), ((ad 10), cn 1 64 tr2_20)]) (by rw [kLrn_back]) ?_
        refine v_iload (pc := 113) 1 rfl dX12_planFor_113 ?_
        refine v_iload (pc := 115) 0 rfl dX12_planFor_115 ?_
        refine v_imul (pc := 117) dX12_planFor_117 ?_
        refine v_bipush (pc := 118) dX12_planFor_118 (by decide) ?_
        refine v_iload (pc := 120) 1 rfl dX12_planFor_120 ?_
        refine v_isub (pc := 122) dX12_planFor_122 ?_
        refine v_iload (pc := 123) 9 rfl dX12_planFor_123 ?_
        refine v_imul (pc := 125) dX12_planFor_125 ?_
        refine v_iadd (pc := 126) dX12_planFor_126 ?_
        refine v_eqi (y := (plV (kPB f p) (plN (kPB f p) 2) (f (37 + p)) (f (19 + p))) k) rfl ?_
        have hvb := plV_b (B := kPB f p) (P := plN (kPB f p) 2) (sc := f (37 + p)) (sk := f (19 + p)) (k := k) (fun _ _ => kPB_b) (fun a b c d => plN_b (fun _ _ => kPB_b) 2 a b c d) (by omega) (by omega)
        refine v_istore (pc := 127) (L2 := [(11, ai ((plV (kPB f p) (plN (kPB f p) 2) (f (37 + p)) (f (19 + p))) k)), (10, ai (plN (kPB f p) 2 (if f (37 + p) < 5 * k + 5 then 5 * k + 5 else f (37 + p)) (lsk (f (37 + p)) (f (19 + p)) (5 * k + 5)))), (9, ai (kPB f p (f (19 + p)) k)), (0, ar h), (1, ai p), (2, ai 3), (3, ai bt), (4, ai wh), (5, ai (f (37 + p))), (6, ai (f (19 + p))), (7, ai (plN (kPB f p) 2 (f (37 + p)) (f (19 + p)))), (8, ai k)]) rfl (by decide) dX12_planFor_127 ?_
        refine v_iload (pc := 129) 0 rfl dX12_planFor_129 ?_
        refine v_iload_n (pc := 131) 6 rfl dX12_planFor_131 ?_
        refine v_icmp_le (pc := 132) 144 dX12_planFor_132 (by decide) (by unfold iB; omega) (by unfold iB; omega) (fun c_22 => ?_) (fun c_22 => ?_)
        · skip
          refine v_iload (pc := 144) 7 rfl dX12_planFor_144 ?_
          refine v_istore (pc := 146) (L2 := [(4, ai wh), (11, ai ((plV (kPB f p) (plN (kPB f p) 2) (f (37 + p)) (f (19 + p))) k)), (10, ai (plN (kPB f p) 2 (if f (37 + p) < 5 * k + 5 then 5 * k + 5 else f (37 + p)) (lsk (f (37 + p)) (f (19 + p)) (5 * k + 5)))), (9, ai (kPB f p (f (19 + p)) k)), (0, ar h), (1, ai p), (2, ai 3), (3, ai bt), (5, ai (f (37 + p))), (6, ai (f (19 + p))), (7, ai (plN (kPB f p) 2 (f (37 + p)) (f (19 + p)))), (8, ai k)]) rfl (by decide) dX12_planFor_146 ?_
          refine v_iload (pc := 148) 1 rfl dX12_planFor_148 ?_
          refine v_iload_n (pc := 150) 7 rfl dX12_planFor_150 ?_
          refine v_icmp_le (pc := 151) 159 dX12_planFor_151 (by decide) (by unfold iB; omega) (by unfold iB; omega) (fun c_23 => ?_) (fun c_23 => ?_)
          · skip
            refine v_iload_n (pc := 159) 7 rfl dX12_planFor_159 ?_
            refine v_istore_n (pc := 160) (L2 := [(3, ai bt), (4, ai wh), (11, ai ((plV (kPB f p) (plN (kPB f p) 2) (f (37 + p)) (f (19 + p))) k)), (10, ai (plN (kPB f p) 2 (if f (37 + p) < 5 * k + 5 then 5 * k + 5 else f (37 + p)) (lsk (f (37 + p)) (f (19 + p)) (5 * k + 5)))), (9, ai (kPB f p (f (19 + p)) k)), (0, ar h), (1, ai p), (2, ai 3), (5, ai (f (37 + p))), (6, ai (f (19 + p))), (7, ai (plN (kPB f p) 2 (f (37 + p)) (f (19 + p)))), (8, ai k)]) rfl (by decide) dX12_planFor_160 ?_
            refine v_iinc (pc := 161) 11 (L2 := [(8, ai (k + 1)), (3, ai bt), (4, ai wh), (11, ai ((plV (kPB f p) (plN (kPB f p) 2) (f (37 + p)) (f (19 + p))) k)), (10, ai (plN (kPB f p) 2 (if f (37 + p) < 5 * k + 5 then 5 * k + 5 else f (37 + p)) (lsk (f (37 + p)) (f (19 + p)) (5 * k + 5)))), (9, ai (kPB f p (f (19 + p)) k)), (0, ar h), (1, ai p), (2, ai 3), (5, ai (f (37 + p))), (6, ai (f (19 + p))), (7, ai (plN (kPB f p) 2 (f (37 + p)) (f (19 + p))))]) rfl rfl (by decide) dX12_planFor_161 ?_
            refine v_goto (pc := 164) 54 dX12_planFor_164 (by decide) ?_
            refine v_sub (L2 := [(0, ar h), (1, ai p), (2, ai 3), (3, ai bt), (4, ai wh), (5, ai (f (37 + p))), (6, ai (f (19 + p))), (7, ai (plN (kPB f p) 2 (f (37 + p)) (f (19 + p)))), (8, ai (k + 1))]) [6, 7, 8, 1, 2, 9, 10, 11, 0] rfl ?_
            exact ih _ (by omega) bt wh (k + 1) kp2_17 v2_18 by2_19 tr2_20 rfl (by omega) (by rw [hbn]; (first | (rw [if_pos (by omega), if_neg (by omega)]; exact ⟨rfl, rfl⟩) | (rw [if_neg (by omega), if_neg (by omega)]; have q := hbs.2; rw [if_neg (by omega)] at q; exact ⟨hbs.1, q⟩) | (exfalso; omega))) (by omega) (by exact hki5) (by exact vK_tr hvk (vK_tr hk3 hk5))
          · skip
            refine v_iload (pc := 154) 1 rfl dX12_planFor_154 ?_
            refine v_goto (pc := 156) 160 dX12_planFor_156 (by decide) ?_
            refine v_istore_n (pc := 160) (L2 := [(3, ai ((plV (kPB f p) (plN (kPB f p) 2) (f (37 + p)) (f (19 + p))) k)), (4, ai wh), (11, ai ((plV (kPB f p) (plN (kPB f p) 2) (f (37 + p)) (f (19 + p))) k)), (10, ai (plN (kPB f p) 2 (if f (37 + p) < 5 * k + 5 then 5 * k + 5 else f (37 + p)) (lsk (f (37 + p)) (f (19 + p)) (5 * k + 5)))), (9, ai (kPB f p (f (19 + p)) k)), (0, ar h), (1, ai p), (2, ai 3), (5, ai (f (37 + p))), (6, ai (f (19 + p))), (7, ai (plN (kPB f p) 2 (f (37 + p)) (f (19 + p)))), (8, ai k)]) rfl (by decide) dX12_planFor_160 ?_
            refine v_iinc (pc := 161) 11 (L2 := [(8, ai (k + 1)), (3, ai ((plV (kPB f p) (plN (kPB f p) 2) (f (37 + p)) (f (19 + p))) k)), (4, ai wh), (11, ai ((plV (kPB f p) (plN (kPB f p) 2) (f (37 + p)) (f (19 + p))) k)), (10, ai (plN (kPB f p) 2 (if f (37 + p) < 5 * k + 5 then 5 * k + 5 else f (37 + p)) (lsk (f (37 + p)) (f (19 + p)) (5 * k + 5)))), (9, ai (kPB f p (f (19 + p)) k)), (0, ar h), (1, ai p), (2, ai 3), (5, ai (f (37 + p))), (6, ai (f (19 + p))), (7, ai (plN (kPB f p) 2 (f (37 + p)) (f (19 + p))))]) rfl rfl (by decide) dX12_planFor_161 ?_
            refine v_goto (pc := 164) 54 dX12_planFor_164 (by decide) ?_
            refine v_sub (L2 := [(0, ar h), (1, ai p), (2, ai 3), (3, ai ((plV (kPB f p) (plN (kPB f p) 2) (f (37 + p)) (f (19 + p))) k)), (4, ai wh), (5, ai (f (37 + p))), (6, ai (f (19 + p))), (7, ai (plN (kPB f p) 2 (f (37 + p)) (f (19 + p)))), (8, ai (k + 1))]) [6, 7, 8, 1, 2, 9, 10, 11, 0] rfl ?_
            exact ih _ (by omega) ((plV (kPB f p) (plN (kPB f p) 2) (f (37 + p)) (f (19 + p))) k) wh (k + 1) kp2_17 v2_18 by2_19 tr2_20 rfl (by omega) (by rw [hbn]; (first | (rw [if_pos (by omega), if_neg (by omega)]; exact ⟨rfl, rfl⟩) | (rw [if_neg (by omega), if_neg (by omega)]; have q := hbs.2; rw [if_neg (by omega)] at q; exact ⟨hbs.1, q⟩) | (exfalso; omega))) (by omega) (by exact hki5) (by exact vK_tr hvk (vK_tr hk3 hk5))
        · skip
          refine v_iconst (pc := 135) dX12_planFor_135 ?_
          refine v_iload (pc := 136) 11 rfl dX12_planFor_136 ?_
          refine v_imul (pc := 138) dX12_planFor_138 ?_
          refine v_iconst (pc := 139) dX12_planFor_139 ?_
          refine v_iadd (pc := 140) dX12_planFor_140 ?_
          refine v_goto (pc := 141) 146 dX12_planFor_141 (by decide) ?_
          refine v_istore (pc := 146) (L2 := [(4, ai ((5 * k) + 5)), (11, ai ((plV (kPB f p) (plN (kPB f p) 2) (f (37 + p)) (f (19 + p))) k)), (10, ai (plN (kPB f p) 2 (if f (37 + p) < 5 * k + 5 then 5 * k + 5 else f (37 + p)) (lsk (f (37 + p)) (f (19 + p)) (5 * k + 5)))), (9, ai (kPB f p (f (19 + p)) k)), (0, ar h), (1, ai p), (2, ai 3), (3, ai bt), (5, ai (f (37 + p))), (6, ai (f (19 + p))), (7, ai (plN (kPB f p) 2 (f (37 + p)) (f (19 + p)))), (8, ai k)]) rfl (by decide) dX12_planFor_146 ?_
          refine v_iload (pc := 148) 1 rfl dX12_planFor_148 ?_
          refine v_iload_n (pc := 150) 7 rfl dX12_planFor_150 ?_
          refine v_icmp_le (pc := 151) 159 dX12_planFor_151 (by decide) (by unfold iB; omega) (by unfold iB; omega) (fun c_24 => ?_) (fun c_24 => ?_)
          · skip
            refine v_iload_n (pc := 159) 7 rfl dX12_planFor_159 ?_
            refine v_istore_n (pc := 160) (L2 := [(3, ai bt), (4, ai ((5 * k) + 5)), (11, ai ((plV (kPB f p) (plN (kPB f p) 2) (f (37 + p)) (f (19 + p))) k)), (10, ai (plN (kPB f p) 2 (if f (37 + p) < 5 * k + 5 then 5 * k + 5 else f (37 + p)) (lsk (f (37 + p)) (f (19 + p)) (5 * k + 5)))), (9, ai (kPB f p (f (19 + p)) k)), (0, ar h), (1, ai p), (2, ai 3), (5, ai (f (37 + p))), (6, ai (f (19 + p))), (7, ai (plN (kPB f p) 2 (f (37 + p)) (f (19 + p)))), (8, ai k)]) rfl (by decide) dX12_planFor_160 ?_
            refine v_iinc (pc := 161) 11 (L2 := [(8, ai (k + 1)), (3, ai bt), (4, ai ((5 * k) + 5)), (11, ai ((plV (kPB f p) (plN (kPB f p) 2) (f (37 + p)) (f (19 + p))) k)), (10, ai (plN (kPB f p) 2 (if f (37 + p) < 5 * k + 5 then 5 * k + 5 else f (37 + p)) (lsk (f (37 + p)) (f (19 + p)) (5 * k + 5)))), (9, ai (kPB f p (f (19 + p)) k)), (0, ar h), (1, ai p), (2, ai 3), (5, ai (f (37 + p))), (6, ai (f (19 + p))), (7, ai (plN (kPB f p) 2 (f (37 + p)) (f (19 + p))))]) rfl rfl (by decide) dX12_planFor_161 ?_
            refine v_goto (pc := 164) 54 dX12_planFor_164 (by decide) ?_
            refine v_sub (L2 := [(0, ar h), (1, ai p), (2, ai 3), (3, ai bt), (4, ai ((5 * k) + 5)), (5, ai (f (37 + p))), (6, ai (f (19 + p))), (7, ai (plN (kPB f p) 2 (f (37 + p)) (f (19 + p)))), (8, ai (k + 1))]) [6, 7, 8, 1, 2, 9, 10, 11, 0] rfl ?_
            exact ih _ (by omega) bt ((5 * k) + 5) (k + 1) kp2_17 v2_18 by2_19 tr2_20 rfl (by omega) (by rw [hbn]; (first | (rw [if_pos (by omega), if_neg (by omega)]; exact ⟨rfl, rfl⟩) | (rw [if_neg (by omega), if_neg (by omega)]; have q := hbs.2; rw [if_neg (by omega)] at q; exact ⟨hbs.1, q⟩) | (exfalso; omega))) (by omega) (by exact hki5) (by exact vK_tr hvk (vK_tr hk3 hk5))
          · skip
            refine v_iload (pc := 154) 1 rfl dX12_planFor_154 ?_
            refine v_goto (pc := 156) 160 dX12_planFor_156 (by decide) ?_
            refine v_istore_n (pc := 160) (L2 := [(3, ai ((plV (kPB f p) (plN (kPB f p) 2) (f (37 + p)) (f (19 + p))) k)), (4, ai ((5 * k) + 5)), (11, ai ((plV (kPB f p) (plN (kPB f p) 2) (f (37 + p)) (f (19 + p))) k)), (10, ai (plN (kPB f p) 2 (if f (37 + p) < 5 * k + 5 then 5 * k + 5 else f (37 + p)) (lsk (f (37 + p)) (f (19 + p)) (5 * k + 5)))), (9, ai (kPB f p (f (19 + p)) k)), (0, ar h), (1, ai p), (2, ai 3), (5, ai (f (37 + p))), (6, ai (f (19 + p))), (7, ai (plN (kPB f p) 2 (f (37 + p)) (f (19 + p)))), (8, ai k)]) rfl (by decide) dX12_planFor_160 ?_
            refine v_iinc (pc := 161) 11 (L2 := [(8, ai (k + 1)), (3, ai ((plV (kPB f p) (plN (kPB f p) 2) (f (37 + p)) (f (19 + p))) k)), (4, ai ((5 * k) + 5)), (11, ai ((plV (kPB f p) (plN (kPB f p) 2) (f (37 + p)) (f (19 + p))) k)), (10, ai (plN (kPB f p) 2 (if f (37 + p) < 5 * k + 5 then 5 * k + 5 else f (37 + p)) (lsk (f (37 + p)) (f (19 + p)) (5 * k + 5)))), (9, ai (kPB f p (f (19 + p)) k)), (0, ar h), (1, ai p), (2, ai 3), (5, ai (f (37 + p))), (6, ai (f (19 + p))), (7, ai (plN (kPB f p) 2 (f (37 + p)) (f (19 + p))))]) rfl rfl (by decide) dX12_planFor_161 ?_
            refine v_goto (pc := 164) 54 dX12_planFor_164 (by decide) ?_
            refine v_sub (L2 := [(0, ar h), (1, ai p), (2, ai 3), (3, ai ((plV (kPB f p) (plN (kPB f p) 2) (f (37 + p)) (f (19 + p))) k)), (4, ai ((5 * k) + 5)), (5, ai (f (37 + p))), (6, ai (f (19 + p))), (7, ai (plN (kPB f p) 2 (f (37 + p)) (f (19 + p)))), (8, ai (k + 1))]) [6, 7, 8, 1, 2, 9, 10, 11, 0] rfl ?_
            exact ih _ (by omega) ((plV (kPB f p) (plN (kPB f p) 2) (f (37 + p)) (f (19 + p))) k) ((5 * k) + 5) (k + 1) kp2_17 v2_18 by2_19 tr2_20 rfl (by omega) (by rw [hbn]; (first | (rw [if_pos (by omega), if_neg (by omega)]; exact ⟨rfl, rfl⟩) | (rw [if_neg (by omega), if_neg (by omega)]; have q := hbs.2; rw [if_neg (by omega)] at q; exact ⟨hbs.1, q⟩) | (exfalso; omega))) (by omega) (by exact hki5) (by exact vK_tr hvk (vK_tr hk3 hk5))
  refine v_sub (L2 := [(0, ar h), (1, ai p), (2, ai 3), (3, ai (-1)), (4, ai 0), (5, ai (f (37 + p))), (6, ai (f (19 + p))), (7, ai (plN (kPB f p) 2 (f (37 + p)) (f (19 + p)))), (8, ai 0)]) [6, 7, 8, 5, 4, 3, 2, 1, 0] rfl ?_
  exact lp54 _ (-1) 0 0 kp2_3 v2_4 by2_5 tr2_6 rfl (by omega) (by exact ⟨rfl, rfl⟩) (by omega) (by exact hki2) (by exact hk2)
set_option maxHeartbeats 4000000 in
set_option maxRecDepth 100000 in
theorem c_plans_1 {gS : sG} (ad : Nat → Nat) (v : Nat → Int) (h : Nat) (f : Int → Int) (by0 : Int → Int) (tr0 : Int → Int) (kp : Int → Int) (p : Int) (hS : SOK f) (hp0 : 0 ≤ p ∧ p < 6) : Ct gS (S := (Int → Int) × (Int → Int) × (Nat → Int) × (Int → Int) × (Int → Int)) yX12_plans cX12_plans 4 (some .int) 9 257 0 0 [ar h, ai p, ai 1] [((ad 1), cn 0 936 f), ((ad 14), cn 0 252 kp), (h, co 12 (mO ad v)), ((ad 9), cn 0 6 by0), ((ad 10), cn 1 64 tr0)] (fun q => q ∈ ([] : aW)) (fun u => u.1 = f ∧ vK v u.2.2.1 ∧ u.2.2.1 15 = plA f p 0) (fun u => some (ai (plN (kPB f p) 1 (f (37 + p)) (f (19 + p))))) (fun u => [((ad 1), cn 0 936 u.1), ((ad 14), cn 0 252 u.2.1), (h, co 12 (mO ad u.2.2.1)), ((ad 9), cn 0 6 u.2.2.2.1), ((ad 10), cn 1 64 u.2.2.2.2)]) := by
  refine ct_I RX12 [(0, ar h), (1, ai p), (2, ai 1)] (by decide) rfl (Nat.le_of_ble_eq_true rfl) rfl (fun x hgS hro hret => ?_)
  subst hgS
  show V x cX12_plans RX12 4 (rmU 9 257 0 0) [((ad 1), cn 0 936 f), ((ad 14), cn 0 252 kp), (h, co 12 (mO ad v)), ((ad 9), cn 0 6 by0), ((ad 10), cn 1 64 tr0)] 0 [(0, ar h), (1, ai p), (2, ai 1)] [] 0 0
  refine v_iconst (pc := 0) dX12_plans_0 ?_
  refine v_istore_n (pc := 1) (L2 := [(3, ai 0), (0, ar h), (1, ai p), (2, ai 1)]) rfl (by decide) dX12_plans_1 ?_
  have lp2 : ∀ (mm : Nat) (k : Int) (kp1 : Int → Int), (252 - k).toNat = mm → (0 ≤ k ∧ k ≤ 252) → (∀ j : Int, 0 ≤ j → j < k → kp1 j = -1) → V x cX12_plans RX12 4 (rmU 9 257 0 0) [((ad 1), cn 0 936 f), ((ad 14), cn 0 252 kp1), (h, co 12 (mO ad v)), ((ad 9), cn 0 6 by0), ((ad 10), cn 1 64 tr0)] 2 [(0, ar h), (1, ai p), (2, ai 1), (3, ai k)] [] 0 0 := by
    intro mm
    induction mm using Nat.strongRecOn with
    | _ mm ih =>
      intro k kp1 hmm hk hkp
      refine v_iload_n (pc := 2) 3 rfl dX12_plans_2 ?_
      refine v_sipush (pc := 3) dX12_plans_3 (by decide) ?_
      refine v_icmp_ge (pc := 6) 22 dX12_plans_6 (by decide) (by unfold iB; omega) (by unfold iB; omega) (fun c_1 => ?_) (fun c_1 => ?_)
      · skip
        refine v_aload_n (pc := 22) 0 rfl dX12_plans_22 ?_
        refine v_iload_n (pc := 23) 1 rfl dX12_plans_23 ?_
        refine v_iload_n (pc := 24) 2 rfl dX12_plans_24 ?_
        refine v_callV (pc := 25) [0, 1, 2, 3, 4] [] [] (As := [ai p, ai 1]) (rest := []) (c_planFor_1 ad v h f by0 tr0 kp1 p (by exact hS) (by omega) (by intro s q s0 s1 q0 q1; exact Or.inl (hkp _ (by omega) (by omega)))) (c := 12) rfl (Or.inr ⟨2, rfl⟩) wl_X12_193 wi_X12_planFor wv_X12_X12_planFor_X12_planFor wk_X12_planFor wz_X12 md_X12_planFor rfl (Nat.le_of_ble_eq_true rfl) ⟨Nat.le_of_ble_eq_true rfl, Nat.le_of_ble_eq_true rfl, Nat.le_of_ble_eq_true rfl, Nat.le_of_ble_eq_true rfl⟩ rfl rfl rfl rfl (by decide) ro_nil dX12_plans_25 (fun u hu => ?_)
        obtain ⟨f2_2, kp2_3, v2_4, by2_5, tr2_6⟩ := u
        have g_7 : f2_2 = f ∧ KI f p kp2_3 ∧ vK v v2_4 ∧ v2_4 15 = plA f p 0 := hu
        show V x cX12_plans RX12 4 (rmU 9 257 0 0) [((ad 1), cn 0 936 f2_2), ((ad 14), cn 0 252 kp2_3), (h, co 12 (mO ad v2_4)), ((ad 9), cn 0 6 by2_5), ((ad 10), cn 1 64 tr2_6)] 28 [(0, ar h), (1, ai p), (2, ai 1), (3, ai k)] [ai (plN (kPB f p) 1 (f (37 + p)) (f (19 + p)))] 0 0
        have hgd := g_7
        exact hret (f2_2, kp2_3, v2_4, by2_5, tr2_6) _ _ _ _ _ _ (by exact ⟨hgd.1, hgd.2.2⟩) (congrArg (fun z => some (ai z)) (by rfl)) rfl (Nat.le_of_ble_eq_true rfl) (Nat.le_of_ble_eq_true rfl) dX12_plans_28
      · skip
        refine v_aload_n (pc := 9) 0 rfl dX12_plans_9 ?_
        refine v_get (pc := 10) (v := ar (ad 14)) 14 (Or.inr ⟨2, rfl⟩) fl_12_25_12 rfl dX12_plans_10 ?_
        refine v_iload_n (pc := 13) 3 rfl dX12_plans_13 ?_
        refine v_iconst (pc := 14) dX12_plans_14 ?_
        refine v_iast (pc := 15) 1 rfl (by omega) (by omega) (by decide) (ws2 := [((ad 1), cn 0 936 f), ((ad 14), cn 0 252 (aup kp1 k (-1))), (h, co 12 (mO ad v)), ((ad 9), cn 0 6 by0), ((ad 10), cn 1 64 tr0)]) rfl dX12_plans_15 ?_
        refine v_iinc (pc := 16) 3 (L2 := [(3, ai (k + 1)), (0, ar h), (1, ai p), (2, ai 1)]) rfl rfl (by decide) dX12_plans_16 ?_
        refine v_goto (pc := 19) 2 dX12_plans_19 (by decide) ?_
        refine v_sub (L2 := [(0, ar h), (1, ai p), (2, ai 1), (3, ai (k + 1))]) [1, 2, 3, 0] rfl ?_
        exact ih _ (by omega) (k + 1) (aup kp1 k (-1)) rfl (by omega) (by intro j j0 j1; unfold aup; split <;> first | rfl | exact hkp j j0 (by omega))
  refine v_sub (L2 := [(0, ar h), (1, ai p), (2, ai 1), (3, ai 0)]) [1, 2, 3, 0] rfl ?_
  exact lp2 _ 0 kp rfl (by omega) (by intro j j0 j1; omega)
set_option maxHeartbeats 4000000 in
set_option maxRecDepth 100000 in
theorem c_plans_2 {gS : sG} (ad : Nat → Nat) (v : Nat → Int) (h : Nat) (f : Int → Int) (by0 : Int → Int) (tr0 : Int → Int) (kp : Int → Int) (p : Int) (hS : SOK f) (hp0 : 0 ≤ p ∧ p < 6) : Ct gS (S := (Int → Int) × (Int → Int) × (Nat → Int) × (Int → Int) × (Int → Int)) yX12_plans cX12_plans 4 (some .int) 9 257 0 0 [ar h, ai p, ai 2] [((ad 1), cn 0 936 f), ((ad 14), cn 0 252 kp), (h, co 12 (mO ad v)), ((ad 9), cn 0 6 by0), ((ad 10), cn 1 64 tr0)] (fun q => q ∈ ([] : aW)) (fun u => u.1 = f ∧ vK v u.2.2.1 ∧ u.2.2.1 15 = plA f p 1) (fun u => some (ai (plN (kPB f p) 2 (f (37 + p)) (f (19 + p))))) (fun u => [((ad 1), cn 0 936 u.1), ((ad 14), cn 0 252 u.2.1), (h, co 12 (mO ad u.2.2.1)), ((ad 9), cn 0 6 u.2.2.2.1), ((ad 10), cn 1 64 u.2.2.2.2)]) := by
  refine ct_I RX12 [(0, ar h), (1, ai p), (2, ai 2)] (by decide) rfl (Nat.le_of_ble_eq_true rfl) rfl (fun x hgS hro hret => ?_)
  subst hgS
  show V x cX12_plans RX12 4 (rmU 9 257 0 0) [((ad 1), cn 0 936 f), ((ad 14), cn 0 252 kp), (h, co 12 (mO ad v)), ((ad 9), cn 0 6 by0), ((ad 10), cn 1 64 tr0)] 0 [(0, ar h), (1, ai p), (2, ai 2)] [] 0 0
  refine v_iconst (pc := 0) dX12_plans_0 ?_
  refine v_istore_n (pc := 1) (L2 := [(3, ai 0), (0, ar h), (1, ai p), (2, ai 2)]) rfl (by decide) dX12_plans_1 ?_
  have lp2 : ∀ (mm : Nat) (k : Int) (kp1 : Int → Int), (252 - k).toNat = mm → (0 ≤ k ∧ k ≤ 252) → (∀ j : Int, 0 ≤ j → j < k → kp1 j = -1) → V x cX12_plans RX12 4 (rmU 9 257 0 0) [((ad 1), cn 0 936 f), ((ad 14), cn 0 252 kp1), (h, co 12 (mO ad v)), ((ad 9), cn 0 6 by0), ((ad 10), cn 1 64 tr0)] 2 [(0, ar h), (1, ai p), (2, ai 2), (3, ai k)] [] 0 0 := by
    intro mm
    induction mm using Nat.strongRecOn with
    | _ mm ih =>
      intro k kp1 hmm hk hkp
      refine v_iload_n (pc := 2) 3 rfl dX12_plans_2 ?_
      refine v_sipush (pc := 3) dX12_plans_3 (by decide) ?_
      refine v_icmp_ge (pc := 6) 22 dX12_plans_6 (by decide) (by unfold iB; omega) (by unfold iB; omega) (fun c_1 => ?_) (fun c_1 => ?_)
      · skip
        refine v_aload_n (pc := 22) 0 rfl dX12_plans_22 ?_
        refine v_iload_n (pc := 23) 1 rfl dX12_plans_23 ?_
        refine v_iload_n (pc := 24) 2 rfl dX12_plans_24 ?_
        refine v_callV (pc := 25) [0, 1, 2, 3, 4] [] [] (As := [ai p, ai 2]) (rest := []) (c_planFor_2 ad v h f by0 tr0 kp1 p (by exact hS) (by omega) (by intro s q s0 s1 q0 q1; exact Or.inl (hkp _ (by omega) (by omega)))) (c := 12) rfl (Or.inr ⟨2, rfl⟩) wl_X12_193 wi_X12_planFor wv_X12_X12_planFor_X12_planFor wk_X12_planFor wz_X12 md_X12_planFor rfl (Nat.le_of_ble_eq_true rfl) ⟨Nat.le_of_ble_eq_true rfl, Nat.le_of_ble_eq_true rfl, Nat.le_of_ble_eq_true rfl, Nat.le_of_ble_eq_true rfl⟩ rfl rfl rfl rfl (by decide) ro_nil dX12_plans_25 (fun u hu => ?_)
        obtain ⟨f2_2, kp2_3, v2_4, by2_5, tr2_6⟩ := u
        have g_7 : f2_2 = f ∧ KI f p kp2_3 ∧ vK v v2_4 ∧ v2_4 15 = plA f p 1 := hu
        show V x cX12_plans RX12 4 (rmU 9 257 0 0) [((ad 1), cn 0 936 f2_2), ((ad 14), cn 0 252 kp2_3), (h, co 12 (mO ad v2_4)), ((ad 9), cn 0 6 by2_5), ((ad 10), cn 1 64 tr2_6)] 28 [(0, ar h), (1, ai p), (2, ai 2), (3, ai k)] [ai (plN (kPB f p) 2 (f (37 + p)) (f (19 + p)))] 0 0
        have hgd := g_7
        exact hret (f2_2, kp2_3, v2_4, by2_5, tr2_6) _ _ _ _ _ _ (by exact ⟨hgd.1, hgd.2.2⟩) (congrArg (fun z => some (ai z)) (by rfl)) rfl (Nat.le_of_ble_eq_true rfl) (Nat.le_of_ble_eq_true rfl) dX12_plans_28
      · skip
        refine v_aload_n (pc := 9) 0 rfl dX12_plans_9 ?_
        refine v_get (pc := 10) (v := ar (ad 14)) 14 (Or.inr ⟨2, rfl⟩) fl_12_25_12 rfl dX12_plans_10 ?_
        refine v_iload_n (pc := 13) 3 rfl dX12_plans_13 ?_
        refine v_iconst (pc := 14) dX12_plans_14 ?_
        refine v_iast (pc := 15) 1 rfl (by omega) (by omega) (by decide) (ws2 := [((ad 1), cn 0 936 f), ((ad 14), cn 0 252 (aup kp1 k (-1))), (h, co 12 (mO ad v)), ((ad 9), cn 0 6 by0), ((ad 10), cn 1 64 tr0)]) rfl dX12_plans_15 ?_
        refine v_iinc (pc := 16) 3 (L2 := [(3, ai (k + 1)), (0, ar h), (1, ai p), (2, ai 2)]) rfl rfl (by decide) dX12_plans_16 ?_
        refine v_goto (pc := 19) 2 dX12_plans_19 (by decide) ?_
        refine v_sub (L2 := [(0, ar h), (1, ai p), (2, ai 2), (3, ai (k + 1))]) [1, 2, 3, 0] rfl ?_
        exact ih _ (by omega) (k + 1) (aup kp1 k (-1)) rfl (by omega) (by intro j j0 j1; unfold aup; split <;> first | rfl | exact hkp j j0 (by omega))
  refine v_sub (L2 := [(0, ar h), (1, ai p), (2, ai 2), (3, ai 0)]) [1, 2, 3, 0] rfl ?_
  exact lp2 _ 0 kp rfl (by omega) (by intro j j0 j1; omega)
set_option maxHeartbeats 4000000 in
set_option maxRecDepth 100000 in
theorem c_plans_3 {gS : sG} (ad : Nat → Nat) (v : Nat → Int) (h : Nat) (f : Int → Int) (by0 : Int → Int) (tr0 : Int → Int) (kp : Int → Int) (p : Int) (hS : SOK f) (hp0 : 0 ≤ p ∧ p < 6) : Ct gS (S := (Int → Int) × (Int → Int) × (Nat → Int) × (Int → Int) × (Int → Int)) yX12_plans cX12_plans 4 (some .int) 9 257 0 0 [ar h, ai p, ai 3] [((ad 1), cn 0 936 f), ((ad 14), cn 0 252 kp), (h, co 12 (mO ad v)), ((ad 9), cn 0 6 by0), ((ad 10), cn 1 64 tr0)] (fun q => q ∈ ([] : aW)) (fun u => u.1 = f ∧ vK v u.2.2.1 ∧ u.2.2.1 15 = plA f p 2) (fun u => some (ai (plN (kPB f p) 3 (f (37 + p)) (f (19 + p))))) (fun u => [((ad 1), cn 0 936 u.1), ((ad 14), cn 0 252 u.2.1), (h, co 12 (mO ad u.2.2.1)), ((ad 9), cn 0 6 u.2.2.2.1), ((ad 10), cn 1 64 u.2.2.2.2)]) := by
  refine ct_I RX12 [(0, ar h), (1, ai p), (2, ai 3)] (by decide) rfl (Nat.le_of_ble_eq_true rfl) rfl (fun x hgS hro hret => ?_)
  subst hgS
  show V x cX12_plans RX12 4 (rmU 9 257 0 0) [((ad 1), cn 0 936 f), ((ad 14), cn 0 252 kp), (h, co 12 (mO ad v)), ((ad 9), cn 0 6 by0), ((ad 10), cn 1 64 tr0)] 0 [(0, ar h), (1, ai p), (2, ai 3)] [] 0 0
  refine v_iconst (pc := 0) dX12_plans_0 ?_
  refine v_istore_n (pc := 1) (L2 := [(3, ai 0), (0, ar h), (1, ai p), (2, ai 3)]) rfl (by decide) dX12_plans_1 ?_
  have lp2 : ∀ (mm : Nat) (k : Int) (kp1 : Int → Int), (252 - k).toNat = mm → (0 ≤ k ∧ k ≤ 252) → (∀ j : Int, 0 ≤ j → j < k → kp1 j = -1) → V x cX12_plans RX12 4 (rmU 9 257 0 0) [((ad 1), cn 0 936 f), ((ad 14), cn 0 252 kp1), (h, co 12 (mO ad v)), ((ad 9), cn 0 6 by0), ((ad 10), cn 1 64 tr0)] 2 [(0, ar h), (1, ai p), (2, ai 3), (3, ai k)] [] 0 0 := by
    intro mm
    induction mm using Nat.strongRecOn with
    | _ mm ih =>
      intro k kp1 hmm hk hkp
      refine v_iload_n (pc := 2) 3 rfl dX12_plans_2 ?_
      refine v_sipush (pc := 3) dX12_plans_3 (by decide) ?_
      refine v_icmp_ge (pc := 6) 22 dX12_plans_6 (by decide) (by unfold iB; omega) (by unfold iB; omega) (fun c_1 => ?_) (fun c_1 => ?_)
      · skip
        refine v_aload_n (pc := 22) 0 rfl dX12_plans_22 ?_
        refine v_iload_n (pc := 23) 1 rfl dX12_plans_23 ?_
        refine v_iload_n (pc := 24) 2 rfl dX12_plans_24 ?_
        refine v_callV (pc := 25) [0, 1, 2, 3, 4] [] [] (As := [ai p, ai 3]) (rest := []) (c_planFor_3 ad v h f by0 tr0 kp1 p (by exact hS) (by omega) (by intro s q s0 s1 q0 q1; exact Or.inl (hkp _ (by omega) (by omega)))) (c := 12) rfl (Or.inr ⟨2, rfl⟩) wl_X12_193 wi_X12_planFor wv_X12_X12_planFor_X12_planFor wk_X12_planFor wz_X12 md_X12_planFor rfl (Nat.le_of_ble_eq_true rfl) ⟨Nat.le_of_ble_eq_true rfl, Nat.le_of_ble_eq_true rfl, Nat.le_of_ble_eq_true rfl, Nat.le_of_ble_eq_true rfl⟩ rfl rfl rfl rfl (by decide) ro_nil dX12_plans_25 (fun u hu => ?_)
        obtain ⟨f2_2, kp2_3, v2_4, by2_5, tr2_6⟩ := u
        have g_7 : f2_2 = f ∧ KI f p kp2_3 ∧ vK v v2_4 ∧ v2_4 15 = plA f p 2 := hu
        show V x cX12_plans RX12 4 (rmU 9 257 0 0) [((ad 1), cn 0 936 f2_2), ((ad 14), cn 0 252 kp2_3), (h, co 12 (mO ad v2_4)), ((ad 9), cn 0 6 by2_5), ((ad 10), cn 1 64 tr2_6)] 28 [(0, ar h), (1, ai p), (2, ai 3), (3, ai k)] [ai (plN (kPB f p) 3 (f (37 + p)) (f (19 + p)))] 0 0
        have hgd := g_7
        exact hret (f2_2, kp2_3, v2_4, by2_5, tr2_6) _ _ _ _ _ _ (by exact ⟨hgd.1, hgd.2.2⟩) (congrArg (fun z => some (ai z)) (by rfl)) rfl (Nat.le_of_ble_eq_true rfl) (Nat.le_of_ble_eq_true rfl) dX12_plans_28
      · skip
        refine v_aload_n (pc := 9) 0 rfl dX12_plans_9 ?_
        refine v_get (pc := 10) (v := ar (ad 14)) 14 (Or.inr ⟨2, rfl⟩) fl_12_25_12 rfl dX12_plans_10 ?_
        refine v_iload_n (pc := 13) 3 rfl dX12_plans_13 ?_
        refine v_iconst (pc := 14) dX12_plans_14 ?_
        refine v_iast (pc := 15) 1 rfl (by omega) (by omega) (by decide) (ws2 := [((ad 1), cn 0 936 f), ((ad 14), cn 0 252 (aup kp1 k (-1))), (h, co 12 (mO ad v)), ((ad 9), cn 0 6 by0), ((ad 10), cn 1 64 tr0)]) rfl dX12_plans_15 ?_
        refine v_iinc (pc := 16) 3 (L2 := [(3, ai (k + 1)), (0, ar h), (1, ai p), (2, ai 3)]) rfl rfl (by decide) dX12_plans_16 ?_
        refine v_goto (pc := 19) 2 dX12_plans_19 (by decide) ?_
        refine v_sub (L2 := [(0, ar h), (1, ai p), (2, ai 3), (3, ai (k + 1))]) [1, 2, 3, 0] rfl ?_
        exact ih _ (by omega) (k + 1) (aup kp1 k (-1)) rfl (by omega) (by intro j j0 j1; unfold aup; split <;> first | rfl | exact hkp j j0 (by omega))
  refine v_sub (L2 := [(0, ar h), (1, ai p), (2, ai 3), (3, ai 0)]) [1, 2, 3, 0] rfl ?_
  exact lp2 _ 0 kp rfl (by omega) (by intro j j0 j1; omega)
set_option maxHeartbeats 4000000 in
set_option maxRecDepth 100000 in
theorem c_X12_plan {gS : sG} (ad : Nat → Nat) (v : Nat → Int) (h : Nat) (f : Int → Int) (by0 : Int → Int) (tr0 : Int → Int) (kp : Int → Int) (player : Int) (tries : Int) (part : Int) (hS : SOK f) (hb_player : -2147483648 ≤ player ∧ player < 2147483648) (hb_tries : -2147483648 ≤ tries ∧ tries < 2147483648) (hb_part : -2147483648 ≤ part ∧ part < 2147483648) : Ct gS (S := (Int → Int) × (Int → Int) × (Nat → Int) × (Int → Int) × (Int → Int)) yX12_plan cX12_plan 4 (some .long) 10 280 0 0 [ar h, ai player, ai tries, ai part] [((ad 1), cn 0 936 f), ((ad 14), cn 0 252 kp), (h, co 12 (mO ad v)), ((ad 9), cn 0 6 by0), ((ad 10), cn 1 64 tr0)] (fun q => q ∈ ([] : aW)) (fun u => u.1 = f ∧ vK v u.2.2.1) (fun u => some (al (qPlan f player tries part))) (fun u => [((ad 1), cn 0 936 u.1), ((ad 14), cn 0 252 u.2.1), (h, co 12 (mO ad u.2.2.1)), ((ad 9), cn 0 6 u.2.2.2.1), ((ad 10), cn 1 64 u.2.2.2.2)]) := by
  refine ct_L RX12 [(0, ar h), (1, ai player), (2, ai tries), (3, ai part)] (by decide) rfl (Nat.le_of_ble_eq_true rfl) rfl (fun x hgS hro hret => ?_)
  subst hgS
  obtain ⟨hg, hSp, hSh, hSs, hSb, hSt, hwf⟩ := id hS
  obtain ⟨hg0, hg1, hg2, hg3, hg4, hg5, hg6, hg7⟩ := id hg
  show V x cX12_plan RX12 4 (rmU 10 280 0 0) [((ad 1), cn 0 936 f), ((ad 14), cn 0 252 kp), (h, co 12 (mO ad v)), ((ad 9), cn 0 6 by0), ((ad 10), cn 1 64 tr0)] 0 [(0, ar h), (1, ai player), (2, ai tries), (3, ai part)] [] 0 0
  refine v_aload_n (pc := 0) 0 rfl dX12_plan_0 ?_
  refine v_iload_n (pc := 1) 1 rfl dX12_plan_1 ?_
  refine v_callV (pc := 2) [] [0, 1, 2, 3, 4] [((ad 1), cn 0 936 f), ((ad 14), cn 0 252 kp), (h, co 12 (mO ad v)), ((ad 9), cn 0 6 by0), ((ad 10), cn 1 64 tr0)] (As := [ai player]) (rest := []) (c_X12_isPlayer ad v h f player (by first | omega | assumption) (by assumption)) (c := 12) rfl (Or.inr ⟨2, rfl⟩) wl_X12_136 wi_X12_isPlayer wv_X12_X12_isPlayer_X12_isPlayer wk_X12_isPlayer wz_X12 md_X12_isPlayer rfl (Nat.le_of_ble_eq_true rfl) ⟨Nat.le_of_ble_eq_true rfl, Nat.le_of_ble_eq_true rfl, Nat.le_of_ble_eq_true rfl, Nat.le_of_ble_eq_true rfl⟩ rfl rfl rfl rfl (by decide) (ro_cons (Or.inr ⟨2, rfl, by decide⟩) (ro_cons (Or.inr ⟨0, rfl, by decide⟩) ro_nil)) dX12_plan_2 (fun u hu => ?_)
  show V x cX12_plan RX12 4 (rmU 10 280 0 0) [((ad 1), cn 0 936 f), ((ad 14), cn 0 252 kp), (h, co 12 (mO ad v)), ((ad 9), cn 0 6 by0), ((ad 10), cn 1 64 tr0)] 5 [(0, ar h), (1, ai player), (2, ai tries), (3, ai part)] [ai (if 0 ≤ player ∧ player ≤ (f 0) - 1 then 1 else 0)] 0 0
  refine v_ifb_eq (pc := 5) 26 dX12_plan_5 (by decide) (fun c_1 => ?_) (fun c_1 => ?_)
  · skip
    refine v_ldc2 (pc := 26) (z := (-9223372036854775808)) (bw_mem 1281 (by decide +kernel) rfl) dX12_plan_26 ?_
    exact hret (f, kp, v, by0, tr0) _ _ _ _ _ _ (by exact ⟨rfl, vK_rf v⟩) (congrArg (fun z => some (al z)) (by unfold qPlan; (repeat' split) <;> first | rfl | (exfalso; omega))) rfl (Nat.le_of_ble_eq_true rfl) (Nat.le_of_ble_eq_true rfl) dX12_plan_29
  · skip
    refine v_iload_n (pc := 8) 2 rfl dX12_plan_8 ?_
    refine v_iconst (pc := 9) dX12_plan_9 ?_
    refine v_iconst (pc := 10) dX12_plan_10 ?_
    refine v_callS (pc := 11) [] [0, 1, 2, 3, 4] [((ad 1), cn 0 936 f), ((ad 14), cn 0 252 kp), (h, co 12 (mO ad v)), ((ad 9), cn 0 6 by0), ((ad 10), cn 1 64 tr0)] (As := [ai tries, ai 1, ai 3]) (rest := []) (c_X12_in tries 1 3 (by first | omega | assumption) (by first | omega | assumption) (by first | omega | assumption)) wl_X12_41 ws_X12_in wk_X12_in wz_X12 md_X12_in rfl (Nat.le_of_ble_eq_true rfl) ⟨Nat.le_of_ble_eq_true rfl, Nat.le_of_ble_eq_true rfl, Nat.le_of_ble_eq_true rfl, Nat.le_of_ble_eq_true rfl⟩ rfl rfl rfl rfl (by decide) ro_nil dX12_plan_11 (fun u hu => ?_)
    show V x cX12_plan RX12 4 (rmU 10 280 0 0) [((ad 1), cn 0 936 f), ((ad 14), cn 0 252 kp), (h, co 12 (mO ad v)), ((ad 9), cn 0 6 by0), ((ad 10), cn 1 64 tr0)] 14 [(0, ar h), (1, ai player), (2, ai tries), (3, ai part)] [ai (if 1 ≤ tries ∧ tries ≤ 3 then 1 else 0)] 0 0
    refine v_ifb_eq (pc := 14) 26 dX12_plan_14 (by decide) (fun c_2 => ?_) (fun c_2 => ?_)
    · skip
      refine v_ldc2 (pc := 26) (z := (-9223372036854775808)) (bw_mem 1281 (by decide +kernel) rfl) dX12_plan_26 ?_
      exact hret (f, kp, v, by0, tr0) _ _ _ _ _ _ (by exact ⟨rfl, vK_rf v⟩) (congrArg (fun z => some (al z)) (by unfold qPlan; (repeat' split) <;> first | rfl | (exfalso; omega))) rfl (Nat.le_of_ble_eq_true rfl) (Nat.le_of_ble_eq_true rfl) dX12_plan_29
    · skip
      refine v_iload_n (pc := 17) 3 rfl dX12_plan_17 ?_
      refine v_iconst (pc := 18) dX12_plan_18 ?_
      refine v_iconst (pc := 19) dX12_plan_19 ?_
      refine v_callS (pc := 20) [] [0, 1, 2, 3, 4] [((ad 1), cn 0 936 f), ((ad 14), cn 0 252 kp), (h, co 12 (mO ad v)), ((ad 9), cn 0 6 by0), ((ad 10), cn 1 64 tr0)] (As := [ai part, ai 0, ai 1]) (rest := []) (c_X12_in part 0 1 (by first | omega | assumption) (by first | omega | assumption) (by first | omega | assumption)) wl_X12_41 ws_X12_in wk_X12_in wz_X12 md_X12_in rfl (Nat.le_of_ble_eq_true rfl) ⟨Nat.le_of_ble_eq_true rfl, Nat.le_of_ble_eq_true rfl, Nat.le_of_ble_eq_true rfl, Nat.le_of_ble_eq_true rfl⟩ rfl rfl rfl rfl (by decide) ro_nil dX12_plan_20 (fun u hu => ?_)
      show V x cX12_plan RX12 4 (rmU 10 280 0 0) [((ad 1), cn 0 936 f), ((ad 14), cn 0 252 kp), (h, co 12 (mO ad v)), ((ad 9), cn 0 6 by0), ((ad 10), cn 1 64 tr0)] 23 [(0, ar h), (1, ai player), (2, ai tries), (3, ai part)] [ai (if 0 ≤ part ∧ part ≤ 1 then 1 else 0)] 0 0
      refine v_ifb_ne (pc := 23) 30 dX12_plan_23 (by decide) (fun c_3 => ?_) (fun c_3 => ?_)
      · skip
        have hf := hSp player (by omega) (by omega)
        obtain ⟨hp, hf1, hf2, hf3, hf4, hf5, hf6, hf7, hf8⟩ := id hf
        have hNb1 := plN_b (B := kPB f player) (fun _ _ => kPB_b) 1 (f (37 + player)) (f (19 + player)) (by omega) (by omega)
        have hNb2 := plN_b (B := kPB f player) (fun _ _ => kPB_b) 2 (f (37 + player)) (f (19 + player)) (by omega) (by omega)
        have hNb3 := plN_b (B := kPB f player) (fun _ _ => kPB_b) 3 (f (37 + player)) (f (19 + player)) (by omega) (by omega)
        refine v_aload_n (pc := 30) 0 rfl dX12_plan_30 ?_
        refine v_iload_n (pc := 31) 1 rfl dX12_plan_31 ?_
        refine v_iload_n (pc := 32) 2 rfl dX12_plan_32 ?_
        rcases (show tries = 1 ∨ tries = 2 ∨ tries = 3 by omega) with rfl | rfl | rfl
        · skip
          refine v_callV (pc := 33) [0, 1, 2, 3, 4] [] [] (As := [ai player, ai 1]) (rest := []) (c_plans_1 ad v h f by0 tr0 kp player (by assumption) (by first | omega | assumption)) (c := 12) rfl (Or.inr ⟨2, rfl⟩) wl_X12_202 wi_X12_plans wv_X12_X12_plans_X12_plans wk_X12_plans wz_X12 md_X12_plans rfl (Nat.le_of_ble_eq_true rfl) ⟨Nat.le_of_ble_eq_true rfl, Nat.le_of_ble_eq_true rfl, Nat.le_of_ble_eq_true rfl, Nat.le_of_ble_eq_true rfl⟩ rfl rfl rfl rfl (by decide) ro_nil dX12_plan_33 (fun u hu => ?_)
          obtain ⟨f2_4, kp2_5, v2_6, by2_7, tr2_8⟩ := u
          have g_9 : f2_4 = f ∧ vK v v2_6 ∧ v2_6 15 = plA f player 0 := hu
          show V x cX12_plan RX12 4 (rmU 10 280 0 0) [((ad 1), cn 0 936 f2_4), ((ad 14), cn 0 252 kp2_5), (h, co 12 (mO ad v2_6)), ((ad 9), cn 0 6 by2_7), ((ad 10), cn 1 64 tr2_8)] 36 [(0, ar h), (1, ai player), (2, ai 1), (3, ai part)] [ai (plN (kPB f player) 1 (f (37 + player)) (f (19 + player)))] 0 0
          have hgd := g_9
          refine v_i2l (pc := 36) (by unfold iB; omega) dX12_plan_36 ?_
          refine v_iload_n (pc := 37) 2 rfl dX12_plan_37 ?_
          refine v_iconst (pc := 38) dX12_plan_38 ?_
          refine v_icmp_ne (pc := 39) 48 dX12_plan_39 (by decide) (by unfold iB; omega) (by unfold iB; omega) (fun c_10 => by exfalso; omega) (fun c_10 => ?_)
          refine v_ldc2 (pc := 42) (z := 10) (bw_mem 1286 (by decide +kernel) rfl) dX12_plan_42 ?_
          refine v_goto (pc := 45) 62 dX12_plan_45 (by decide) ?_
          refine v_iload_n (pc := 62) 3 rfl dX12_plan_62 ?_
          refine v_callS (pc := 63) [] [0, 1, 2, 3, 4] [((ad 1), cn 0 936 f2_4), ((ad 14), cn 0 252 kp2_5), (h, co 12 (mO ad v2_6)), ((ad 9), cn 0 6 by2_7), ((ad 10), cn 1 64 tr2_8)] (As := [al (plN (kPB f player) 1 (f (37 + player)) (f (19 + player))), al 10, ai part]) (rest := []) (c_X12_lowest (plN (kPB f player) 1 (f (37 + player)) (f (19 + player))) 10 part (by first | omega | assumption) (by first | omega | assumption) (by first | omega | assumption)) wl_X12_180 ws_X12_lowest wk_X12_lowest wz_X12 md_X12_lowest rfl (Nat.le_of_ble_eq_true rfl) ⟨Nat.le_of_ble_eq_true rfl, Nat.le_of_ble_eq_true rfl, Nat.le_of_ble_eq_true rfl, Nat.le_of_ble_eq_true rfl⟩ rfl rfl rfl rfl (by decide) ro_nil dX12_plan_63 (fun u hu => ?_)
          show V x cX12_plan RX12 4 (rmU 10 280 0 0) [((ad 1), cn 0 936 f2_4), ((ad 14), cn 0 252 kp2_5), (h, co 12 (mO ad v2_6)), ((ad 9), cn 0 6 by2_7), ((ad 10), cn 1 64 tr2_8)] 66 [(0, ar h), (1, ai player), (2, ai 1), (3, ai part)] [al (kFr (plN (kPB f player) 1 (f (37 + player)) (f (19 + player))) 10 part)] 0 0
          exact hret (f2_4, kp2_5, v2_6, by2_7, tr2_8) _ _ _ _ _ _ (by exact ⟨hgd.1, hgd.2.1⟩) (congrArg (fun z => some (al z)) (by unfold qPlan; (repeat' split) <;> first | rfl | (exfalso; omega))) rfl (Nat.le_of_ble_eq_true rfl) (Nat.le_of_ble_eq_true rfl) dX12_plan_66
        · skip
          refine v_callV (pc := 33) [0, 1, 2, 3, 4] [] [] (As := [ai player, ai 2]) (rest := []) (c_plans_2 ad v h f by0 tr0 kp player (by assumption) (by first | omega | assumption)) (c := 12) rfl (Or.inr ⟨2, rfl⟩) wl_X12_202 wi_X12_plans wv_X12_X12_plans_X12_plans wk_X12_plans wz_X12 md_X12_plans rfl (Nat.le_of_ble_eq_true rfl) ⟨Nat.le_of_ble_eq_true rfl, Nat.le_of_ble_eq_true rfl, Nat.le_of_ble_eq_true rfl, Nat.le_of_ble_eq_true rfl⟩ rfl rfl rfl rfl (by decide) ro_nil dX12_plan_33 (fun u hu => ?_)
          obtain ⟨f2_11, kp2_12, v2_13, by2_14, tr2_15⟩ := u
          have g_16 : f2_11 = f ∧ vK v v2_13 ∧ v2_13 15 = plA f player 1 := hu
          show V x cX12_plan RX12 4 (rmU 10 280 0 0) [((ad 1), cn 0 936 f2_11), ((ad 14), cn 0 252 kp2_12), (h, co 12 (mO ad v2_13)), ((ad 9), cn 0 6 by2_14), ((ad 10), cn 1 64 tr2_15)] 36 [(0, ar h), (1, ai player), (2, ai 2), (3, ai part)] [ai (plN (kPB f player) 2 (f (37 + player)) (f (19 + player)))] 0 0
          have hgd := g_16
          refine v_i2l (pc := 36) (by unfold iB; omega) dX12_plan_36 ?_
          refine v_iload_n (pc := 37) 2 rfl dX12_plan_37 ?_
          refine v_iconst (pc := 38) dX12_plan_38 ?_
          refine v_icmp_ne (pc := 39) 48 dX12_plan_39 (by decide) (by unfold iB; omega) (by unfold iB; omega) (fun c_17 => ?_) (fun c_17 => by exfalso; omega)
          refine v_iload_n (pc := 48) 2 rfl dX12_plan_48 ?_
          refine v_iconst (pc := 49) dX12_plan_49 ?_
          refine v_icmp_ne (pc := 50) 59 dX12_plan_50 (by decide) (by unfold iB; omega) (by unfold iB; omega) (fun c_18 => by exfalso; omega) (fun c_18 => ?_)
          refine v_ldc2 (pc := 53) (z := 100) (bw_mem 1326 (by decide +kernel) rfl) dX12_plan_53 ?_
          refine v_goto (pc := 56) 62 dX12_plan_56 (by decide) ?_
          refine v_iload_n (pc := 62) 3 rfl dX12_plan_62 ?_
          refine v_callS (pc := 63) [] [0, 1, 2, 3, 4] [((ad 1), cn 0 936 f2_11), ((ad 14), cn 0 252 kp2_12), (h, co 12 (mO ad v2_13)), ((ad 9), cn 0 6 by2_14), ((ad 10), cn 1 64 tr2_15)] (As := [al (plN (kPB f player) 2 (f (37 + player)) (f (19 + player))), al 100, ai part]) (rest := []) (c_X12_lowest (plN (kPB f player) 2 (f (37 + player)) (f (19 + player))) 100 part (by first | omega | assumption) (by first | omega | assumption) (by first | omega | assumption)) wl_X12_180 ws_X12_lowest wk_X12_lowest wz_X12 md_X12_lowest rfl (Nat.le_of_ble_eq_true rfl) ⟨Nat.le_of_ble_eq_true rfl, Nat.le_of_ble_eq_true rfl, Nat.le_of_ble_eq_true rfl, Nat.le_of_ble_eq_true rfl⟩ rfl rfl rfl rfl (by decide) ro_nil dX12_plan_63 (fun u hu => ?_)
          show V x cX12_plan RX12 4 (rmU 10 280 0 0) [((ad 1), cn 0 936 f2_11), ((ad 14), cn 0 252 kp2_12), (h, co 12 (mO ad v2_13)), ((ad 9), cn 0 6 by2_14), ((ad 10), cn 1 64 tr2_15)] 66 [(0, ar h), (1, ai player), (2, ai 2), (3, ai part)] [al (kFr (plN (kPB f player) 2 (f (37 + player)) (f (19 + player))) 100 part)] 0 0
          exact hret (f2_11, kp2_12, v2_13, by2_14, tr2_15) _ _ _ _ _ _ (by exact ⟨hgd.1, hgd.2.1⟩) (congrArg (fun z => some (al z)) (by unfold qPlan; (repeat' split) <;> first | rfl | (exfalso; omega))) rfl (Nat.le_of_ble_eq_true rfl) (Nat.le_of_ble_eq_true rfl) dX12_plan_66
        · skip
          refine v_callV (pc := 33) [0, 1, 2, 3, 4] [] [] (As := [ai player, ai 3]) (rest := []) (c_plans_3 ad v h f by0 tr0 kp player (by assumption) (by first | omega | assumption)) (c := 12) rfl (Or.inr ⟨2, rfl⟩) wl_X12_202 wi_X12_plans wv_X12_X12_plans_X12_plans wk_X12_plans wz_X12 md_X12_plans rfl (Nat.le_of_ble_eq_true rfl) ⟨Nat.le_of_ble_eq_true rfl, Nat.le_of_ble_eq_true rfl, Nat.le_of_ble_eq_true rfl, Nat.le_of_ble_eq_true rfl⟩ rfl rfl rfl rfl (by decide) ro_nil dX12_plan_33 (fun u hu => ?_)
          obtain ⟨f2_19, kp2_20, v2_21, by2_22, tr2_23⟩ := u
          have g_24 : f2_19 = f ∧ vK v v2_21 ∧ v2_21 15 = plA f player 2 := hu
          show V x cX12_plan RX12 4 (rmU 10 280 0 0) [((ad 1), cn 0 936 f2_19), ((ad 14), cn 0 252 kp2_20), (h, co 12 (mO ad v2_21)), ((ad 9), cn 0 6 by2_22), ((ad 10), cn 1 64 tr2_23)] 36 [(0, ar h), (1, ai player), (2, ai 3), (3, ai part)] [ai (plN (kPB f player) 3 (f (37 + player)) (f (19 + player)))] 0 0
          have hgd := g_24
          refine v_i2l (pc := 36) (by unfold iB; omega) dX12_plan_36 ?_
          refine v_iload_n (pc := 37) 2 rfl dX12_plan_37 ?_
          refine v_iconst (pc := 38) dX12_plan_38 ?_
          refine v_icmp_ne (pc := 39) 48 dX12_plan_39 (by decide) (by unfold iB; omega) (by unfold iB; omega) (fun c_25 => ?_) (fun c_25 => by exfalso; omega)
          refine v_iload_n (pc := 48) 2 rfl dX12_plan_48 ?_
          refine v_iconst (pc := 49) dX12_plan_49 ?_
          refine v_icmp_ne (pc := 50) 59 dX12_plan_50 (by decide) (by unfold iB; omega) (by unfold iB; omega) (fun c_26 => ?_) (fun c_26 => by exfalso; omega)
          refine v_ldc2 (pc := 59) (z := 1000) (bw_mem 1327 (by decide +kernel) rfl) dX12_plan_59 ?_
          refine v_iload_n (pc := 62) 3 rfl dX12_plan_62 ?_
          refine v_callS (pc := 63) [] [0, 1, 2, 3, 4] [((ad 1), cn 0 936 f2_19), ((ad 14), cn 0 252 kp2_20), (h, co 12 (mO ad v2_21)), ((ad 9), cn 0 6 by2_22), ((ad 10), cn 1 64 tr2_23)] (As := [al (plN (kPB f player) 3 (f (37 + player)) (f (19 + player))), al 1000, ai part]) (rest := []) (c_X12_lowest (plN (kPB f player) 3 (f (37 + player)) (f (19 + player))) 1000 part (by first | omega | assumption) (by first | omega | assumption) (by first | omega | assumption)) wl_X12_180 ws_X12_lowest wk_X12_lowest wz_X12 md_X12_lowest rfl (Nat.le_of_ble_eq_true rfl) ⟨Nat.le_of_ble_eq_true rfl, Nat.le_of_ble_eq_true rfl, Nat.le_of_ble_eq_true rfl, Nat.le_of_ble_eq_true rfl⟩ rfl rfl rfl rfl (by decide) ro_nil dX12_plan_63 (fun u hu => ?_)
          show V x cX12_plan RX12 4 (rmU 10 280 0 0) [((ad 1), cn 0 936 f2_19), ((ad 14), cn 0 252 kp2_20), (h, co 12 (mO ad v2_21)), ((ad 9), cn 0 6 by2_22), ((ad 10), cn 1 64 tr2_23)] 66 [(0, ar h), (1, ai player), (2, ai 3), (3, ai part)] [al (kFr (plN (kPB f player) 3 (f (37 + player)) (f (19 + player))) 1000 part)] 0 0
          exact hret (f2_19, kp2_20, v2_21, by2_22, tr2_23) _ _ _ _ _ _ (by exact ⟨hgd.1, hgd.2.1⟩) (congrArg (fun z => some (al z)) (by unfold qPlan; (repeat' split) <;> first | rfl | (exfalso; omega))) rfl (Nat.le_of_ble_eq_true rfl) (Nat.le_of_ble_eq_true rfl) dX12_plan_66
      · skip
        refine v_ldc2 (pc := 26) (z := (-9223372036854775808)) (bw_mem 1281 (by decide +kernel) rfl) dX12_plan_26 ?_
        exact hret (f, kp, v, by0, tr0) _ _ _ _ _ _ (by exact ⟨rfl, vK_rf v⟩) (congrArg (fun z => some (al z)) (by unfold qPlan; (repeat' split) <;> first | rfl | (exfalso; omega))) rfl (Nat.le_of_ble_eq_true rfl) (Nat.le_of_ble_eq_true rfl) dX12_plan_29
set_option maxHeartbeats 4000000 in
set_option maxRecDepth 100000 in
theorem c_X12_first {gS : sG} (ad : Nat → Nat) (v : Nat → Int) (h : Nat) (f : Int → Int) (by0 : Int → Int) (tr0 : Int → Int) (kp : Int → Int) (player : Int) (tries : Int) (hS : SOK f) (hb_player : -2147483648 ≤ player ∧ player < 2147483648) (hb_tries : -2147483648 ≤ tries ∧ tries < 2147483648) : Ct gS (S := (Int → Int) × (Int → Int) × (Nat → Int) × (Int → Int) × (Int → Int)) yX12_first cX12_first 3 (some .int) 10 280 0 0 [ar h, ai player, ai tries] [((ad 1), cn 0 936 f), ((ad 14), cn 0 252 kp), (h, co 12 (mO ad v)), ((ad 9), cn 0 6 by0), ((ad 10), cn 1 64 tr0)] (fun q => q ∈ ([] : aW)) (fun u => u.1 = f ∧ vK v u.2.2.1) (fun u => some (ai (qFirst f player tries))) (fun u => [((ad 1), cn 0 936 u.1), ((ad 14), cn 0 252 u.2.1), (h, co 12 (mO ad u.2.2.1)), ((ad 9), cn 0 6 u.2.2.2.1), ((ad 10), cn 1 64 u.2.2.2.2)]) := by
  refine ct_I RX12 [(0, ar h), (1, ai player), (2, ai tries)] (by decide) rfl (Nat.le_of_ble_eq_true rfl) rfl (fun x hgS hro hret => ?_)
  subst hgS
  obtain ⟨hg, hSp, hSh, hSs, hSb, hSt, hwf⟩ := id hS
  obtain ⟨hg0, hg1, hg2, hg3, hg4, hg5, hg6, hg7⟩ := id hg
  show V x cX12_first RX12 3 (rmU 10 280 0 0) [((ad 1), cn 0 936 f), ((ad 14), cn 0 252 kp), (h, co 12 (mO ad v)), ((ad 9), cn 0 6 by0), ((ad 10), cn 1 64 tr0)] 0 [(0, ar h), (1, ai player), (2, ai tries)] [] 0 0
  refine v_aload_n (pc := 0) 0 rfl dX12_first_0 ?_
  refine v_iload_n (pc := 1) 1 rfl dX12_first_1 ?_
  refine v_callV (pc := 2) [] [0, 1, 2, 3, 4] [((ad 1), cn 0 936 f), ((ad 14), cn 0 252 kp), (h, co 12 (mO ad v)), ((ad 9), cn 0 6 by0), ((ad 10), cn 1 64 tr0)] (As := [ai player]) (rest := []) (c_X12_isPlayer ad v h f player (by first | omega | assumption) (by assumption)) (c := 12) rfl (Or.inr ⟨2, rfl⟩) wl_X12_136 wi_X12_isPlayer wv_X12_X12_isPlayer_X12_isPlayer wk_X12_isPlayer wz_X12 md_X12_isPlayer rfl (Nat.le_of_ble_eq_true rfl) ⟨Nat.le_of_ble_eq_true rfl, Nat.le_of_ble_eq_true rfl, Nat.le_of_ble_eq_true rfl, Nat.le_of_ble_eq_true rfl⟩ rfl rfl rfl rfl (by decide) (ro_cons (Or.inr ⟨2, rfl, by decide⟩) (ro_cons (Or.inr ⟨0, rfl, by decide⟩) ro_nil)) dX12_first_2 (fun u hu => ?_)
  show V x cX12_first RX12 3 (rmU 10 280 0 0) [((ad 1), cn 0 936 f), ((ad 14), cn 0 252 kp), (h, co 12 (mO ad v)), ((ad 9), cn 0 6 by0), ((ad 10), cn 1 64 tr0)] 5 [(0, ar h), (1, ai player), (2, ai tries)] [ai (if 0 ≤ player ∧ player ≤ (f 0) - 1 then 1 else 0)] 0 0
  refine v_ifb_ne (pc := 5) 10 dX12_first_5 (by decide) (fun c_1 => ?_) (fun c_1 => ?_)
  · skip
    refine v_iload_n (pc := 10) 2 rfl dX12_first_10 ?_
    refine v_iconst (pc := 11) dX12_first_11 ?_
    refine v_iconst (pc := 12) dX12_first_12 ?_
    refine v_callS (pc := 13) [] [0, 1, 2, 3, 4] [((ad 1), cn 0 936 f), ((ad 14), cn 0 252 kp), (h, co 12 (mO ad v)), ((ad 9), cn 0 6 by0), ((ad 10), cn 1 64 tr0)] (As := [ai tries, ai 1, ai 3]) (rest := []) (c_X12_in tries 1 3 (by first | omega | assumption) (by first | omega | assumption) (by first | omega | assumption)) wl_X12_41 ws_X12_in wk_X12_in wz_X12 md_X12_in rfl (Nat.le_of_ble_eq_true rfl) ⟨Nat.le_of_ble_eq_true rfl, Nat.le_of_ble_eq_true rfl, Nat.le_of_ble_eq_true rfl, Nat.le_of_ble_eq_true rfl⟩ rfl rfl rfl rfl (by decide) ro_nil dX12_first_13 (fun u hu => ?_)
    show V x cX12_first RX12 3 (rmU 10 280 0 0) [((ad 1), cn 0 936 f), ((ad 14), cn 0 252 kp), (h, co 12 (mO ad v)), ((ad 9), cn 0 6 by0), ((ad 10), cn 1 64 tr0)] 16 [(0, ar h), (1, ai player), (2, ai tries)] [ai (if 1 ≤ tries ∧ tries ≤ 3 then 1 else 0)] 0 0
    refine v_ifb_ne (pc := 16) 22 dX12_first_16 (by decide) (fun c_2 => ?_) (fun c_2 => ?_)
    · skip
      refine v_aload_n (pc := 22) 0 rfl dX12_first_22 ?_
      refine v_iload_n (pc := 23) 1 rfl dX12_first_23 ?_
      refine v_iload_n (pc := 24) 2 rfl dX12_first_24 ?_
      rcases (show tries = 1 ∨ tries = 2 ∨ tries = 3 by omega) with rfl | rfl | rfl
      · skip
        refine v_callV (pc := 25) [0, 1, 2, 3, 4] [] [] (As := [ai player, ai 1]) (rest := []) (c_plans_1 ad v h f by0 tr0 kp player (by assumption) (by first | omega | assumption)) (c := 12) rfl (Or.inr ⟨2, rfl⟩) wl_X12_202 wi_X12_plans wv_X12_X12_plans_X12_plans wk_X12_plans wz_X12 md_X12_plans rfl (Nat.le_of_ble_eq_true rfl) ⟨Nat.le_of_ble_eq_true rfl, Nat.le_of_ble_eq_true rfl, Nat.le_of_ble_eq_true rfl, Nat.le_of_ble_eq_true rfl⟩ rfl rfl rfl rfl (by decide) ro_nil dX12_first_25 (fun u hu => ?_)
        obtain ⟨f2_3, kp2_4, v2_5, by2_6, tr2_7⟩ := u
        have g_8 : f2_3 = f ∧ vK v v2_5 ∧ v2_5 15 = plA f player 0 := hu
        show V x cX12_first RX12 3 (rmU 10 280 0 0) [((ad 1), cn 0 936 f2_3), ((ad 14), cn 0 252 kp2_4), (h, co 12 (mO ad v2_5)), ((ad 9), cn 0 6 by2_6), ((ad 10), cn 1 64 tr2_7)] 28 [(0, ar h), (1, ai player), (2, ai 1)] [ai (plN (kPB f player) 1 (f (37 + player)) (f (19 + player)))] 0 0
        have hgd := g_8
        refine v_pop (pc := 28) rfl dX12_first_28 ?_
        refine v_aload_n (pc := 29) 0 rfl dX12_first_29 ?_
        refine v_get (pc := 30) (v := ai (v2_5 15)) 15 (Or.inr ⟨2, rfl⟩) fl_12_199_12 rfl dX12_first_30 ?_
        exact hret (f2_3, kp2_4, v2_5, by2_6, tr2_7) _ _ _ _ _ _ (by exact ⟨hgd.1, hgd.2.1⟩) (congrArg (fun z => some (ai z)) (by unfold qFirst; rw [if_neg (by omega), if_neg (by omega), hgd.2.2]; rfl)) rfl (Nat.le_of_ble_eq_true rfl) (Nat.le_of_ble_eq_true rfl) dX12_first_33
      · skip
        refine v_callV (pc := 25) [0, 1, 2, 3, 4] [] [] (As := [ai player, ai 2]) (rest := []) (c_plans_2 ad v h f by0 tr0 kp player (by assumption) (by first | omega | assumption)) (c := 12) rfl (Or.inr ⟨2, rfl⟩) wl_X12_202 wi_X12_plans wv_X12_X12_plans_X12_plans wk_X12_plans wz_X12 md_X12_plans rfl (Nat.le_of_ble_eq_true rfl) ⟨Nat.le_of_ble_eq_true rfl, Nat.le_of_ble_eq_true rfl, Nat.le_of_ble_eq_true rfl, Nat.le_of_ble_eq_true rfl⟩ rfl rfl rfl rfl (by decide) ro_nil dX12_first_25 (fun u hu => ?_)
        obtain ⟨f2_9, kp2_10, v2_11, by2_12, tr2_13⟩ := u
        have g_14 : f2_9 = f ∧ vK v v2_11 ∧ v2_11 15 = plA f player 1 := hu
        show V x cX12_first RX12 3 (rmU 10 280 0 0) [((ad 1), cn 0 936 f2_9), ((ad 14), cn 0 252 kp2_10), (h, co 12 (mO ad v2_11)), ((ad 9), cn 0 6 by2_12), ((ad 10), cn 1 64 tr2_13)] 28 [(0, ar h), (1, ai player), (2, ai 2)] [ai (plN (kPB f player) 2 (f (37 + player)) (f (19 + player)))] 0 0
        have hgd := g_14
        refine v_pop (pc := 28) rfl dX12_first_28 ?_
        refine v_aload_n (pc := 29) 0 rfl dX12_first_29 ?_
        refine v_get (pc := 30) (v := ai (v2_11 15)) 15 (Or.inr ⟨2, rfl⟩) fl_12_199_12 rfl dX12_first_30 ?_
        exact hret (f2_9, kp2_10, v2_11, by2_12, tr2_13) _ _ _ _ _ _ (by exact ⟨hgd.1, hgd.2.1⟩) (congrArg (fun z => some (ai z)) (by unfold qFirst; rw [if_neg (by omega), if_neg (by omega), hgd.2.2]; rfl)) rfl (Nat.le_of_ble_eq_true rfl) (Nat.le_of_ble_eq_true rfl) dX12_first_33
      · skip
        refine v_callV (pc := 25) [0, 1, 2, 3, 4] [] [] (As := [ai player, ai 3]) (rest := []) (c_plans_3 ad v h f by0 tr0 kp player (by assumption) (by first | omega | assumption)) (c := 12) rfl (Or.inr ⟨2, rfl⟩) wl_X12_202 wi_X12_plans wv_X12_X12_plans_X12_plans wk_X12_plans wz_X12 md_X12_plans rfl (Nat.le_of_ble_eq_true rfl) ⟨Nat.le_of_ble_eq_true rfl, Nat.le_of_ble_eq_true rfl, Nat.le_of_ble_eq_true rfl, Nat.le_of_ble_eq_true rfl⟩ rfl rfl rfl rfl (by decide) ro_nil dX12_first_25 (fun u hu => ?_)
        obtain ⟨f2_15, kp2_16, v2_17, by2_18, tr2_19⟩ := u
        have g_20 : f2_15 = f ∧ vK v v2_17 ∧ v2_17 15 = plA f player 2 := hu
        show V x cX12_first RX12 3 (rmU 10 280 0 0) [((ad 1), cn 0 936 f2_15), ((ad 14), cn 0 252 kp2_16), (h, co 12 (mO ad v2_17)), ((ad 9), cn 0 6 by2_18), ((ad 10), cn 1 64 tr2_19)] 28 [(0, ar h), (1, ai player), (2, ai 3)] [ai (plN (kPB f player) 3 (f (37 + player)) (f (19 + player)))] 0 0
        have hgd := g_20
        refine v_pop (pc := 28) rfl dX12_first_28 ?_
        refine v_aload_n (pc := 29) 0 rfl dX12_first_29 ?_
        refine v_get (pc := 30) (v := ai (v2_17 15)) 15 (Or.inr ⟨2, rfl⟩) fl_12_199_12 rfl dX12_first_30 ?_
        exact hret (f2_15, kp2_16, v2_17, by2_18, tr2_19) _ _ _ _ _ _ (by exact ⟨hgd.1, hgd.2.1⟩) (congrArg (fun z => some (ai z)) (by unfold qFirst; rw [if_neg (by omega), if_neg (by omega), hgd.2.2]; rfl)) rfl (Nat.le_of_ble_eq_true rfl) (Nat.le_of_ble_eq_true rfl) dX12_first_33
    · skip
      refine v_bipush (pc := 19) dX12_first_19 (by decide) ?_
      exact hret (f, kp, v, by0, tr0) _ _ _ _ _ _ (by exact ⟨rfl, vK_rf v⟩) (congrArg (fun z => some (ai z)) (by unfold qFirst; (repeat' split) <;> first | rfl | omega | (exfalso; omega))) rfl (Nat.le_of_ble_eq_true rfl) (Nat.le_of_ble_eq_true rfl) dX12_first_21
  · skip
    refine v_iconst (pc := 8) dX12_first_8 ?_
    exact hret (f, kp, v, by0, tr0) _ _ _ _ _ _ (by exact ⟨rfl, vK_rf v⟩) (congrArg (fun z => some (ai z)) (by unfold qFirst; (repeat' split) <;> first | rfl | omega | (exfalso; omega))) rfl (Nat.le_of_ble_eq_true rfl) (Nat.le_of_ble_eq_true rfl) dX12_first_9
