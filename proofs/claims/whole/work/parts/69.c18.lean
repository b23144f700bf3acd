theorem flP_11_83 {kd : Int} (h : 0 ≤ kd ∧ kd ≤ 6) : FL RX11 83 (kC kd) 3 := by
  rcases (show kd = 0 ∨ kd = 1 ∨ kd = 2 ∨ kd = 3 ∨ kd = 4 ∨ kd = 5 ∨ kd = 6 by omega) with rfl | rfl | rfl | rfl | rfl | rfl | rfl
  · exact fl_11_83_5
  · exact fl_11_83_8
  · exact fl_11_83_0
  · exact fl_11_83_7
  · exact fl_11_83_1
  · exact fl_11_83_2
  · exact fl_11_83_9
theorem tnF_up {f : Int → Int} {p k n : Int} (hk : 0 ≤ k ∧ k < 4) : aup (tnF f p) k n = tnF (aup f (49 + 4 * p + k) n) p := by
  funext j
  unfold tnF aup
  by_cases h : j = k
  · rw [if_pos h, if_pos (by omega), if_pos (by omega)]
  · rw [if_neg h]
    show (if 0 ≤ j ∧ j < 4 then _ else _) = _
    by_cases q : 0 ≤ j ∧ j < 4
    · rw [if_pos q, if_pos q, if_neg (by omega)]
    · rw [if_neg q, if_neg q]
theorem qRow_o {f : Int → Int} {p k n : Int} (h : ¬ (0 ≤ p ∧ p ≤ f 0 - 1) ∨ f (7 + p) ≠ 6) : (qRow f p k n).2 = f := by
  unfold qRow
  (repeat' split) <;> first | rfl | (exfalso; omega)
theorem zpU_19 {ta tu : Nat} {f : Int → Int} {p z : Int} (hp : 0 ≤ p ∧ p < 6) : co (kC (f (7 + p))) (ar ta :: ai (f (7 + p)) :: ai p :: ai (f (13 + p)) :: ai z :: ai (f (25 + p)) :: ai (f (31 + p)) :: ai (f (37 + p)) :: ai (f (43 + p)) :: zpT (f (7 + p)) tu) = zpO ta (aup f (19 + p) z) p tu := by
  have e : ∀ j : Int, j ≠ 19 + p → aup f (19 + p) z j = f j := fun j hj => aup_n _ _ hj
  show _ = co (kC (aup f (19 + p) z (7 + p))) (zpL ta (aup f (19 + p) z) p (zpT (aup f (19 + p) z (7 + p)) tu))
  unfold zpL
  rw [aup_s]
  rw [e (7 + p) (by omega), e (13 + p) (by omega), e (25 + p) (by omega), e (31 + p) (by omega), e (37 + p) (by omega), e (43 + p) (by omega)]
theorem zpU_31 {ta tu : Nat} {f : Int → Int} {p z : Int} (hp : 0 ≤ p ∧ p < 6) : co (kC (f (7 + p))) (ar ta :: ai (f (7 + p)) :: ai p :: ai (f (13 + p)) :: ai (f (19 + p)) :: ai (f (25 + p)) :: ai z :: ai (f (37 + p)) :: ai (f (43 + p)) :: zpT (f (7 + p)) tu) = zpO ta (aup f (31 + p) z) p tu := by
  have e : ∀ j : Int, j ≠ 31 + p → aup f (31 + p) z j = f j := fun j hj => aup_n _ _ hj
  show _ = co (kC (aup f (31 + p) z (7 + p))) (zpL ta (aup f (31 + p) z) p (zpT (aup f (31 + p) z (7 + p)) tu))
  unfold zpL
  rw [aup_s]
  rw [e (7 + p) (by omega), e (13 + p) (by omega), e (19 + p) (by omega), e (25 + p) (by omega), e (37 + p) (by omega), e (43 + p) (by omega)]
theorem zpU_37 {ta tu : Nat} {f : Int → Int} {p z : Int} (hp : 0 ≤ p ∧ p < 6) : co (kC (f (7 + p))) (ar ta :: ai (f (7 + p)) :: ai p :: ai (f (13 + p)) :: ai (f (19 + p)) :: ai (f (25 + p)) :: ai (f (31 + p)) :: ai z :: ai (f (43 + p)) :: zpT (f (7 + p)) tu) = zpO ta (aup f (37 + p) z) p tu := by
  have e : ∀ j : Int, j ≠ 37 + p → aup f (37 + p) z j = f j := fun j hj => aup_n _ _ hj
  show _ = co (kC (aup f (37 + p) z (7 + p))) (zpL ta (aup f (37 + p) z) p (zpT (aup f (37 + p) z (7 + p)) tu))
  unfold zpL
  rw [aup_s]
  rw [e (7 + p) (by omega), e (13 + p) (by omega), e (19 + p) (by omega), e (25 + p) (by omega), e (31 + p) (by omega), e (43 + p) (by omega)]
theorem ckP {kd : Int} (h : 0 ≤ kd ∧ kd ≤ 6) : CK (kC kd) := by
  rcases (show kd = 0 ∨ kd = 1 ∨ kd = 2 ∨ kd = 3 ∨ kd = 4 ∨ kd = 5 ∨ kd = 6 by omega) with rfl | rfl | rfl | rfl | rfl | rfl | rfl
  · exact ck_5
  · exact ck_8
  · exact ck_0
  · exact ck_7
  · exact ck_1
  · exact ck_2
  · exact ck_9
theorem ftP_4 {kd : Int} (h : 0 ≤ kd ∧ kd ≤ 6) : FT (kC kd) 4 .int false := by
  rcases (show kd = 0 ∨ kd = 1 ∨ kd = 2 ∨ kd = 3 ∨ kd = 4 ∨ kd = 5 ∨ kd = 6 by omega) with rfl | rfl | rfl | rfl | rfl | rfl | rfl
  · exact ft_5_4
  · exact ft_8_4
  · exact ft_0_4
  · exact ft_7_4
  · exact ft_1_4
  · exact ft_2_4
  · exact ft_9_4
theorem ftP_6 {kd : Int} (h : 0 ≤ kd ∧ kd ≤ 6) : FT (kC kd) 6 .int false := by
  rcases (show kd = 0 ∨ kd = 1 ∨ kd = 2 ∨ kd = 3 ∨ kd = 4 ∨ kd = 5 ∨ kd = 6 by omega) with rfl | rfl | rfl | rfl | rfl | rfl | rfl
  · exact ft_5_6
  · exact ft_8_6
  · exact ft_0_6
  · exact ft_7_6
  · exact ft_1_6
  · exact ft_2_6
  · exact ft_9_6
theorem ftP_7 {kd : Int} (h : 0 ≤ kd ∧ kd ≤ 6) : FT (kC kd) 7 .int false := by
  rcases (show kd = 0 ∨ kd = 1 ∨ kd = 2 ∨ kd = 3 ∨ kd = 4 ∨ kd = 5 ∨ kd = 6 by omega) with rfl | rfl | rfl | rfl | rfl | rfl | rfl
  · exact ft_5_7
  · exact ft_8_7
  · exact ft_0_7
  · exact ft_7_7
  · exact ft_1_7
  · exact ft_2_7
  · exact ft_9_7
set_option maxHeartbeats 4000000 in
set_option maxRecDepth 100000 in
theorem c_X11_isUnder_k5 {gS : sG} (ta : Nat) (q1 : Nat) (t1 : Nat) (f : Int → Int) (p : Int) (k : Int) (hk : f (7 + p) = 0) (hb_k : -2147483648 ≤ k ∧ k < 2147483648) : Ct gS (S := Unit) yX11_isUnder cX11_isUnder 2 (some .boolean) 0 0 0 0 [ar q1, ai k] [] (fun q => q ∈ ([(q1, co 5 [ar ta, ai (f (7 + p)), ai p, ai (f (13 + p)), ai (f (19 + p)), ai (f (25 + p)), ai (f (31 + p)), ai (f (37 + p)), ai (f (43 + p))])] : aW)) (fun _ => True) (fun _ => some (ai (if k = 0 ∨ k = f (7 + p) ∨ (0 < k ∧ k < 4 ∧ f (7 + p) = k + 3) then 1 else 0))) (fun _ => []) := by
  refine ct_Z RX11 [(0, ar q1), (1, ai k)] (by decide) rfl (Nat.le_of_ble_eq_true rfl) rfl (fun x hgS hro hret => ?_)
  subst hgS
  have r0 := hro _ (mem_at 0 rfl)
  show V x cX11_isUnder RX11 2 (rmU 0 0 0 0) [] 0 [(0, ar q1), (1, ai k)] [] 0 0
  refine v_iload_n (pc := 0) 1 rfl dX11_isUnder_0 ?_
  rcases Classical.em (k < 0 ∨ 6 < k) with c_1 | c_1
  · refine v_sw_out (pc := 1) 76 dX11_isUnder_1 (by decide) (by unfold iB; omega) c_1 ?_
    refine v_iconst (pc := 76) dX11_isUnder_76 ?_
    exact hret () _ _ _ _ _ _ trivial (congrArg (fun z => some (ai z)) (by split <;> first | rfl | omega | (exfalso; omega))) (Or.inl rfl) rfl (Nat.le_of_ble_eq_true rfl) (Nat.le_of_ble_eq_true rfl) dX11_isUnder_77
  · rcases (show k = 0 ∨ k = 1 ∨ k = 2 ∨ k = 3 ∨ k = 4 ∨ k = 5 ∨ k = 6 by omega) with c_1e | c_1e | c_1e | c_1e | c_1e | c_1e | c_1e
    · refine v_sw_in (pc := 1) 44 0 dX11_isUnder_1 (by unfold iB; omega) (by omega) (by omega) (by rw [c_1e]; rfl) rfl (by decide) ?_
      refine v_iconst (pc := 44) dX11_isUnder_44 ?_
      exact hret () _ _ _ _ _ _ trivial (congrArg (fun z => some (ai z)) (by split <;> first | rfl | omega | (exfalso; omega))) (Or.inr rfl) rfl (Nat.le_of_ble_eq_true rfl) (Nat.le_of_ble_eq_true rfl) dX11_isUnder_45
    · refine v_sw_in (pc := 1) 46 1 dX11_isUnder_1 (by unfold iB; omega) (by omega) (by omega) (by rw [c_1e]; rfl) rfl (by decide) ?_
      refine v_aload_n (pc := 46) 0 rfl dX11_isUnder_46 ?_
      refine v_instN (pc := 47) (c := 5) rfl (Or.inl r0) wc_X11_307 (List.mem_of_getElem? (i := 4) rfl) dX11_isUnder_47 ?_
      exact hret () _ _ _ _ _ _ trivial (congrArg (fun z => some (ai z)) (by split <;> first | rfl | omega | (exfalso; omega))) (Or.inl rfl) rfl (Nat.le_of_ble_eq_true rfl) (Nat.le_of_ble_eq_true rfl) dX11_isUnder_50
    · refine v_sw_in (pc := 1) 51 2 dX11_isUnder_1 (by unfold iB; omega) (by omega) (by omega) (by rw [c_1e]; rfl) rfl (by decide) ?_
      refine v_aload_n (pc := 51) 0 rfl dX11_isUnder_51 ?_
      refine v_instN (pc := 52) (c := 5) rfl (Or.inl r0) wc_X11_309 (List.mem_of_getElem? (i := 9) rfl) dX11_isUnder_52 ?_
      exact hret () _ _ _ _ _ _ trivial (congrArg (fun z => some (ai z)) (by split <;> first | rfl | omega | (exfalso; omega))) (Or.inl rfl) rfl (Nat.le_of_ble_eq_true rfl) (Nat.le_of_ble_eq_true rfl) dX11_isUnder_55
    · refine v_sw_in (pc := 1) 56 3 dX11_isUnder_1 (by unfold iB; omega) (by omega) (by omega) (by rw [c_1e]; rfl) rfl (by decide) ?_
      refine v_aload_n (pc := 56) 0 rfl dX11_isUnder_56 ?_
      refine v_instN (pc := 57) (c := 5) rfl (Or.inl r0) wc_X11_311 (List.mem_of_getElem? (i := 14) rfl) dX11_isUnder_57 ?_
      exact hret () _ _ _ _ _ _ trivial (congrArg (fun z => some (ai z)) (by split <;> first | rfl | omega | (exfalso; omega))) (Or.inl rfl) rfl (Nat.le_of_ble_eq_true rfl) (Nat.le_of_ble_eq_true rfl) dX11_isUnder_60
    · refine v_sw_in (pc := 1) 61 4 dX11_isUnder_1 (by unfold iB; omega) (by omega) (by omega) (by rw [c_1e]; rfl) rfl (by decide) ?_
      refine v_aload_n (pc := 61) 0 rfl dX11_isUnder_61 ?_
      refine v_instN (pc := 62) (c := 5) rfl (Or.inl r0) wc_X11_313 (List.mem_of_getElem? (i := 20) rfl) dX11_isUnder_62 ?_
      exact hret () _ _ _ _ _ _ trivial (congrArg (fun z => some (ai z)) (by split <;> first | rfl | omega | (exfalso; omega))) (Or.inl rfl) rfl (Nat.le_of_ble_eq_true rfl) (Nat.le_of_ble_eq_true rfl) dX11_isUnder_65
    · refine v_sw_in (pc := 1) 66 5 dX11_isUnder_1 (by unfold iB; omega) (by omega) (by omega) (by rw [c_1e]; rfl) rfl (by decide) ?_
      refine v_aload_n (pc := 66) 0 rfl dX11_isUnder_66 ?_
      refine v_instN (pc := 67) (c := 5) rfl (Or.inl r0) wc_X11_315 (List.mem_of_getElem? (i := 26) rfl) dX11_isUnder_67 ?_
      exact hret () _ _ _ _ _ _ trivial (congrArg (fun z => some (ai z)) (by split <;> first | rfl | omega | (exfalso; omega))) (Or.inl rfl) rfl (Nat.le_of_ble_eq_true rfl) (Nat.le_of_ble_eq_true rfl) dX11_isUnder_70
    · refine v_sw_in (pc := 1) 71 6 dX11_isUnder_1 (by unfold iB; omega) (by omega) (by omega) (by rw [c_1e]; rfl) rfl (by decide) ?_
      refine v_aload_n (pc := 71) 0 rfl dX11_isUnder_71 ?_
      refine v_instN (pc := 72) (c := 5) rfl (Or.inl r0) wc_X11_116 (List.mem_of_getElem? (i := 32) rfl) dX11_isUnder_72 ?_
      exact hret () _ _ _ _ _ _ trivial (congrArg (fun z => some (ai z)) (by split <;> first | rfl | omega | (exfalso; omega))) (Or.inl rfl) rfl (Nat.le_of_ble_eq_true rfl) (Nat.le_of_ble_eq_true rfl) dX11_isUnder_75
set_option maxHeartbeats 4000000 in
set_option maxRecDepth 100000 in
theorem c_X11_isUnder_k8 {gS : sG} (ta : Nat) (q1 : Nat) (t1 : Nat) (f : Int → Int) (p : Int) (k : Int) (hk : f (7 + p) = 1) (hb_k : -2147483648 ≤ k ∧ k < 2147483648) : Ct gS (S := Unit) yX11_isUnder cX11_isUnder 2 (some .boolean) 0 0 0 0 [ar q1, ai k] [] (fun q => q ∈ ([(q1, co 8 [ar ta, ai (f (7 + p)), ai p, ai (f (13 + p)), ai (f (19 + p)), ai (f (25 + p)), ai (f (31 + p)), ai (f (37 + p)), ai (f (43 + p))])] : aW)) (fun _ => True) (fun _ => some (ai (if k = 0 ∨ k = f (7 + p) ∨ (0 < k ∧ k < 4 ∧ f (7 + p) = k + 3) then 1 else 0))) (fun _ => []) := by
  refine ct_Z RX11 [(0, ar q1), (1, ai k)] (by decide) rfl (Nat.le_of_ble_eq_true rfl) rfl (fun x hgS hro hret => ?_)
  subst hgS
  have r0 := hro _ (mem_at 0 rfl)
  show V x cX11_isUnder RX11 2 (rmU 0 0 0 0) [] 0 [(0, ar q1), (1, ai k)] [] 0 0
  refine v_iload_n (pc := 0) 1 rfl dX11_isUnder_0 ?_
  rcases Classical.em (k < 0 ∨ 6 < k) with c_1 | c_1
  · refine v_sw_out (pc := 1) 76 dX11_isUnder_1 (by decide) (by unfold iB; omega) c_1 ?_
    refine v_iconst (pc := 76) dX11_isUnder_76 ?_
    exact hret () _ _ _ _ _ _ trivial (congrArg (fun z => some (ai z)) (by split <;> first | rfl | omega | (exfalso; omega))) (Or.inl rfl) rfl (Nat.le_of_ble_eq_true rfl) (Nat.le_of_ble_eq_true rfl) dX11_isUnder_77
  · rcases (show k = 0 ∨ k = 1 ∨ k = 2 ∨ k = 3 ∨ k = 4 ∨ k = 5 ∨ k = 6 by omega) with c_1e | c_1e | c_1e | c_1e | c_1e | c_1e | c_1e
    · refine v_sw_in (pc := 1) 44 0 dX11_isUnder_1 (by unfold iB; omega) (by omega) (by omega) (by rw [c_1e]; rfl) rfl (by decide) ?_
      refine v_iconst (pc := 44) dX11_isUnder_44 ?_
      exact hret () _ _ _ _ _ _ trivial (congrArg (fun z => some (ai z)) (by split <;> first | rfl | omega | (exfalso; omega))) (Or.inr rfl) rfl (Nat.le_of_ble_eq_true rfl) (Nat.le_of_ble_eq_true rfl) dX11_isUnder_45
    · refine v_sw_in (pc := 1) 46 1 dX11_isUnder_1 (by unfold iB; omega) (by omega) (by omega) (by rw [c_1e]; rfl) rfl (by decide) ?_
      refine v_aload_n (pc := 46) 0 rfl dX11_isUnder_46 ?_
      refine v_instE (pc := 47) (c := 8) rfl (Or.inl r0) wc_X11_307 dX11_isUnder_47 ?_
      exact hret () _ _ _ _ _ _ trivial (congrArg (fun z => some (ai z)) (by split <;> first | rfl | omega | (exfalso; omega))) (Or.inr rfl) rfl (Nat.le_of_ble_eq_true rfl) (Nat.le_of_ble_eq_true rfl) dX11_isUnder_50
    · refine v_sw_in (pc := 1) 51 2 dX11_isUnder_1 (by unfold iB; omega) (by omega) (by omega) (by rw [c_1e]; rfl) rfl (by decide) ?_
      refine v_aload_n (pc := 51) 0 rfl dX11_isUnder_51 ?_
      refine v_instN (pc := 52) (c := 8) rfl (Or.inl r0) wc_X11_309 (List.mem_of_getElem? (i := 5) rfl) dX11_isUnder_52 ?_
      exact hret () _ _ _ _ _ _ trivial (congrArg (fun z => some (ai z)) (by split <;> first | rfl | omega | (exfalso; omega))) (Or.inl rfl) rfl (Nat.le_of_ble_eq_true rfl) (Nat.le_of_ble_eq_true rfl) dX11_isUnder_55
    · refine v_sw_in (pc := 1) 56 3 dX11_isUnder_1 (by unfold iB; omega) (by omega) (by omega) (by rw [c_1e]; rfl) rfl (by decide) ?_
      refine v_aload_n (pc := 56) 0 rfl dX11_isUnder_56 ?_
      refine v_instN (pc := 57) (c := 8) rfl (Or.inl r0) wc_X11_311 (List.mem_of_getElem? (i := 10) rfl) dX11_isUnder_57 ?_
      exact hret () _ _ _ _ _ _ trivial (congrArg (fun z => some (ai z)) (by split <;> first | rfl | omega | (exfalso; omega))) (Or.inl rfl) rfl (Nat.le_of_ble_eq_true rfl) (Nat.le_of_ble_eq_true rfl) dX11_isUnder_60
    · refine v_sw_in (pc := 1) 61 4 dX11_isUnder_1 (by unfold iB; omega) (by omega) (by omega) (by rw [c_1e]; rfl) rfl (by decide) ?_
      refine v_aload_n (pc := 61) 0 rfl dX11_isUnder_61 ?_
      refine v_instN (pc := 62) (c := 8) rfl (Or.inl r0) wc_X11_313 (List.mem_of_getElem? (i := 15) rfl) dX11_isUnder_62 ?_
      exact hret () _ _ _ _ _ _ trivial (congrArg (fun z => some (ai z)) (by split <;> first | rfl | omega | (exfalso; omega))) (Or.inl rfl) rfl (Nat.le_of_ble_eq_true rfl) (Nat.le_of_ble_eq_true rfl) dX11_isUnder_65
    · refine v_sw_in (pc := 1) 66 5 dX11_isUnder_1 (by unfold iB; omega) (by omega) (by omega) (by rw [c_1e]; rfl) rfl (by decide) ?_
      refine v_aload_n (pc := 66) 0 rfl dX11_isUnder_66 ?_
      refine v_instN (pc := 67) (c := 8) rfl (Or.inl r0) wc_X11_315 (List.mem_of_getElem? (i := 21) rfl) dX11_isUnder_67 ?_
      exact hret () _ _ _ _ _ _ trivial (congrArg (fun z => some (ai z)) (by split <;> first | rfl | omega | (exfalso; omega))) (Or.inl rfl) rfl (Nat.le_of_ble_eq_true rfl) (Nat.le_of_ble_eq_true rfl) dX11_isUnder_70
    · refine v_sw_in (pc := 1) 71 6 dX11_isUnder_1 (by unfold iB; omega) (by omega) (by omega) (by rw [c_1e]; rfl) rfl (by decide) ?_
      refine v_aload_n (pc := 71) 0 rfl dX11_isUnder_71 ?_
      refine v_instN (pc := 72) (c := 8) rfl (Or.inl r0) wc_X11_116 (List.mem_of_getElem? (i := 27) rfl) dX11_isUnder_72 ?_
      exact hret () _ _ _ _ _ _ trivial (congrArg (fun z => some (ai z)) (by split <;> first | rfl | omega | (exfalso; omega))) (Or.inl rfl) rfl (Nat.le_of_ble_eq_true rfl) (Nat.le_of_ble_eq_true rfl) dX11_isUnder_75
set_option maxHeartbeats 4000000 in
set_option maxRecDepth 100000 in
theorem c_X11_isUnder_k0 {gS : sG} (ta : Nat) (q1 : Nat) (t1 : Nat) (f : Int → Int) (p : Int) (k : Int) (hk : f (7 + p) = 2) (hb_k : -2147483648 ≤ k ∧ k < 2147483648) : Ct gS (S := Unit) yX11_isUnder cX11_isUnder 2 (some .boolean) 0 0 0 0 [ar q1, ai k] [] (fun q => q ∈ ([(q1, co 0 [ar ta, ai (f (7 + p)), ai p, ai (f (13 + p)), ai (f (19 + p)), ai (f (25 + p)), ai (f (31 + p)), ai (f (37 + p)), ai (f (43 + p))])] : aW)) (fun _ => True) (fun _ => some (ai (if k = 0 ∨ k = f (7 + p) ∨ (0 < k ∧ k < 4 ∧ f (7 + p) = k + 3) then 1 else 0))) (fun _ => []) := by
  refine ct_Z RX11 [(0, ar q1), (1, ai k)] (by decide) rfl (Nat.le_of_ble_eq_true rfl) rfl (fun x hgS hro hret => ?_)
  subst hgS
  have r0 := hro _ (mem_at 0 rfl)
  show V x cX11_isUnder RX11 2 (rmU 0 0 0 0) [] 0 [(0, ar q1), (1, ai k)] [] 0 0
  refine v_iload_n (pc := 0) 1 rfl dX11_isUnder_0 ?_
  rcases Classical.em (k < 0 ∨ 6 < k) with c_1 | c_1
  · refine v_sw_out (pc := 1) 76 dX11_isUnder_1 (by decide) (by unfold iB; omega) c_1 ?_
    refine v_iconst (pc := 76) dX11_isUnder_76 ?_
    exact hret () _ _ _ _ _ _ trivial (congrArg (fun z => some (ai z)) (by split <;> first | rfl | omega | (exfalso; omega))) (Or.inl rfl) rfl (Nat.le_of_ble_eq_true rfl) (Nat.le_of_ble_eq_true rfl) dX11_isUnder_77
  · rcases (show k = 0 ∨ k = 1 ∨ k = 2 ∨ k = 3 ∨ k = 4 ∨ k = 5 ∨ k = 6 by omega) with c_1e | c_1e | c_1e | c_1e | c_1e | c_1e | c_1e
    · refine v_sw_in (pc := 1) 44 0 dX11_isUnder_1 (by unfold iB; omega) (by omega) (by omega) (by rw [c_1e]; rfl) rfl (by decide) ?_
      refine v_iconst (pc := 44) dX11_isUnder_44 ?_
      exact hret () _ _ _ _ _ _ trivial (congrArg (fun z => some (ai z)) (by split <;> first | rfl | omega | (exfalso; omega))) (Or.inr rfl) rfl (Nat.le_of_ble_eq_true rfl) (Nat.le_of_ble_eq_true rfl) dX11_isUnder_45
    · refine v_sw_in (pc := 1) 46 1 dX11_isUnder_1 (by unfold iB; omega) (by omega) (by omega) (by rw [c_1e]; rfl) rfl (by decide) ?_
      refine v_aload_n (pc := 46) 0 rfl dX11_isUnder_46 ?_
      refine v_instN (pc := 47) (c := 0) rfl (Or.inl r0) wc_X11_307 (List.mem_of_getElem? (i := 0) rfl) dX11_isUnder_47 ?_
      exact hret () _ _ _ _ _ _ trivial (congrArg (fun z => some (ai z)) (by split <;> first | rfl | omega | (exfalso; omega))) (Or.inl rfl) rfl (Nat.le_of_ble_eq_true rfl) (Nat.le_of_ble_eq_true rfl) dX11_isUnder_50
    · refine v_sw_in (pc := 1) 51 2 dX11_isUnder_1 (by unfold iB; omega) (by omega) (by omega) (by rw [c_1e]; rfl) rfl (by decide) ?_
      refine v_aload_n (pc := 51) 0 rfl dX11_isUnder_51 ?_
      refine v_instE (pc := 52) (c := 0) rfl (Or.inl r0) wc_X11_309 dX11_isUnder_52 ?_
      exact hret () _ _ _ _ _ _ trivial (congrArg (fun z => some (ai z)) (by split <;> first | rfl | omega | (exfalso; omega))) (Or.inr rfl) rfl (Nat.le_of_ble_eq_true rfl) (Nat.le_of_ble_eq_true rfl) dX11_isUnder_55
    · refine v_sw_in (pc := 1) 56 3 dX11_isUnder_1 (by unfold iB; omega) (by omega) (by omega) (by rw [c_1e]; rfl) rfl (by decide) ?_
      refine v_aload_n (pc := 56) 0 rfl dX11_isUnder_56 ?_
      refine v_instN (pc := 57) (c := 0) rfl (Or.inl r0) wc_X11_311 (List.mem_of_getElem? (i := 11) rfl) dX11_isUnder_57 ?_
      exact hret () _ _ _ _ _ _ trivial (congrArg (fun z => some (ai z)) (by split <;> first | rfl | omega | (exfalso; omega))) (Or.inl rfl) rfl (Nat.le_of_ble_eq_true rfl) (Nat.le_of_ble_eq_true rfl) dX11_isUnder_60
    · refine v_sw_in (pc := 1) 61 4 dX11_isUnder_1 (by unfold iB; omega) (by omega) (by omega) (by rw [c_1e]; rfl) rfl (by decide) ?_
      refine v_aload_n (pc := 61) 0 rfl dX11_isUnder_61 ?_
      refine v_instN (pc := 62) (c := 0) rfl (Or.inl r0) wc_X11_313 (List.mem_of_getElem? (i := 16) rfl) dX11_isUnder_62 ?_
      exact hret () _ _ _ _ _ _ trivial (congrArg (fun z => some (ai z)) (by split <;> first | rfl | omega | (exfalso; omega))) (Or.inl rfl) rfl (Nat.le_of_ble_eq_true rfl) (Nat.le_of_ble_eq_true rfl) dX11_isUnder_65
    · refine v_sw_in (pc := 1) 66 5 dX11_isUnder_1 (by unfold iB; omega) (by omega) (by omega) (by rw [c_1e]; rfl) rfl (by decide) ?_
      refine v_aload_n (pc := 66) 0 rfl dX11_isUnder_66 ?_
      refine v_instN (pc := 67) (c := 0) rfl (Or.inl r0) wc_X11_315 (List.mem_of_getElem? (i := 22) rfl) dX11_isUnder_67 ?_
      exact hret () _ _ _ _ _ _ trivial (congrArg (fun z => some (ai z)) (by split <;> first | rfl | omega | (exfalso; omega))) (Or.inl rfl) rfl (Nat.le_of_ble_eq_true rfl) (Nat.le_of_ble_eq_true rfl) dX11_isUnder_70
    · refine v_sw_in (pc := 1) 71 6 dX11_isUnder_1 (by unfold iB; omega) (by omega) (by omega) (by rw [c_1e]; rfl) rfl (by decide) ?_
      refine v_aload_n (pc := 71) 0 rfl dX11_isUnder_71 ?_
      refine v_instN (pc := 72) (c := 0) rfl (Or.inl r0) wc_X11_116 (List.mem_of_getElem? (i := 28) rfl) dX11_isUnder_72 ?_
      exact hret () _ _ _ _ _ _ trivial (congrArg (fun z => some (ai z)) (by split <;> first | rfl | omega | (exfalso; omega))) (Or.inl rfl) rfl (Nat.le_of_ble_eq_true rfl) (Nat.le_of_ble_eq_true rfl) dX11_isUnder_75
set_option maxHeartbeats 4000000 in
set_option maxRecDepth 100000 in
theorem c_X11_isUnder_k7 {gS : sG} (ta : Nat) (q1 : Nat) (t1 : Nat) (f : Int → Int) (p : Int) (k : Int) (hk : f (7 + p) = 3) (hb_k : -2147483648 ≤ k ∧ k < 2147483648) : Ct gS (S := Unit) yX11_isUnder cX11_isUnder 2 (some .boolean) 0 0 0 0 [ar q1, ai k] [] (fun q => q ∈ ([(q1, co 7 [ar ta, ai (f (7 + p)), ai p, ai (f (13 + p)), ai (f (19 + p)), ai (f (25 + p)), ai (f (31 + p)), ai (f (37 + p)), ai (f (43 + p))])] : aW)) (fun _ => True) (fun _ => some (ai (if k = 0 ∨ k = f (7 + p) ∨ (0 < k ∧ k < 4 ∧ f (7 + p) = k + 3) then 1 else 0))) (fun _ => []) := by
  refine ct_Z RX11 [(0, ar q1), (1, ai k)] (by decide) rfl (Nat.le_of_ble_eq_true rfl) rfl (fun x hgS hro hret => ?_)
  subst hgS
  have r0 := hro _ (mem_at 0 rfl)
  show V x cX11_isUnder RX11 2 (rmU 0 0 0 0) [] 0 [(0, ar q1), (1, ai k)] [] 0 0
  refine v_iload_n (pc := 0) 1 rfl dX11_isUnder_0 ?_
  rcases Classical.em (k < 0 ∨ 6 < k) with c_1 | c_1
  · refine v_sw_out (pc := 1) 76 dX11_isUnder_1 (by decide) (by unfold iB; omega) c_1 ?_
    refine v_iconst (pc := 76) dX11_isUnder_76 ?_
    exact hret () _ _ _ _ _ _ trivial (congrArg (fun z => some (ai z)) (by split <;> first | rfl | omega | (exfalso; omega))) (Or.inl rfl) rfl (Nat.le_of_ble_eq_true rfl) (Nat.le_of_ble_eq_true rfl) dX11_isUnder_77
  · rcases (show k = 0 ∨ k = 1 ∨ k = 2 ∨ k = 3 ∨ k = 4 ∨ k = 5 ∨ k = 6 by omega) with c_1e | c_1e | c_1e | c_1e | c_1e | c_1e | c_1e
    · refine v_sw_in (pc := 1) 44 0 dX11_isUnder_1 (by unfold iB; omega) (by omega) (by omega) (by rw [c_1e]; rfl) rfl (by decide) ?_
      refine v_iconst (pc := 44) dX11_isUnder_44 ?_
      exact hret () _ _ _ _ _ _ trivial (congrArg (fun z => some (ai z)) (by split <;> first | rfl | omega | (exfalso; omega))) (Or.inr rfl) rfl (Nat.le_of_ble_eq_true rfl) (Nat.le_of_ble_eq_true rfl) dX11_isUnder_45
    · refine v_sw_in (pc := 1) 46 1 dX11_isUnder_1 (by unfold iB; omega) (by omega) (by omega) (by rw [c_1e]; rfl) rfl (by decide) ?_
      refine v_aload_n (pc := 46) 0 rfl dX11_isUnder_46 ?_
      refine v_instN (pc := 47) (c := 7) rfl (Or.inl r0) wc_X11_307 (List.mem_of_getElem? (i := 1) rfl) dX11_isUnder_47 ?_
      exact hret () _ _ _ _ _ _ trivial (congrArg (fun z => some (ai z)) (by split <;> first | rfl | omega | (exfalso; omega))) (Or.inl rfl) rfl (Nat.le_of_ble_eq_true rfl) (Nat.le_of_ble_eq_true rfl) dX11_isUnder_50
    · refine v_sw_in (pc := 1) 51 2 dX11_isUnder_1 (by unfold iB; omega) (by omega) (by omega) (by rw [c_1e]; rfl) rfl (by decide) ?_
      refine v_aload_n (pc := 51) 0 rfl dX11_isUnder_51 ?_
      refine v_instN (pc := 52) (c := 7) rfl (Or.inl r0) wc_X11_309 (List.mem_of_getElem? (i := 6) rfl) dX11_isUnder_52 ?_
      exact hret () _ _ _ _ _ _ trivial (congrArg (fun z => some (ai z)) (by split <;> first | rfl | omega | (exfalso; omega))) (Or.inl rfl) rfl (Nat.le_of_ble_eq_true rfl) (Nat.le_of_ble_eq_true rfl) dX11_isUnder_55
    · refine v_sw_in (pc := 1) 56 3 dX11_isUnder_1 (by unfold iB; omega) (by omega) (by omega) (by rw [c_1e]; rfl) rfl (by decide) ?_
      refine v_aload_n (pc := 56) 0 rfl dX11_isUnder_56 ?_
      refine v_instE (pc := 57) (c := 7) rfl (Or.inl r0) wc_X11_311 dX11_isUnder_57 ?_
      exact hret () _ _ _ _ _ _ trivial (congrArg (fun z => some (ai z)) (by split <;> first | rfl | omega | (exfalso; omega))) (Or.inr rfl) rfl (Nat.le_of_ble_eq_true rfl) (Nat.le_of_ble_eq_true rfl) dX11_isUnder_60
    · refine v_sw_in (pc := 1) 61 4 dX11_isUnder_1 (by unfold iB; omega) (by omega) (by omega) (by rw [c_1e]; rfl) rfl (by decide) ?_
      refine v_aload_n (pc := 61) 0 rfl dX11_isUnder_61 ?_
      refine v_instN (pc := 62) (c := 7) rfl (Or.inl r0) wc_X11_313 (List.mem_of_getElem? (i := 17) rfl) dX11_isUnder_62 ?_
      exact hret () _ _ _ _ _ _ trivial (congrArg (fun z => some (ai z)) (by split <;> first | rfl | omega | (exfalso; omega))) (Or.inl rfl) rfl (Nat.le_of_ble_eq_true rfl) (Nat.le_of_ble_eq_true rfl) dX11_isUnder_65
    · refine v_sw_in (pc := 1) 66 5 dX11_isUnder_1 (by unfold iB; omega) (by omega) (by omega) (by rw [c_1e]; rfl) rfl (by decide) ?_
      refine v_aload_n (pc := 66) 0 rfl dX11_isUnder_66 ?_
      refine v_instN (pc := 67) (c := 7) rfl (Or.inl r0) wc_X11_315 (List.mem_of_getElem? (i := 23) rfl) dX11_isUnder_67 ?_
      exact hret () _ _ _ _ _ _ trivial (congrArg (fun z => some (ai z)) (by split <;> first | rfl | omega | (exfalso; omega))) (Or.inl rfl) rfl (Nat.le_of_ble_eq_true rfl) (Nat.le_of_ble_eq_true rfl) dX11_isUnder_70
    · refine v_sw_in (pc := 1) 71 6 dX11_isUnder_1 (by unfold iB; omega) (by omega) (by omega) (by rw [c_1e]; rfl) rfl (by decide) ?_
      refine v_aload_n (pc := 71) 0 rfl dX11_isUnder_71 ?_
      refine v_instN (pc := 72) (c := 7) rfl (Or.inl r0) wc_X11_116 (List.mem_of_getElem? (i := 29) rfl) dX11_isUnder_72 ?_
      exact hret () _ _ _ _ _ _ trivial (congrArg (fun z => some (ai z)) (by split <;> first | rfl | omega | (exfalso; omega))) (Or.inl rfl) rfl (Nat.le_of_ble_eq_true rfl) (Nat.le_of_ble_eq_true rfl) dX11_isUnder_75
set_option maxHeartbeats 4000000 in
set_option maxRecDepth 100000 in
theorem c_X11_isUnder_k1 {gS : sG} (ta : Nat) (q1 : Nat) (t1 : Nat) (f : Int → Int) (p : Int) (k : Int) (hk : f (7 + p) = 4) (hb_k : -2147483648 ≤ k ∧ k < 2147483648) : Ct gS (S := Unit) yX11_isUnder cX11_isUnder 2 (some .boolean) 0 0 0 0 [ar q1, ai k] [] (fun q => q ∈ ([(q1, co 1 [ar ta, ai (f (7 + p)), ai p, ai (f (13 + p)), ai (f (19 + p)), ai (f (25 + p)), ai (f (31 + p)), ai (f (37 + p)), ai (f (43 + p))])] : aW)) (fun _ => True) (fun _ => some (ai (if k = 0 ∨ k = f (7 + p) ∨ (0 < k ∧ k < 4 ∧ f (7 + p) = k + 3) then 1 else 0))) (fun _ => []) := by
  refine ct_Z RX11 [(0, ar q1), (1, ai k)] (by decide) rfl (Nat.le_of_ble_eq_true rfl) rfl (fun x hgS hro hret => ?_)
  subst hgS
  have r0 := hro _ (mem_at 0 rfl)
  show V x cX11_isUnder RX11 2 (rmU 0 0 0 0) [] 0 [(0, ar q1), (1, ai k)] [] 0 0
  refine v_iload_n (pc := 0) 1 rfl dX11_isUnder_0 ?_
  rcases Classical.em (k < 0 ∨ 6 < k) with c_1 | c_1
  · refine v_sw_out (pc := 1) 76 dX11_isUnder_1 (by decide) (by unfold iB; omega) c_1 ?_
    refine v_iconst (pc := 76) dX11_isUnder_76 ?_
    exact hret () _ _ _ _ _ _ trivial (congrArg (fun z => some (ai z)) (by split <;> first | rfl | omega | (exfalso; omega))) (Or.inl rfl) rfl (Nat.le_of_ble_eq_true rfl) (Nat.le_of_ble_eq_true rfl) dX11_isUnder_77
  · rcases (show k = 0 ∨ k = 1 ∨ k = 2 ∨ k = 3 ∨ k = 4 ∨ k = 5 ∨ k = 6 by omega) with c_1e | c_1e | c_1e | c_1e | c_1e | c_1e | c_1e
    · refine v_sw_in (pc := 1) 44 0 dX11_isUnder_1 (by unfold iB; omega) (by omega) (by omega) (by rw [c_1e]; rfl) rfl (by decide) ?_
      refine v_iconst (pc := 44) dX11_isUnder_44 ?_
      exact hret () _ _ _ _ _ _ trivial (congrArg (fun z => some (ai z)) (by split <;> first | rfl | omega | (exfalso; omega))) (Or.inr rfl) rfl (Nat.le_of_ble_eq_true rfl) (Nat.le_of_ble_eq_true rfl) dX11_isUnder_45
    · refine v_sw_in (pc := 1) 46 1 dX11_isUnder_1 (by unfold iB; omega) (by omega) (by omega) (by rw [c_1e]; rfl) rfl (by decide) ?_
      refine v_aload_n (pc := 46) 0 rfl dX11_isUnder_46 ?_
      refine v_instY (pc := 47) (c := 1) rfl (Or.inl r0) wc_X11_307 (List.mem_of_getElem? (i := 0) rfl) dX11_isUnder_47 ?_
      exact hret () _ _ _ _ _ _ trivial (congrArg (fun z => some (ai z)) (by split <;> first | rfl | omega | (exfalso; omega))) (Or.inr rfl) rfl (Nat.le_of_ble_eq_true rfl) (Nat.le_of_ble_eq_true rfl) dX11_isUnder_50
    · refine v_sw_in (pc := 1) 51 2 dX11_isUnder_1 (by unfold iB; omega) (by omega) (by omega) (by rw [c_1e]; rfl) rfl (by decide) ?_
      refine v_aload_n (pc := 51) 0 rfl dX11_isUnder_51 ?_
      refine v_instN (pc := 52) (c := 1) rfl (Or.inl r0) wc_X11_309 (List.mem_of_getElem? (i := 7) rfl) dX11_isUnder_52 ?_
      exact hret () _ _ _ _ _ _ trivial (congrArg (fun z => some (ai z)) (by split <;> first | rfl | omega | (exfalso; omega))) (Or.inl rfl) rfl (Nat.le_of_ble_eq_true rfl) (Nat.le_of_ble_eq_true rfl) dX11_isUnder_55
    · refine v_sw_in (pc := 1) 56 3 dX11_isUnder_1 (by unfold iB; omega) (by omega) (by omega) (by rw [c_1e]; rfl) rfl (by decide) ?_
      refine v_aload_n (pc := 56) 0 rfl dX11_isUnder_56 ?_
      refine v_instN (pc := 57) (c := 1) rfl (Or.inl r0) wc_X11_311 (List.mem_of_getElem? (i := 12) rfl) dX11_isUnder_57 ?_
      exact hret () _ _ _ _ _ _ trivial (congrArg (fun z => some (ai z)) (by split <;> first | rfl | omega | (exfalso; omega))) (Or.inl rfl) rfl (Nat.le_of_ble_eq_true rfl) (Nat.le_of_ble_eq_true rfl) dX11_isUnder_60
    · refine v_sw_in (pc := 1) 61 4 dX11_isUnder_1 (by unfold iB; omega) (by omega) (by omega) (by rw [c_1e]; rfl) rfl (by decide) ?_
      refine v_aload_n (pc := 61) 0 rfl dX11_isUnder_61 ?_
      refine v_instE (pc := 62) (c := 1) rfl (Or.inl r0) wc_X11_313 dX11_isUnder_62 ?_
      exact hret () _ _ _ _ _ _ trivial (congrArg (fun z => some (ai z)) (by split <;> first | rfl | omega | (exfalso; omega))) (Or.inr rfl) rfl (Nat.le_of_ble_eq_true rfl) (Nat.le_of_ble_eq_true rfl) dX11_isUnder_65
    · refine v_sw_in (pc := 1) 66 5 dX11_isUnder_1 (by unfold iB; omega) (by omega) (by omega) (by rw [c_1e]; rfl) rfl (by decide) ?_
      refine v_aload_n (pc := 66) 0 rfl dX11_isUnder_66 ?_
      refine v_instN (pc := 67) (c := 1) rfl (Or.inl r0) wc_X11_315 (List.mem_of_getElem? (i := 24) rfl) dX11_isUnder_67 ?_
      exact hret () _ _ _ _ _ _ trivial (congrArg (fun z => some (ai z)) (by split <;> first | rfl | omega | (exfalso; omega))) (Or.inl rfl) rfl (Nat.le_of_ble_eq_true rfl) (Nat.le_of_ble_eq_true rfl) dX11_isUnder_70
    · refine v_sw_in (pc := 1) 71 6 dX11_isUnder_1 (by unfold iB; omega) (by omega) (by omega) (by rw [c_1e]; rfl) rfl (by decide) ?_
      refine v_aload_n (pc := 71) 0 rfl dX11_isUnder_71 ?_
      refine v_instN (pc := 72) (c := 1) rfl (Or.inl r0) wc_X11_116 (List.mem_of_getElem? (i := 30) rfl) dX11_isUnder_72 ?_
      exact hret () _ _ _ _ _ _ trivial (congrArg (fun z => some (ai z)) (by split <;> first | rfl | omega | (exfalso; omega))) (Or.inl rfl) rfl (Nat.le_of_ble_eq_true rfl) (Nat.le_of_ble_eq_true rfl) dX11_isUnder_75
set_option maxHeartbeats 4000000 in
set_option maxRecDepth 100000 in
theorem c_X11_isUnder_k2 {gS : sG} (ta : Nat) (q1 : Nat) (t1 : Nat) (f : Int → Int) (p : Int) (k : Int) (hk : f (7 + p) = 5) (hb_k : -2147483648 ≤ k ∧ k < 2147483648) : Ct gS (S := Unit) yX11_isUnder cX11_isUnder 2 (some .boolean) 0 0 0 0 [ar q1, ai k] [] (fun q => q ∈ ([(q1, co 2 [ar ta, ai (f (7 + p)), ai p, ai (f (13 + p)), ai (f (19 + p)), ai (f (25 + p)), ai (f (31 + p)), ai (f (37 + p)), ai (f (43 + p))])] : aW)) (fun _ => True) (fun _ => some (ai (if k = 0 ∨ k = f (7 + p) ∨ (0 < k ∧ k < 4 ∧ f (7 + p) = k + 3) then 1 else 0))) (fun _ => []) := by
  refine ct_Z RX11 [(0, ar q1), (1, ai k)] (by decide) rfl (Nat.le_of_ble_eq_true rfl) rfl (fun x hgS hro hret => ?_)
  subst hgS
  have r0 := hro _ (mem_at 0 rfl)
  show V x cX11_isUnder RX11 2 (rmU 0 0 0 0) [] 0 [(0, ar q1), (1, ai k)] [] 0 0
  refine v_iload_n (pc := 0) 1 rfl dX11_isUnder_0 ?_
  rcases Classical.em (k < 0 ∨ 6 < k) with c_1 | c_1
  · refine v_sw_out (pc := 1) 76 dX11_isUnder_1 (by decide) (by unfold iB; omega) c_1 ?_
    refine v_iconst (pc := 76) dX11_isUnder_76 ?_
    exact hret () _ _ _ _ _ _ trivial (congrArg (fun z => some (ai z)) (by split <;> first | rfl | omega | (exfalso; omega))) (Or.inl rfl) rfl (Nat.le_of_ble_eq_true rfl) (Nat.le_of_ble_eq_true rfl) dX11_isUnder_77
  · rcases (show k = 0 ∨ k = 1 ∨ k = 2 ∨ k = 3 ∨ k = 4 ∨ k = 5 ∨ k = 6 by omega) with c_1e | c_1e | c_1e | c_1e | c_1e | c_1e | c_1e
    · refine v_sw_in (pc := 1) 44 0 dX11_isUnder_1 (by unfold iB; omega) (by omega) (by omega) (by rw [c_1e]; rfl) rfl (by decide) ?_
      refine v_iconst (pc := 44) dX11_isUnder_44 ?_
      exact hret () _ _ _ _ _ _ trivial (congrArg (fun z => some (ai z)) (by split <;> first | rfl | omega | (exfalso; omega))) (Or.inr rfl) rfl (Nat.le_of_ble_eq_true rfl) (Nat.le_of_ble_eq_true rfl) dX11_isUnder_45
    · refine v_sw_in (pc := 1) 46 1 dX11_isUnder_1 (by unfold iB; omega) (by omega) (by omega) (by rw [c_1e]; rfl) rfl (by decide) ?_
      refine v_aload_n (pc := 46) 0 rfl dX11_isUnder_46 ?_
      refine v_instN (pc := 47) (c := 2) rfl (Or.inl r0) wc_X11_307 (List.mem_of_getElem? (i := 2) rfl) dX11_isUnder_47 ?_
      exact hret () _ _ _ _ _ _ trivial (congrArg (fun z => some (ai z)) (by split <;> first | rfl | omega | (exfalso; omega))) (Or.inl rfl) rfl (Nat.le_of_ble_eq_true rfl) (Nat.le_of_ble_eq_true rfl) dX11_isUnder_50
    · refine v_sw_in (pc := 1) 51 2 dX11_isUnder_1 (by unfold iB; omega) (by omega) (by omega) (by rw [c_1e]; rfl) rfl (by decide) ?_
      refine v_aload_n (pc := 51) 0 rfl dX11_isUnder_51 ?_
      refine v_instY (pc := 52) (c := 2) rfl (Or.inl r0) wc_X11_309 (List.mem_of_getElem? (i := 2) rfl) dX11_isUnder_52 ?_
      exact hret () _ _ _ _ _ _ trivial (congrArg (fun z => some (ai z)) (by split <;> first | rfl | omega | (exfalso; omega))) (Or.inr rfl) rfl (Nat.le_of_ble_eq_true rfl) (Nat.le_of_ble_eq_true rfl) dX11_isUnder_55
    · refine v_sw_in (pc := 1) 56 3 dX11_isUnder_1 (by unfold iB; omega) (by omega) (by omega) (by rw [c_1e]; rfl) rfl (by decide) ?_
      refine v_aload_n (pc := 56) 0 rfl dX11_isUnder_56 ?_
      refine v_instN (pc := 57) (c := 2) rfl (Or.inl r0) wc_X11_311 (List.mem_of_getElem? (i := 13) rfl) dX11_isUnder_57 ?_
      exact hret () _ _ _ _ _ _ trivial (congrArg (fun z => some (ai z)) (by split <;> first | rfl | omega | (exfalso; omega))) (Or.inl rfl) rfl (Nat.le_of_ble_eq_true rfl) (Nat.le_of_ble_eq_true rfl) dX11_isUnder_60
    · refine v_sw_in (pc := 1) 61 4 dX11_isUnder_1 (by unfold iB; omega) (by omega) (by omega) (by rw [c_1e]; rfl) rfl (by decide) ?_
      refine v_aload_n (pc := 61) 0 rfl dX11_isUnder_61 ?_
      refine v_instN (pc := 62) (c := 2) rfl (Or.inl r0) wc_X11_313 (List.mem_of_getElem? (i := 18) rfl) dX11_isUnder_62 ?_
      exact hret () _ _ _ _ _ _ trivial (congrArg (fun z => some (ai z)) (by split <;> first | rfl | omega | (exfalso; omega))) (Or.inl rfl) rfl (Nat.le_of_ble_eq_true rfl) (Nat.le_of_ble_eq_true rfl) dX11_isUnder_65
    · refine v_sw_in (pc := 1) 66 5 dX11_isUnder_1 (by unfold iB; omega) (by omega) (by omega) (by rw [c_1e]; rfl) rfl (by decide) ?_
      refine v_aload_n (pc := 66) 0 rfl dX11_isUnder_66 ?_
      refine v_instE (pc := 67) (c := 2) rfl (Or.inl r0) wc_X11_315 dX11_isUnder_67 ?_
      exact hret () _ _ _ _ _ _ trivial (congrArg (fun z => some (ai z)) (by split <;> first | rfl | omega | (exfalso; omega))) (Or.inr rfl) rfl (Nat.le_of_ble_eq_true rfl) (Nat.le_of_ble_eq_true rfl) dX11_isUnder_70
    · refine v_sw_in (pc := 1) 71 6 dX11_isUnder_1 (by unfold iB; omega) (by omega) (by omega) (by rw [c_1e]; rfl) rfl (by decide) ?_
      refine v_aload_n (pc := 71) 0 rfl dX11_isUnder_71 ?_
      refine v_instN (pc := 72) (c := 2) rfl (Or.inl r0) wc_X11_116 (List.mem_of_getElem? (i := 31) rfl) dX11_isUnder_72 ?_
      exact hret () _ _ _ _ _ _ trivial (congrArg (fun z => some (ai z)) (by split <;> first | rfl | omega | (exfalso; omega))) (Or.inl rfl) rfl (Nat.le_of_ble_eq_true rfl) (Nat.le_of_ble_eq_true rfl) dX11_isUnder_75
set_option maxHeartbeats 4000000 in
set_option maxRecDepth 100000 in
theorem c_X11_isUnder_k9 {gS : sG} (ta : Nat) (q1 : Nat) (t1 : Nat) (f : Int → Int) (p : Int) (k : Int) (hk : f (7 + p) = 6) (hb_k : -2147483648 ≤ k ∧ k < 2147483648) : Ct gS (S := Unit) yX11_isUnder cX11_isUnder 2 (some .boolean) 0 0 0 0 [ar q1, ai k] [] (fun q => q ∈ ([(q1, co 9 [ar ta, ai (f (7 + p)), ai p, ai (f (13 + p)), ai (f (19 + p)), ai (f (25 + p)), ai (f (31 + p)), ai (f (37 + p)), ai (f (43 + p)), ar t1])] : aW)) (fun _ => True) (fun _ => some (ai (if k = 0 ∨ k = f (7 + p) ∨ (0 < k ∧ k < 4 ∧ f (7 + p) = k + 3) then 1 else 0))) (fun _ => []) := by
  refine ct_Z RX11 [(0, ar q1), (1, ai k)] (by decide) rfl (Nat.le_of_ble_eq_true rfl) rfl (fun x hgS hro hret => ?_)
  subst hgS
  have r0 := hro _ (mem_at 0 rfl)
  show V x cX11_isUnder RX11 2 (rmU 0 0 0 0) [] 0 [(0, ar q1), (1, ai k)] [] 0 0
  refine v_iload_n (pc := 0) 1 rfl dX11_isUnder_0 ?_
  rcases Classical.em (k < 0 ∨ 6 < k) with c_1 | c_1
  · refine v_sw_out (pc := 1) 76 dX11_isUnder_1 (by decide) (by unfold iB; omega) c_1 ?_
    refine v_iconst (pc := 76) dX11_isUnder_76 ?_
    exact hret () _ _ _ _ _ _ trivial (congrArg (fun z => some (ai z)) (by split <;> first | rfl | omega | (exfalso; omega))) (Or.inl rfl) rfl (Nat.le_of_ble_eq_true rfl) (Nat.le_of_ble_eq_true rfl) dX11_isUnder_77
  · rcases (show k = 0 ∨ k = 1 ∨ k = 2 ∨ k = 3 ∨ k = 4 ∨ k = 5 ∨ k = 6 by omega) with c_1e | c_1e | c_1e | c_1e | c_1e | c_1e | c_1e
    · refine v_sw_in (pc := 1) 44 0 dX11_isUnder_1 (by unfold iB; omega) (by omega) (by omega) (by rw [c_1e]; rfl) rfl (by decide) ?_
      refine v_iconst (pc := 44) dX11_isUnder_44 ?_
      exact hret () _ _ _ _ _ _ trivial (congrArg (fun z => some (ai z)) (by split <;> first | rfl | omega | (exfalso; omega))) (Or.inr rfl) rfl (Nat.le_of_ble_eq_true rfl) (Nat.le_of_ble_eq_true rfl) dX11_isUnder_45
    · refine v_sw_in (pc := 1) 46 1 dX11_isUnder_1 (by unfold iB; omega) (by omega) (by omega) (by rw [c_1e]; rfl) rfl (by decide) ?_
      refine v_aload_n (pc := 46) 0 rfl dX11_isUnder_46 ?_
      refine v_instN (pc := 47) (c := 9) rfl (Or.inl r0) wc_X11_307 (List.mem_of_getElem? (i := 3) rfl) dX11_isUnder_47 ?_
      exact hret () _ _ _ _ _ _ trivial (congrArg (fun z => some (ai z)) (by split <;> first | rfl | omega | (exfalso; omega))) (Or.inl rfl) rfl (Nat.le_of_ble_eq_true rfl) (Nat.le_of_ble_eq_true rfl) dX11_isUnder_50
    · refine v_sw_in (pc := 1) 51 2 dX11_isUnder_1 (by unfold iB; omega) (by omega) (by omega) (by rw [c_1e]; rfl) rfl (by decide) ?_
      refine v_aload_n (pc := 51) 0 rfl dX11_isUnder_51 ?_
      refine v_instN (pc := 52) (c := 9) rfl (Or.inl r0) wc_X11_309 (List.mem_of_getElem? (i := 8) rfl) dX11_isUnder_52 ?_
      exact hret () _ _ _ _ _ _ trivial (congrArg (fun z => some (ai z)) (by split <;> first | rfl | omega | (exfalso; omega))) (Or.inl rfl) rfl (Nat.le_of_ble_eq_true rfl) (Nat.le_of_ble_eq_true rfl) dX11_isUnder_55
    · refine v_sw_in (pc := 1) 56 3 dX11_isUnder_1 (by unfold iB; omega) (by omega) (by omega) (by rw [c_1e]; rfl) rfl (by decide) ?_
      refine v_aload_n (pc := 56) 0 rfl dX11_isUnder_56 ?_
      refine v_instY (pc := 57) (c := 9) rfl (Or.inl r0) wc_X11_311 (List.mem_of_getElem? (i := 4) rfl) dX11_isUnder_57 ?_
      exact hret () _ _ _ _ _ _ trivial (congrArg (fun z => some (ai z)) (by split <;> first | rfl | omega | (exfalso; omega))) (Or.inr rfl) rfl (Nat.le_of_ble_eq_true rfl) (Nat.le_of_ble_eq_true rfl) dX11_isUnder_60
    · refine v_sw_in (pc := 1) 61 4 dX11_isUnder_1 (by unfold iB; omega) (by omega) (by omega) (by rw [c_1e]; rfl) rfl (by decide) ?_
      refine v_aload_n (pc := 61) 0 rfl dX11_isUnder_61 ?_
      refine v_instN (pc := 62) (c := 9) rfl (Or.inl r0) wc_X11_313 (List.mem_of_getElem? (i := 19) rfl) dX11_isUnder_62 ?_
      exact hret () _ _ _ _ _ _ trivial (congrArg (fun z => some (ai z)) (by split <;> first | rfl | omega | (exfalso; omega))) (Or.inl rfl) rfl (Nat.le_of_ble_eq_true rfl) (Nat.le_of_ble_eq_true rfl) dX11_isUnder_65
    · refine v_sw_in (pc := 1) 66 5 dX11_isUnder_1 (by unfold iB; omega) (by omega) (by omega) (by rw [c_1e]; rfl) rfl (by decide) ?_
      refine v_aload_n (pc := 66) 0 rfl dX11_isUnder_66 ?_
      refine v_instN (pc := 67) (c := 9) rfl (Or.inl r0) wc_X11_315 (List.mem_of_getElem? (i := 25) rfl) dX11_isUnder_67 ?_
      exact hret () _ _ _ _ _ _ trivial (congrArg (fun z => some (ai z)) (by split <;> first | rfl | omega | (exfalso; omega))) (Or.inl rfl) rfl (Nat.le_of_ble_eq_true rfl) (Nat.le_of_ble_eq_true rfl) dX11_isUnder_70
    · refine v_sw_in (pc := 1) 71 6 dX11_isUnder_1 (by unfold iB; omega) (by omega) (by omega) (by rw [c_1e]; rfl) rfl (by decide) ?_
      refine v_aload_n (pc := 71) 0 rfl dX11_isUnder_71 ?_
      refine v_instE (pc := 72) (c := 9) rfl (Or.inl r0) wc_X11_116 dX11_isUnder_72 ?_
      exact hret () _ _ _ _ _ _ trivial (congrArg (fun z => some (ai z)) (by split <;> first | rfl | omega | (exfalso; omega))) (Or.inr rfl) rfl (Nat.le_of_ble_eq_true rfl) (Nat.le_of_ble_eq_true rfl) dX11_isUnder_75
set_option maxHeartbeats 4000000 in
theorem c_X11_isUnder_P {gS : sG} (ta : Nat) (q1 : Nat) (t1 : Nat) (f : Int → Int) (p : Int) (k : Int) (hkd : 0 ≤ f (7 + p) ∧ f (7 + p) ≤ 6) (hb_k : -2147483648 ≤ k ∧ k < 2147483648) : Ct gS (S := Unit) yX11_isUnder cX11_isUnder 2 (some .boolean) 0 0 0 0 [ar q1, ai k] [] (fun q => q ∈ ([(q1, zpO ta f p t1)] : aW)) (fun _ => True) (fun _ => some (ai (if k = 0 ∨ k = f (7 + p) ∨ (0 < k ∧ k < 4 ∧ f (7 + p) = k + 3) then 1 else 0))) (fun _ => []) := by
  rcases (show f (7 + p) = 0 ∨ f (7 + p) = 1 ∨ f (7 + p) = 2 ∨ f (7 + p) = 3 ∨ f (7 + p) = 4 ∨ f (7 + p) = 5 ∨ f (7 + p) = 6 by omega) with hk | hk | hk | hk | hk | hk | hk
  · have e : zpO ta f p t1 = co 5 (zpL ta f p []) := zpO_k hk rfl rfl
    have H := c_X11_isUnder_k5 (gS := gS) ta q1 t1 f p k hk hb_k
    rw [e]
    exact H
  · have e : zpO ta f p t1 = co 8 (zpL ta f p []) := zpO_k hk rfl rfl
    have H := c_X11_isUnder_k8 (gS := gS) ta q1 t1 f p k hk hb_k
    rw [e]
    exact H
  · have e : zpO ta f p t1 = co 0 (zpL ta f p []) := zpO_k hk rfl rfl
    have H := c_X11_isUnder_k0 (gS := gS) ta q1 t1 f p k hk hb_k
    rw [e]
    exact H
  · have e : zpO ta f p t1 = co 7 (zpL ta f p []) := zpO_k hk rfl rfl
    have H := c_X11_isUnder_k7 (gS := gS) ta q1 t1 f p k hk hb_k
    rw [e]
    exact H
  · have e : zpO ta f p t1 = co 1 (zpL ta f p []) := zpO_k hk rfl rfl
    have H := c_X11_isUnder_k1 (gS := gS) ta q1 t1 f p k hk hb_k
    rw [e]
    exact H
  · have e : zpO ta f p t1 = co 2 (zpL ta f p []) := zpO_k hk rfl rfl
    have H := c_X11_isUnder_k2 (gS := gS) ta q1 t1 f p k hk hb_k
    rw [e]
    exact H
  · have e : zpO ta f p t1 = co 9 (zpL ta f p [ar t1]) := zpO_k hk rfl rfl
    have H := c_X11_isUnder_k9 (gS := gS) ta q1 t1 f p k hk hb_k
    rw [e]
    exact H
set_option maxHeartbeats 4000000 in
set_option maxRecDepth 100000 in
theorem c_X11_as {gS : sG} (mo : Nat) (kw : Nat) (pi : Nat) (ta : Nat) (ms : Nat) (pt : Nat) (po : Nat) (hi : Int) (nw : Nat) (pls : Nat) (ins : Nat) (tap : Nat) (e3 : Nat) (e4 : Nat) (e5 : Nat) (e6 : Nat) (e7 : Nat) (e8 : Nat) (bar : Nat) (pv : Int → Option Nat) (pl : Int → Nat) (tu : Int → Nat) (f : Int → Int) (player : Int) (k : Int) (hS : SOK f) (hpv : ∀ i : Int, 0 ≤ i → i ≤ f 0 - 1 → pv i = some (pl i)) (hb_player : -2147483648 ≤ player ∧ player < 2147483648) (hb_k : -2147483648 ≤ k ∧ k < 2147483648) : Ct gS (S := Unit) yX11_as cX11_as 4 (some .int) 2 43 0 0 [ar mo, ai player, ai k] [] (fun q => q ∈ ([(mo, co 11 [ar nw, ar kw, ar pi, ar ta, ar ms, ar pt, ar po, ai hi]), (nw, co 10 [ar pls, ar ins, ar tap, ar e3, ar e4, ar e5, ar e6, ar e7, ar e8, ai (f 0), ai (f 1), ai (f 4), ai (f 2), ai (f 3), ai (f 6), ar bar]), (pls, cq 3 6 pv)] : aW) ++ zpA ta f pl tu) (fun _ => True) (fun _ => some (ai (qAs f player k))) (fun _ => []) := by
  refine ct_I RX11 [(0, ar mo), (1, ai player), (2, ai k)] (by decide) rfl (Nat.le_of_ble_eq_true rfl) rfl (fun x hgS hro hret => ?_)
  subst hgS
  have r0 := hro _ (List.mem_append_left _ (mem_at 0 rfl))
  have r1 := hro _ (List.mem_append_left _ (mem_at 1 rfl))
  have r2 := hro _ (List.mem_append_left _ (mem_at 2 rfl))
  have hra : ∀ q, q ∈ zpA ta f pl tu → Ro x q := fun q h => hro _ (List.mem_append_right _ h)
  obtain ⟨⟨hg0, hg1, hg2, hg3, hg4, hg5, hg6, hg7⟩, hSp, hSh, hSs, hSb, hSt, hSw⟩ := id hS
  show V x cX11_as RX11 4 (rmU 2 43 0 0) [] 0 [(0, ar mo), (1, ai player), (2, ai k)] [] 0 0
  refine v_aload_n (pc := 0) 0 rfl dX11_as_0 ?_
  refine v_iload_n (pc := 1) 1 rfl dX11_as_1 ?_
  rcases Classical.em (0 ≤ player ∧ player ≤ f 0 - 1) with hp | hp
  · skip
    have hpl := hpv player hp.1 hp.2
    have rP := hra _ (zpA_p (ta := ta) (pl := pl) (tu := tu) hp)
    have rQ := hra _ (zpA_t (ta := ta) (pl := pl) (tu := tu) hp)
    have hp6 : 0 ≤ player ∧ player < 6 := by omega
    obtain ⟨hpp, hf1, hf2, hf3, hf4, hf5, hf6, hf7, hf8⟩ := hSp player hp6.1 hp6.2
    refine v_callV (pc := 2) [] [] [] (As := [ai player]) (rest := []) (c_X11_find_y mo kw pi ta ms pt po hi nw pls ins tap e3 e4 e5 e6 e7 e8 bar pv (pl player) f player (by assumption) (by exact hpl) (by exact hp)) (c := 11) rfl (Or.inl r0) wl_X11_99 wi_X11_find wv_X11_X11_find_X11_find wk_X11_find wz_X11 md_X11_find rfl (Nat.le_of_ble_eq_true rfl) ⟨Nat.le_of_ble_eq_true rfl, Nat.le_of_ble_eq_true rfl, Nat.le_of_ble_eq_true rfl, Nat.le_of_ble_eq_true rfl⟩ rfl rfl rfl rfl (by decide) (ro_cons (Or.inl r0) (ro_cons (Or.inl r1) (ro_cons (Or.inl r2) ro_nil))) dX11_as_2 (fun u hu => ?_)
    show V x cX11_as RX11 4 (rmU 2 43 0 0) [] 5 [(0, ar mo), (1, ai player), (2, ai k)] [ar (pl player)] 0 0
    refine v_astore_n (pc := 5) (L2 := [(3, ar (pl player)), (0, ar mo), (1, ai player), (2, ai k)]) rfl (by decide) dX11_as_5 ?_
    refine v_aload_n (pc := 6) 0 rfl dX11_as_6 ?_
    refine v_ifnull_r (pc := 7) dX11_as_7 ?_
    refine v_iload_n (pc := 10) 3 rfl dX11_as_10 ?_
    refine v_iconst (pc := 11) dX11_as_11 ?_
    refine v_bipush (pc := 12) dX11_as_12 (by decide) ?_
    refine v_callS (pc := 14) [] [] [] (As := [ai k, ai 0, ai 6]) (rest := []) (c_X11_isOut k 0 6 (by first | omega | assumption) (by first | omega | assumption) (by first | omega | assumption)) wl_X11_41 ws_X11_isOut wk_X11_isOut wz_X11 md_X11_isOut rfl (Nat.le_of_ble_eq_true rfl) ⟨Nat.le_of_ble_eq_true rfl, Nat.le_of_ble_eq_true rfl, Nat.le_of_ble_eq_true rfl, Nat.le_of_ble_eq_true rfl⟩ rfl rfl rfl rfl (by decide) ro_nil dX11_as_14 (fun u hu => ?_)
    show V x cX11_as RX11 4 (rmU 2 43 0 0) [] 17 [(3, ar (pl player)), (0, ar mo), (1, ai player), (2, ai k)] [ai (if k < 0 ∨ 6 < k then 1 else 0)] 0 0
    refine v_ifb_eq (pc := 17) 22 dX11_as_17 (by decide) (fun c_1 => ?_) (fun c_1 => ?_)
    · skip
      refine v_aload_n (pc := 22) 0 rfl dX11_as_22 ?_
      refine v_iload_n (pc := 23) 3 rfl dX11_as_23 ?_
      refine v_callS (pc := 24) [] [] [] (As := [ar (pl player), ai k]) (rest := []) (c_X11_isUnder_P ta (pl player) (tu player) f player k (by first | omega | assumption) (by first | omega | assumption)) wl_X11_279 ws_X11_isUnder wk_X11_isUnder wz_X11 md_X11_isUnder rfl (Nat.le_of_ble_eq_true rfl) ⟨Nat.le_of_ble_eq_true rfl, Nat.le_of_ble_eq_true rfl, Nat.le_of_ble_eq_true rfl, Nat.le_of_ble_eq_true rfl⟩ rfl rfl rfl rfl (by decide) (ro_cons (Or.inl rP) ro_nil) dX11_as_24 (fun u hu => ?_)
      show V x cX11_as RX11 4 (rmU 2 43 0 0) [] 27 [(3, ar (pl player)), (0, ar mo), (1, ai player), (2, ai k)] [ai (if k = 0 ∨ k = f (7 + player) ∨ (0 < k ∧ k < 4 ∧ f (7 + player) = k + 3) then 1 else 0)] 0 0
      refine v_ifb_eq (pc := 27) 37 dX11_as_27 (by decide) (fun c_2 => ?_) (fun c_2 => ?_)
      · skip
        refine v_bipush (pc := 37) dX11_as_37 (by decide) ?_
        exact hret () _ _ _ _ _ _ trivial (congrArg (fun z => some (ai z)) (by unfold qAs; (repeat' split) <;> first | rfl | (exfalso; omega) | omega)) rfl (Nat.le_of_ble_eq_true rfl) (Nat.le_of_ble_eq_true rfl) dX11_as_39
      · skip
        refine v_aload_n (pc := 30) 0 rfl dX11_as_30 ?_
        refine v_get (pc := 31) (v := ai (f (13 + player))) 3 (Or.inl rP) (flP_11_83 (by omega)) rfl dX11_as_31 ?_
        refine v_goto (pc := 34) 39 dX11_as_34 (by decide) ?_
        exact hret () _ _ _ _ _ _ trivial (congrArg (fun z => some (ai z)) (by unfold qAs; (repeat' split) <;> first | rfl | (exfalso; omega) | omega)) rfl (Nat.le_of_ble_eq_true rfl) (Nat.le_of_ble_eq_true rfl) dX11_as_39
    · skip
      refine v_iconst (pc := 20) dX11_as_20 ?_
      exact hret () _ _ _ _ _ _ trivial (congrArg (fun z => some (ai z)) (by unfold qAs; (repeat' split) <;> first | rfl | (exfalso; omega) | omega)) rfl (Nat.le_of_ble_eq_true rfl) (Nat.le_of_ble_eq_true rfl) dX11_as_21
  · skip
    refine v_callV (pc := 2) [] [] [] (As := [ai player]) (rest := []) (c_X11_find_n mo kw pi ta ms pt po hi nw pls ins tap e3 e4 e5 e6 e7 e8 bar pv f player (by assumption) (by exact hp) (by first | omega | assumption)) (c := 11) rfl (Or.inl r0) wl_X11_99 wi_X11_find wv_X11_X11_find_X11_find wk_X11_find wz_X11 md_X11_find rfl (Nat.le_of_ble_eq_true rfl) ⟨Nat.le_of_ble_eq_true rfl, Nat.le_of_ble_eq_true rfl, Nat.le_of_ble_eq_true rfl, Nat.le_of_ble_eq_true rfl⟩ rfl rfl rfl rfl (by decide) (ro_cons (Or.inl r0) (ro_cons (Or.inl r1) (ro_cons (Or.inl r2) ro_nil))) dX11_as_2 (fun u hu => ?_)
    show V x cX11_as RX11 4 (rmU 2 43 0 0) [] 5 [(0, ar mo), (1, ai player), (2, ai k)] [an] 0 0
    refine v_astore_n (pc := 5) (L2 := [(3, an), (0, ar mo), (1, ai player), (2, ai k)]) rfl (by decide) dX11_as_5 ?_
    refine v_aload_n (pc := 6) 0 rfl dX11_as_6 ?_
    refine v_ifnull_n (pc := 7) 20 dX11_as_7 (by decide) ?_
    refine v_iconst (pc := 20) dX11_as_20 ?_
    exact hret () _ _ _ _ _ _ trivial (congrArg (fun z => some (ai z)) (by unfold qAs; (repeat' split) <;> first | rfl | (exfalso; omega) | omega)) rfl (Nat.le_of_ble_eq_true rfl) (Nat.le_of_ble_eq_true rfl) dX11_as_21
set_option maxHeartbeats 4000000 in
set_option maxRecDepth 100000 in
theorem c_X11_of_k5 {gS : sG} (mo : Nat) (kw : Nat) (pi : Nat) (ta : Nat) (ms : Nat) (pt : Nat) (po : Nat) (hi : Int) (nw : Nat) (pls : Nat) (ins : Nat) (tap : Nat) (e3 : Nat) (e4 : Nat) (e5 : Nat) (e6 : Nat) (e7 : Nat) (e8 : Nat) (bar : Nat) (pv : Int → Option Nat) (q1 : Nat) (t1 : Nat) (f : Int → Int) (player : Int) (what : Int) (hS : SOK f) (hpv : pv player = some q1) (hp : 0 ≤ player ∧ player ≤ f 0 - 1) (hk : f (7 + player) = 0) (hb_player : -2147483648 ≤ player ∧ player < 2147483648) (hb_what : -2147483648 ≤ what ∧ what < 2147483648) : Ct gS (S := Unit) yX11_of cX11_of 4 (some .int) 3 67 0 0 [ar mo, ai player, ai what] [] (fun q => q ∈ ([(mo, co 11 [ar nw, ar kw, ar pi, ar ta, ar ms, ar pt, ar po, ai hi]), (nw, co 10 [ar pls, ar ins, ar tap, ar e3, ar e4, ar e5, ar e6, ar e7, ar e8, ai (f 0), ai (f 1), ai (f 4), ai (f 2), ai (f 3), ai (f 6), ar bar]), (pls, cq 3 6 pv), (q1, co 5 [ar ta, ai (f (7 + player)), ai player, ai (f (13 + player)), ai (f (19 + player)), ai (f (25 + player)), ai (f (31 + player)), ai (f (37 + player)), ai (f (43 + player))])] : aW)) (fun _ => True) (fun _ => some (ai (qOf f player what))) (fun _ => []) := by
  refine ct_I RX11 [(0, ar mo), (1, ai player), (2, ai what)] (by decide) rfl (Nat.le_of_ble_eq_true rfl) rfl (fun x hgS hro hret => ?_)
  subst hgS
  have r0 := hro _ (mem_at 0 rfl)
  have r1 := hro _ (mem_at 1 rfl)
  have r2 := hro _ (mem_at 2 rfl)
  have r3 := hro _ (mem_at 3 rfl)
  obtain ⟨⟨hg0, hg1, hg2, hg3, hg4, hg5, hg6, hg7⟩, hSp, hSh, hSs, hSb, hSt, hSw⟩ := id hS
  obtain ⟨hpp, hf1, hf2, hf3, hf4, hf5, hf6, hf7, hf8⟩ := hSp player (by omega) (by omega)
  show V x cX11_of RX11 4 (rmU 3 67 0 0) [] 0 [(0, ar mo), (1, ai player), (2, ai what)] [] 0 0
  refine v_aload_n (pc := 0) 0 rfl dX11_of_0 ?_
  refine v_iload_n (pc := 1) 1 rfl dX11_of_1 ?_
  refine v_callV (pc := 2) [] [] [] (As := [ai player]) (rest := []) (c_X11_find_y mo kw pi ta ms pt po hi nw pls ins tap e3 e4 e5 e6 e7 e8 bar pv q1 f player (by assumption) (by first | omega | assumption) (by first | omega | assumption)) (c := 11) rfl (Or.inl r0) wl_X11_99 wi_X11_find wv_X11_X11_find_X11_find wk_X11_find wz_X11 md_X11_find rfl (Nat.le_of_ble_eq_true rfl) ⟨Nat.le_of_ble_eq_true rfl, Nat.le_of_ble_eq_true rfl, Nat.le_of_ble_eq_true rfl, Nat.le_of_ble_eq_true rfl⟩ rfl rfl rfl rfl (by decide) (ro_cons (Or.inl r0) (ro_cons (Or.inl r1) (ro_cons (Or.inl r2) ro_nil))) dX11_of_2 (fun u hu => ?_)
  show V x cX11_of RX11 4 (rmU 3 67 0 0) [] 5 [(0, ar mo), (1, ai player), (2, ai what)] [ar q1] 0 0
  refine v_astore_n (pc := 5) (L2 := [(3, ar q1), (0, ar mo), (1, ai player), (2, ai what)]) rfl (by decide) dX11_of_5 ?_
  refine v_aload_n (pc := 6) 0 rfl dX11_of_6 ?_
  refine v_ifnonnull_r (pc := 7) 12 dX11_of_7 (by decide) ?_
  refine v_iload_n (pc := 12) 3 rfl dX11_of_12 ?_
  rcases Classical.em (what < 0 ∨ 7 < what) with c_1 | c_1
  · refine v_sw_out (pc := 13) 108 dX11_of_13 (by decide) (by unfold iB; omega) c_1 ?_
    refine v_iconst (pc := 108) dX11_of_108 ?_
    exact hret () _ _ _ _ _ _ trivial (congrArg (fun z => some (ai z)) (by unfold qOf; (repeat' split) <;> first | rfl | (exfalso; omega) | (congr 1; omega))) rfl (Nat.le_of_ble_eq_true rfl) (Nat.le_of_ble_eq_true rfl) dX11_of_109
  · rcases (show what = 0 ∨ what = 1 ∨ what = 2 ∨ what = 3 ∨ what = 4 ∨ what = 5 ∨ what = 6 ∨ what = 7 by omega) with c_1e | c_1e | c_1e | c_1e | c_1e | c_1e | c_1e | c_1e
    · refine v_sw_in (pc := 13) 60 0 dX11_of_13 (by unfold iB; omega) (by omega) (by omega) (by rw [c_1e]; rfl) rfl (by decide) ?_
      refine v_aload_n (pc := 60) 0 rfl dX11_of_60 ?_
      refine v_get (pc := 61) (v := ai (f (7 + player))) 1 (Or.inl r3) fl_11_103_5 rfl dX11_of_61 ?_
      exact hret () _ _ _ _ _ _ trivial (congrArg (fun z => some (ai z)) (by unfold qOf; (repeat' split) <;> first | rfl | (exfalso; omega) | (congr 1; omega))) rfl (Nat.le_of_ble_eq_true rfl) (Nat.le_of_ble_eq_true rfl) dX11_of_64
    · refine v_sw_in (pc := 13) 65 1 dX11_of_13 (by unfold iB; omega) (by omega) (by omega) (by rw [c_1e]; rfl) rfl (by decide) ?_
      refine v_aload_n (pc := 65) 0 rfl dX11_of_65 ?_
      refine v_get (pc := 66) (v := ai (f (13 + player))) 3 (Or.inl r3) fl_11_83_5 rfl dX11_of_66 ?_
      exact hret () _ _ _ _ _ _ trivial (congrArg (fun z => some (ai z)) (by unfold qOf; (repeat' split) <;> first | rfl | (exfalso; omega) | (congr 1; omega))) rfl (Nat.le_of_ble_eq_true rfl) (Nat.le_of_ble_eq_true rfl) dX11_of_69
    · refine v_sw_in (pc := 13) 70 2 dX11_of_13 (by unfold iB; omega) (by omega) (by omega) (by rw [c_1e]; rfl) rfl (by decide) ?_
      refine v_aload_n (pc := 70) 0 rfl dX11_of_70 ?_
      refine v_get (pc := 71) (v := ai (f (19 + player))) 4 (Or.inl r3) fl_11_86_5 rfl dX11_of_71 ?_
      exact hret () _ _ _ _ _ _ trivial (congrArg (fun z => some (ai z)) (by unfold qOf; (repeat' split) <;> first | rfl | (exfalso; omega) | (congr 1; omega))) rfl (Nat.le_of_ble_eq_true rfl) (Nat.le_of_ble_eq_true rfl) dX11_of_74
    · refine v_sw_in (pc := 13) 75 3 dX11_of_13 (by unfold iB; omega) (by omega) (by omega) (by rw [c_1e]; rfl) rfl (by decide) ?_
      refine v_aload_n (pc := 75) 0 rfl dX11_of_75 ?_
      refine v_get (pc := 76) (v := ai (f (25 + player))) 5 (Or.inl r3) fl_11_89_5 rfl dX11_of_76 ?_
      exact hret () _ _ _ _ _ _ trivial (congrArg (fun z => some (ai z)) (by unfold qOf; (repeat' split) <;> first | rfl | (exfalso; omega) | (congr 1; omega))) rfl (Nat.le_of_ble_eq_true rfl) (Nat.le_of_ble_eq_true rfl) dX11_of_79
    · refine v_sw_in (pc := 13) 80 4 dX11_of_13 (by unfold iB; omega) (by omega) (by omega) (by rw [c_1e]; rfl) rfl (by decide) ?_
      refine v_aload_n (pc := 80) 0 rfl dX11_of_80 ?_
      refine v_get (pc := 81) (v := ai (f (31 + player))) 6 (Or.inl r3) fl_11_106_5 rfl dX11_of_81 ?_
      exact hret () _ _ _ _ _ _ trivial (congrArg (fun z => some (ai z)) (by unfold qOf; (repeat' split) <;> first | rfl | (exfalso; omega) | (congr 1; omega))) rfl (Nat.le_of_ble_eq_true rfl) (Nat.le_of_ble_eq_true rfl) dX11_of_84
    · refine v_sw_in (pc := 13) 85 5 dX11_of_13 (by unfold iB; omega) (by omega) (by omega) (by rw [c_1e]; rfl) rfl (by decide) ?_
      refine v_aload_n (pc := 85) 0 rfl dX11_of_85 ?_
      refine v_get (pc := 86) (v := ai (f (37 + player))) 7 (Or.inl r3) fl_11_109_5 rfl dX11_of_86 ?_
      exact hret () _ _ _ _ _ _ trivial (congrArg (fun z => some (ai z)) (by unfold qOf; (repeat' split) <;> first | rfl | (exfalso; omega) | (congr 1; omega))) rfl (Nat.le_of_ble_eq_true rfl) (Nat.le_of_ble_eq_true rfl) dX11_of_89
    · refine v_sw_in (pc := 13) 90 6 dX11_of_13 (by unfold iB; omega) (by omega) (by omega) (by rw [c_1e]; rfl) rfl (by decide) ?_
      refine v_aload_n (pc := 90) 0 rfl dX11_of_90 ?_
      refine v_get (pc := 91) (v := ai (f (43 + player))) 8 (Or.inl r3) fl_11_92_5 rfl dX11_of_91 ?_
      exact hret () _ _ _ _ _ _ trivial (congrArg (fun z => some (ai z)) (by unfold qOf; (repeat' split) <;> first | rfl | (exfalso; omega) | (congr 1; omega))) rfl (Nat.le_of_ble_eq_true rfl) (Nat.le_of_ble_eq_true rfl) dX11_of_94
    · refine v_sw_in (pc := 13) 95 7 dX11_of_13 (by unfold iB; omega) (by omega) (by omega) (by rw [c_1e]; rfl) rfl (by decide) ?_
      refine v_aload_n (pc := 95) 0 rfl dX11_of_95 ?_
      refine v_aload_n (pc := 96) 0 rfl dX11_of_96 ?_
      refine v_get (pc := 97) (v := ai (f (19 + player))) 4 (Or.inl r3) fl_11_86_5 rfl dX11_of_97 ?_
      refine v_aload_n (pc := 100) 0 rfl dX11_of_100 ?_
      refine v_get (pc := 101) (v := ai (f (31 + player))) 6 (Or.inl r3) fl_11_106_5 rfl dX11_of_101 ?_
      refine v_callU (pc := 104) [] [] [] (z := yX5_unsureBy) (As := [ai (f (19 + player)), ai (f (31 + player))]) (rest := []) (c_X5_unsureBy_k5 q1 ta (f (7 + player)) player (f (13 + player)) (f (19 + player)) (f (25 + player)) (f (31 + player)) (f (37 + player)) (f (43 + player)) (f (19 + player)) (f (31 + player)) (by first | omega | assumption) (by first | omega | assumption)) (c := 5) rfl (Or.inl r3) wl_X11_112 wsm_0 wi_X5_unsureBy wk_X5_unsureBy wv_X5_X5_unsureBy_X5_unsureBy wi_X5_unsureBy wk_X5_unsureBy wz_X5 mdo_X5_unsureBy rfl (Nat.le_of_ble_eq_true rfl) ⟨Nat.le_of_ble_eq_true rfl, Nat.le_of_ble_eq_true rfl, Nat.le_of_ble_eq_true rfl, Nat.le_of_ble_eq_true rfl⟩ rfl rfl rfl rfl (by decide) (ro_cons (Or.inl r3) ro_nil) dX11_of_104 (fun u hu => ?_)
      show V x cX11_of RX11 4 (rmU 3 67 0 0) [] 107 [(3, ar q1), (0, ar mo), (1, ai player), (2, ai what)] [ai (kUns (f (19 + player)) (f (31 + player)))] 0 0
      exact hret () _ _ _ _ _ _ trivial (congrArg (fun z => some (ai z)) (by unfold qOf fUn; rw [if_neg (by omega), if_pos (by omega), hk]; rfl)) rfl (Nat.le_of_ble_eq_true rfl) (Nat.le_of_ble_eq_true rfl) dX11_of_107
set_option maxHeartbeats 4000000 in
set_option maxRecDepth 100000 in
theorem c_X11_of_k8 {gS : sG} (mo : Nat) (kw : Nat) (pi : Nat) (ta : Nat) (ms : Nat) (pt : Nat) (po : Nat) (hi : Int) (nw : Nat) (pls : Nat) (ins : Nat) (tap : Nat) (e3 : Nat) (e4 : Nat) (e5 : Nat) (e6 : Nat) (e7 : Nat) (e8 : Nat) (bar : Nat) (pv : Int → Option Nat) (q1 : Nat) (t1 : Nat) (f : Int → Int) (player : Int) (what : Int) (hS : SOK f) (hpv : pv player = some q1) (hp : 0 ≤ player ∧ player ≤ f 0 - 1) (hk : f (7 + player) = 1) (hb_player : -2147483648 ≤ player ∧ player < 2147483648) (hb_what : -2147483648 ≤ what ∧ what < 2147483648) : Ct gS (S := Unit) yX11_of cX11_of 4 (some .int) 3 67 0 0 [ar mo, ai player, ai what] [] (fun q => q ∈ ([(mo, co 11 [ar nw, ar kw, ar pi, ar ta, ar ms, ar pt, ar po, ai hi]), (nw, co 10 [ar pls, ar ins, ar tap, ar e3, ar e4, ar e5, ar e6, ar e7, ar e8, ai (f 0), ai (f 1), ai (f 4), ai (f 2), ai (f 3), ai (f 6), ar bar]), (pls, cq 3 6 pv), (q1, co 8 [ar ta, ai (f (7 + player)), ai player, ai (f (13 + player)), ai (f (19 + player)), ai (f (25 + player)), ai (f (31 + player)), ai (f (37 + player)), ai (f (43 + player))])] : aW)) (fun _ => True) (fun _ => some (ai (qOf f player what))) (fun _ => []) := by
  refine ct_I RX11 [(0, ar mo), (1, ai player), (2, ai what)] (by decide) rfl (Nat.le_of_ble_eq_true rfl) rfl (fun x hgS hro hret => ?_)
  subst hgS
  have r0 := hro _ (mem_at 0 rfl)
  have r1 := hro _ (mem_at 1 rfl)
  have r2 := hro _ (mem_at 2 rfl)
  have r3 := hro _ (mem_at 3 rfl)
  obtain ⟨⟨hg0, hg1, hg2, hg3, hg4, hg5, hg6, hg7⟩, hSp, hSh, hSs, hSb, hSt, hSw⟩ := id hS
  obtain ⟨hpp, hf1, hf2, hf3, hf4, hf5, hf6, hf7, hf8⟩ := hSp player (by omega) (by omega)
  show V x cX11_of RX11 4 (rmU 3 67 0 0) [] 0 [(0, ar mo), (1, ai player), (2, ai what)] [] 0 0
  refine v_aload_n (pc := 0) 0 rfl dX11_of_0 ?_
  refine v_iload_n (pc := 1) 1 rfl dX11_of_1 ?_
  refine v_callV (pc := 2) [] [] [] (As := [ai player]) (rest := []) (c_X11_find_y mo kw pi ta ms pt po hi nw pls ins tap e3 e4 e5 e6 e7 e8 bar pv q1 f player (by assumption) (by first | omega | assumption) (by first | omega | assumption)) (c := 11) rfl (Or.inl r0) wl_X11_99 wi_X11_find wv_X11_X11_find_X11_find wk_X11_find wz_X11 md_X11_find rfl (Nat.le_of_ble_eq_true rfl) ⟨Nat.le_of_ble_eq_true rfl, Nat.le_of_ble_eq_true rfl, Nat.le_of_ble_eq_true rfl, Nat.le_of_ble_eq_true rfl⟩ rfl rfl rfl rfl (by decide) (ro_cons (Or.inl r0) (ro_cons (Or.inl r1) (ro_cons (Or.inl r2) ro_nil))) dX11_of_2 (fun u hu => ?_)
  show V x cX11_of RX11 4 (rmU 3 67 0 0) [] 5 [(0, ar mo), (1, ai player), (2, ai what)] [ar q1] 0 0
  refine v_astore_n (pc := 5) (L2 := [(3, ar q1), (0, ar mo), (1, ai player), (2, ai what)]) rfl (by decide) dX11_of_5 ?_
  refine v_aload_n (pc := 6) 0 rfl dX11_of_6 ?_
  refine v_ifnonnull_r (pc := 7) 12 dX11_of_7 (by decide) ?_
  refine v_iload_n (pc := 12) 3 rfl dX11_of_12 ?_
  rcases Classical.em (what < 0 ∨ 7 < what) with c_1 | c_1
  · refine v_sw_out (pc := 13) 108 dX11_of_13 (by decide) (by unfold iB; omega) c_1 ?_
    refine v_iconst (pc := 108) dX11_of_108 ?_
    exact hret () _ _ _ _ _ _ trivial (congrArg (fun z => some (ai z)) (by unfold qOf; (repeat' split) <;> first | rfl | (exfalso; omega) | (congr 1; omega))) rfl (Nat.le_of_ble_eq_true rfl) (Nat.le_of_ble_eq_true rfl) dX11_of_109
  · rcases (show what = 0 ∨ what = 1 ∨ what = 2 ∨ what = 3 ∨ what = 4 ∨ what = 5 ∨ what = 6 ∨ what = 7 by omega) with c_1e | c_1e | c_1e | c_1e | c_1e | c_1e | c_1e | c_1e
    · refine v_sw_in (pc := 13) 60 0 dX11_of_13 (by unfold iB; omega) (by omega) (by omega) (by rw [c_1e]; rfl) rfl (by decide) ?_
      refine v_aload_n (pc := 60) 0 rfl dX11_of_60 ?_
      refine v_get (pc := 61) (v := ai (f (7 + player))) 1 (Or.inl r3) fl_11_103_8 rfl dX11_of_61 ?_
      exact hret () _ _ _ _ _ _ trivial (congrArg (fun z => some (ai z)) (by unfold qOf; (repeat' split) <;> first | rfl | (exfalso; omega) | (congr 1; omega))) rfl (Nat.le_of_ble_eq_true rfl) (Nat.le_of_ble_eq_true rfl) dX11_of_64
    · refine v_sw_in (pc := 13) 65 1 dX11_of_13 (by unfold iB; omega) (by omega) (by omega) (by rw [c_1e]; rfl) rfl (by decide) ?_
      refine v_aload_n (pc := 65) 0 rfl dX11_of_65 ?_
      refine v_get (pc := 66) (v := ai (f (13 + player))) 3 (Or.inl r3) fl_11_83_8 rfl dX11_of_66 ?_
      exact hret () _ _ _ _ _ _ trivial (congrArg (fun z => some (ai z)) (by unfold qOf; (repeat' split) <;> first | rfl | (exfalso; omega) | (congr 1; omega))) rfl (Nat.le_of_ble_eq_true rfl) (Nat.le_of_ble_eq_true rfl) dX11_of_69
    · refine v_sw_in (pc := 13) 70 2 dX11_of_13 (by unfold iB; omega) (by omega) (by omega) (by rw [c_1e]; rfl) rfl (by decide) ?_
      refine v_aload_n (pc := 70) 0 rfl dX11_of_70 ?_
      refine v_get (pc := 71) (v := ai (f (19 + player))) 4 (Or.inl r3) fl_11_86_8 rfl dX11_of_71 ?_
      exact hret () _ _ _ _ _ _ trivial (congrArg (fun z => some (ai z)) (by unfold qOf; (repeat' split) <;> first | rfl | (exfalso; omega) | (congr 1; omega))) rfl (Nat.le_of_ble_eq_true rfl) (Nat.le_of_ble_eq_true rfl) dX11_of_74
    · refine v_sw_in (pc := 13) 75 3 dX11_of_13 (by unfold iB; omega) (by omega) (by omega) (by rw [c_1e]; rfl) rfl (by decide) ?_
      refine v_aload_n (pc := 75) 0 rfl dX11_of_75 ?_
      refine v_get (pc := 76) (v := ai (f (25 + player))) 5 (Or.inl r3) fl_11_89_8 rfl dX11_of_76 ?_
      exact hret () _ _ _ _ _ _ trivial (congrArg (fun z => some (ai z)) (by unfold qOf; (repeat' split) <;> first | rfl | (exfalso; omega) | (congr 1; omega))) rfl (Nat.le_of_ble_eq_true rfl) (Nat.le_of_ble_eq_true rfl) dX11_of_79
    · refine v_sw_in (pc := 13) 80 4 dX11_of_13 (by unfold iB; omega) (by omega) (by omega) (by rw [c_1e]; rfl) rfl (by decide) ?_
      refine v_aload_n (pc := 80) 0 rfl dX11_of_80 ?_
      refine v_get (pc := 81) (v := ai (f (31 + player))) 6 (Or.inl r3) fl_11_106_8 rfl dX11_of_81 ?_
      exact hret () _ _ _ _ _ _ trivial (congrArg (fun z => some (ai z)) (by unfold qOf; (repeat' split) <;> first | rfl | (exfalso; omega) | (congr 1; omega))) rfl (Nat.le_of_ble_eq_true rfl) (Nat.le_of_ble_eq_true rfl) dX11_of_84
    · refine v_sw_in (pc := 13) 85 5 dX11_of_13 (by unfold iB; omega) (by omega) (by omega) (by rw [c_1e]; rfl) rfl (by decide) ?_
      refine v_aload_n (pc := 85) 0 rfl dX11_of_85 ?_
      refine v_get (pc := 86) (v := ai (f (37 + player))) 7 (Or.inl r3) fl_11_109_8 rfl dX11_of_86 ?_
      exact hret () _ _ _ _ _ _ trivial (congrArg (fun z => some (ai z)) (by unfold qOf; (repeat' split) <;> first | rfl | (exfalso; omega) | (congr 1; omega))) rfl (Nat.le_of_ble_eq_true rfl) (Nat.le_of_ble_eq_true rfl) dX11_of_89
    · refine v_sw_in (pc := 13) 90 6 dX11_of_13 (by unfold iB; omega) (by omega) (by omega) (by rw [c_1e]; rfl) rfl (by decide) ?_
      refine v_aload_n (pc := 90) 0 rfl dX11_of_90 ?_
      refine v_get (pc := 91) (v := ai (f (43 + player))) 8 (Or.inl r3) fl_11_92_8 rfl dX11_of_91 ?_
      exact hret () _ _ _ _ _ _ trivial (congrArg (fun z => some (ai z)) (by unfold qOf; (repeat' split) <;> first | rfl | (exfalso; omega) | (congr 1; omega))) rfl (Nat.le_of_ble_eq_true rfl) (Nat.le_of_ble_eq_true rfl) dX11_of_94
    · refine v_sw_in (pc := 13) 95 7 dX11_of_13 (by unfold iB; omega) (by omega) (by omega) (by rw [c_1e]; rfl) rfl (by decide) ?_
      refine v_aload_n (pc := 95) 0 rfl dX11_of_95 ?_
      refine v_aload_n (pc := 96) 0 rfl dX11_of_96 ?_
      refine v_get (pc := 97) (v := ai (f (19 + player))) 4 (Or.inl r3) fl_11_86_8 rfl dX11_of_97 ?_
      refine v_aload_n (pc := 100) 0 rfl dX11_of_100 ?_
      refine v_get (pc := 101) (v := ai (f (31 + player))) 6 (Or.inl r3) fl_11_106_8 rfl dX11_of_101 ?_
      refine v_callU (pc := 104) [] [] [] (z := yX5_unsureBy) (As := [ai (f (19 + player)), ai (f (31 + player))]) (rest := []) (c_X8_unsureBy_k8 q1 ta (f (7 + player)) player (f (13 + player)) (f (19 + player)) (f (25 + player)) (f (31 + player)) (f (37 + player)) (f (43 + player)) (f (19 + player)) (f (31 + player)) (by first | omega | assumption) (by first | omega | assumption)) (c := 8) rfl (Or.inl r3) wl_X11_112 wsm_0 wi_X5_unsureBy wk_X5_unsureBy wv_X8_X5_unsureBy_X8_unsureBy wi_X8_unsureBy wk_X8_unsureBy wz_X8 mdo_X5_unsureBy rfl (Nat.le_of_ble_eq_true rfl) ⟨Nat.le_of_ble_eq_true rfl, Nat.le_of_ble_eq_true rfl, Nat.le_of_ble_eq_true rfl, Nat.le_of_ble_eq_true rfl⟩ rfl rfl rfl rfl (by decide) (ro_cons (Or.inl r3) ro_nil) dX11_of_104 (fun u hu => ?_)
      show V x cX11_of RX11 4 (rmU 3 67 0 0) [] 107 [(3, ar q1), (0, ar mo), (1, ai player), (2, ai what)] [ai (kUns (f (19 + player)) (f (31 + player)) / 2)] 0 0
      exact hret () _ _ _ _ _ _ trivial (congrArg (fun z => some (ai z)) (by unfold qOf fUn; rw [if_neg (by omega), if_pos (by omega), hk]; rfl)) rfl (Nat.le_of_ble_eq_true rfl) (Nat.le_of_ble_eq_true rfl) dX11_of_107
set_option maxHeartbeats 4000000 in
set_option maxRecDepth 100000 in
theorem c_X11_of_k0 {gS : sG} (mo : Nat) (kw : Nat) (pi : Nat) (ta : Nat) (ms : Nat) (pt : Nat) (po : Nat) (hi : Int) (nw : Nat) (pls : Nat) (ins : Nat) (tap : Nat) (e3 : Nat) (e4 : Nat) (e5 : Nat) (e6 : Nat) (e7 : Nat) (e8 : Nat) (bar : Nat) (pv : Int → Option Nat) (q1 : Nat) (t1 : Nat) (f : Int → Int) (player : Int) (what : Int) (hS : SOK f) (hpv : pv player = some q1) (hp : 0 ≤ player ∧ player ≤ f 0 - 1) (hk : f (7 + player) = 2) (hb_player : -2147483648 ≤ player ∧ player < 2147483648) (hb_what : -2147483648 ≤ what ∧ what < 2147483648) : Ct gS (S := Unit) yX11_of cX11_of 4 (some .int) 3 67 0 0 [ar mo, ai player, ai what] [] (fun q => q ∈ ([(mo, co 11 [ar nw, ar kw, ar pi, ar ta, ar ms, ar pt, ar po, ai hi]), (nw, co 10 [ar pls, ar ins, ar tap, ar e3, ar e4, ar e5, ar e6, ar e7, ar e8, ai (f 0), ai (f 1), ai (f 4), ai (f 2), ai (f 3), ai (f 6), ar bar]), (pls, cq 3 6 pv), (q1, co 0 [ar ta, ai (f (7 + player)), ai player, ai (f (13 + player)), ai (f (19 + player)), ai (f (25 + player)), ai (f (31 + player)), ai (f (37 + player)), ai (f (43 + player))])] : aW)) (fun _ => True) (fun _ => some (ai (qOf f player what))) (fun _ => []) := by
  refine ct_I RX11 [(0, ar mo), (1, ai player), (2, ai what)] (by decide) rfl (Nat.le_of_ble_eq_true rfl) rfl (fun x hgS hro hret => ?_)
  subst hgS
  have r0 := hro _ (mem_at 0 rfl)
  have r1 := hro _ (mem_at 1 rfl)
  have r2 := hro _ (mem_at 2 rfl)
  have r3 := hro _ (mem_at 3 rfl)
  obtain ⟨⟨hg0, hg1, hg2, hg3, hg4, hg5, hg6, hg7⟩, hSp, hSh, hSs, hSb, hSt, hSw⟩ := id hS
  obtain ⟨hpp, hf1, hf2, hf3, hf4, hf5, hf6, hf7, hf8⟩ := hSp player (by omega) (by omega)
  show V x cX11_of RX11 4 (rmU 3 67 0 0) [] 0 [(0, ar mo), (1, ai player), (2, ai what)] [] 0 0
  refine v_aload_n (pc := 0) 0 rfl dX11_of_0 ?_
  refine v_iload_n (pc := 1) 1 rfl dX11_of_1 ?_
  refine v_callV (pc := 2) [] [] [] (As := [ai player]) (rest := []) (c_X11_find_y mo kw pi ta ms pt po hi nw pls ins tap e3 e4 e5 e6 e7 e8 bar pv q1 f player (by assumption) (by first | omega | assumption) (by first | omega | assumption)) (c := 11) rfl (Or.inl r0) wl_X11_99 wi_X11_find wv_X11_X11_find_X11_find wk_X11_find wz_X11 md_X11_find rfl (Nat.le_of_ble_eq_true rfl) ⟨Nat.le_of_ble_eq_true rfl, Nat.le_of_ble_eq_true rfl, Nat.le_of_ble_eq_true rfl, Nat.le_of_ble_eq_true rfl⟩ rfl rfl rfl rfl (by decide) (ro_cons (Or.inl r0) (ro_cons (Or.inl r1) (ro_cons (Or.inl r2) ro_nil))) dX11_of_2 (fun u hu => ?_)
  show V x cX11_of RX11 4 (rmU 3 67 0 0) [] 5 [(0, ar mo), (1, ai player), (2, ai what)] [ar q1] 0 0
  refine v_astore_n (pc := 5) (L2 := [(3, ar q1), (0, ar mo), (1, ai player), (2, ai what)]) rfl (by decide) dX11_of_5 ?_
  refine v_aload_n (pc := 6) 0 rfl dX11_of_6 ?_
  refine v_ifnonnull_r (pc := 7) 12 dX11_of_7 (by decide) ?_
  refine v_iload_n (pc := 12) 3 rfl dX11_of_12 ?_
  rcases Classical.em (what < 0 ∨ 7 < what) with c_1 | c_1
  · refine v_sw_out (pc := 13) 108 dX11_of_13 (by decide) (by unfold iB; omega) c_1 ?_
    refine v_iconst (pc := 108) dX11_of_108 ?_
    exact hret () _ _ _ _ _ _ trivial (congrArg (fun z => some (ai z)) (by unfold qOf; (repeat' split) <;> first | rfl | (exfalso; omega) | (congr 1; omega))) rfl (Nat.le_of_ble_eq_true rfl) (Nat.le_of_ble_eq_true rfl) dX11_of_109
  · rcases (show what = 0 ∨ what = 1 ∨ what = 2 ∨ what = 3 ∨ what = 4 ∨ what = 5 ∨ what = 6 ∨ what = 7 by omega) with c_1e | c_1e | c_1e | c_1e | c_1e | c_1e | c_1e | c_1e
    · refine v_sw_in (pc := 13) 60 0 dX11_of_13 (by unfold iB; omega) (by omega) (by omega) (by rw [c_1e]; rfl) rfl (by decide) ?_
      refine v_aload_n (pc := 60) 0 rfl dX11_of_60 ?_
      refine v_get (pc := 61) (v := ai (f (7 + player))) 1 (Or.inl r3) fl_11_103_0 rfl dX11_of_61 ?_
      exact hret () _ _ _ _ _ _ trivial (congrArg (fun z => some (ai z)) (by unfold qOf; (repeat' split) <;> first | rfl | (exfalso; omega) | (congr 1; omega))) rfl (Nat.le_of_ble_eq_true rfl) (Nat.le_of_ble_eq_true rfl) dX11_of_64
    · refine v_sw_in (pc := 13) 65 1 dX11_of_13 (by unfold iB; omega) (by omega) (by omega) (by rw [c_1e]; rfl) rfl (by decide) ?_
      refine v_aload_n (pc := 65) 0 rfl dX11_of_65 ?_
      refine v_get (pc := 66) (v := ai (f (13 + player))) 3 (Or.inl r3) fl_11_83_0 rfl dX11_of_66 ?_
      exact hret () _ _ _ _ _ _ trivial (congrArg (fun z => some (ai z)) (by unfold qOf; (repeat' split) <;> first | rfl | (exfalso; omega) | (congr 1; omega))) rfl (Nat.le_of_ble_eq_true rfl) (Nat.le_of_ble_eq_true rfl) dX11_of_69
    · refine v_sw_in (pc := 13) 70 2 dX11_of_13 (by unfold iB; omega) (by omega) (by omega) (by rw [c_1e]; rfl) rfl (by decide) ?_
      refine v_aload_n (pc := 70) 0 rfl dX11_of_70 ?_
      refine v_get (pc := 71) (v := ai (f (19 + player))) 4 (Or.inl r3) fl_11_86_0 rfl dX11_of_71 ?_
      exact hret () _ _ _ _ _ _ trivial (congrArg (fun z => some (ai z)) (by unfold qOf; (repeat' split) <;> first | rfl | (exfalso; omega) | (congr 1; omega))) rfl (Nat.le_of_ble_eq_true rfl) (Nat.le_of_ble_eq_true rfl) dX11_of_74
    · refine v_sw_in (pc := 13) 75 3 dX11_of_13 (by unfold iB; omega) (by omega) (by omega) (by rw [c_1e]; rfl) rfl (by decide) ?_
      refine v_aload_n (pc := 75) 0 rfl dX11_of_75 ?_
      refine v_get (pc := 76) (v := ai (f (25 + player))) 5 (Or.inl r3) fl_11_89_0 rfl dX11_of_76 ?_
      exact hret () _ _ _ _ _ _ trivial (congrArg (fun z => some (ai z)) (by unfold qOf; (repeat' split) <;> first | rfl | (exfalso; omega) | (congr 1; omega))) rfl (Nat.le_of_ble_eq_true rfl) (Nat.le_of_ble_eq_true rfl) dX11_of_79
    · refine v_sw_in (pc := 13) 80 4 dX11_of_13 (by unfold iB; omega) (by omega) (by omega) (by rw [c_1e]; rfl) rfl (by decide) ?_
      refine v_aload_n (pc := 80) 0 rfl dX11_of_80 ?_
      refine v_get (pc := 81) (v := ai (f (31 + player))) 6 (Or.inl r3) fl_11_106_0 rfl dX11_of_81 ?_
      exact hret () _ _ _ _ _ _ trivial (congrArg (fun z => some (ai z)) (by unfold qOf; (repeat' split) <;> first | rfl | (exfalso; omega) | (congr 1; omega))) rfl (Nat.le_of_ble_eq_true rfl) (Nat.le_of_ble_eq_true rfl) dX11_of_84
    · refine v_sw_in (pc := 13) 85 5 dX11_of_13 (by unfold iB; omega) (by omega) (by omega) (by rw [c_1e]; rfl) rfl (by decide) ?_
      refine v_aload_n (pc := 85) 0 rfl dX11_of_85 ?_
      refine v_get (pc := 86) (v := ai (f (37 + player))) 7 (Or.inl r3) fl_11_109_0 rfl dX11_of_86 ?_
      exact hret () _ _ _ _ _ _ trivial (congrArg (fun z => some (ai z)) (by unfold qOf; (repeat' split) <;> first | rfl | (exfalso; omega) | (congr 1; omega))) rfl (Nat.le_of_ble_eq_true rfl) (Nat.le_of_ble_eq_true rfl) dX11_of_89
    · refine v_sw_in (pc := 13) 90 6 dX11_of_13 (by unfold iB; omega) (by omega) (by omega) (by rw [c_1e]; rfl) rfl (by decide) ?_
      refine v_aload_n (pc := 90) 0 rfl dX11_of_90 ?_
      refine v_get (pc := 91) (v := ai (f (43 + player))) 8 (Or.inl r3) fl_11_92_0 rfl dX11_of_91 ?_
      exact hret () _ _ _ _ _ _ trivial (congrArg (fun z => some (ai z)) (by unfold qOf; (repeat' split) <;> first | rfl | (exfalso; omega) | (congr 1; omega))) rfl (Nat.le_of_ble_eq_true rfl) (Nat.le_of_ble_eq_true rfl) dX11_of_94
    · refine v_sw_in (pc := 13) 95 7 dX11_of_13 (by unfold iB; omega) (by omega) (by omega) (by rw [c_1e]; rfl) rfl (by decide) ?_
      refine v_aload_n (pc := 95) 0 rfl dX11_of_95 ?_
      refine v_aload_n (pc := 96) 0 rfl dX11_of_96 ?_
      refine v_get (pc := 97) (v := ai (f (19 + player))) 4 (Or.inl r3) fl_11_86_0 rfl dX11_of_97 ?_
      refine v_aload_n (pc := 100) 0 rfl dX11_of_100 ?_
      refine v_get (pc := 101) (v := ai (f (31 + player))) 6 (Or.inl r3) fl_11_106_0 rfl dX11_of_101 ?_
      refine v_callU (pc := 104) [] [] [] (z := yX5_unsureBy) (As := [ai (f (19 + player)), ai (f (31 + player))]) (rest := []) (c_X5_unsureBy_k0 q1 ta (f (7 + player)) player (f (13 + player)) (f (19 + player)) (f (25 + player)) (f (31 + player)) (f (37 + player)) (f (43 + player)) (f (19 + player)) (f (31 + player)) (by first | omega | assumption) (by first | omega | assumption)) (c := 0) rfl (Or.inl r3) wl_X11_112 wsm_0 wi_X5_unsureBy wk_X5_unsureBy wv_X0_X5_unsureBy_X5_unsureBy wi_X5_unsureBy wk_X5_unsureBy wz_X5 mdo_X5_unsureBy rfl (Nat.le_of_ble_eq_true rfl) ⟨Nat.le_of_ble_eq_true rfl, Nat.le_of_ble_eq_true rfl, Nat.le_of_ble_eq_true rfl, Nat.le_of_ble_eq_true rfl⟩ rfl rfl rfl rfl (by decide) (ro_cons (Or.inl r3) ro_nil) dX11_of_104 (fun u hu => ?_)
      show V x cX11_of RX11 4 (rmU 3 67 0 0) [] 107 [(3, ar q1), (0, ar mo), (1, ai player), (2, ai what)] [ai (kUns (f (19 + player)) (f (31 + player)))] 0 0
      exact hret () _ _ _ _ _ _ trivial (congrArg (fun z => some (ai z)) (by unfold qOf fUn; rw [if_neg (by omega), if_pos (by omega), hk]; rfl)) rfl (Nat.le_of_ble_eq_true rfl) (Nat.le_of_ble_eq_true rfl) dX11_of_107
set_option maxHeartbeats 4000000 in
set_option maxRecDepth 100000 in
theorem c_X11_of_k7 {gS : sG} (mo : Nat) (kw : Nat) (pi : Nat) (ta : Nat) (ms : Nat) (pt : Nat) (po : Nat) (hi : Int) (nw : Nat) (pls : Nat) (ins : Nat) (tap : Nat) (e3 : Nat) (e4 : Nat) (e5 : Nat) (e6 : Nat) (e7 : Nat) (e8 : Nat) (bar : Nat) (pv : Int → Option Nat) (q1 : Nat) (t1 : Nat) (f : Int → Int) (player : Int) (what : Int) (hS : SOK f) (hpv : pv player = some q1) (hp : 0 ≤ player ∧ player ≤ f 0 - 1) (hk : f (7 + player) = 3) (hb_player : -2147483648 ≤ player ∧ player < 2147483648) (hb_what : -2147483648 ≤ what ∧ what < 2147483648) : Ct gS (S := Unit) yX11_of cX11_of 4 (some .int) 3 67 0 0 [ar mo, ai player, ai what] [] (fun q => q ∈ ([(mo, co 11 [ar nw, ar kw, ar pi, ar ta, ar ms, ar pt, ar po, ai hi]), (nw, co 10 [ar pls, ar ins, ar tap, ar e3, ar e4, ar e5, ar e6, ar e7, ar e8, ai (f 0), ai (f 1), ai (f 4), ai (f 2), ai (f 3), ai (f 6), ar bar]), (pls, cq 3 6 pv), (q1, co 7 [ar ta, ai (f (7 + player)), ai player, ai (f (13 + player)), ai (f (19 + player)), ai (f (25 + player)), ai (f (31 + player)), ai (f (37 + player)), ai (f (43 + player))])] : aW)) (fun _ => True) (fun _ => some (ai (qOf f player what))) (fun _ => []) := by
  refine ct_I RX11 [(0, ar mo), (1, ai player), (2, ai what)] (by decide) rfl (Nat.le_of_ble_eq_true rfl) rfl (fun x hgS hro hret => ?_)
  subst hgS
  have r0 := hro _ (mem_at 0 rfl)
  have r1 := hro _ (mem_at 1 rfl)
  have r2 := hro _ (mem_at 2 rfl)
  have r3 := hro _ (mem_at 3 rfl)
  obtain ⟨⟨hg0, hg1, hg2, hg3, hg4, hg5, hg6, hg7⟩, hSp, hSh, hSs, hSb, hSt, hSw⟩ := id hS
  obtain ⟨hpp, hf1, hf2, hf3, hf4, hf5, hf6, hf7, hf8⟩ := hSp player (by omega) (by omega)
  show V x cX11_of RX11 4 (rmU 3 67 0 0) [] 0 [(0, ar mo), (1, ai player), (2, ai what)] [] 0 0
  refine v_aload_n (pc := 0) 0 rfl dX11_of_0 ?_
  refine v_iload_n (pc := 1) 1 rfl dX11_of_1 ?_
  refine v_callV (pc := 2) [] [] [] (As := [ai player]) (rest := []) (c_X11_find_y mo kw pi ta ms pt po hi nw pls ins tap e3 e4 e5 e6 e7 e8 bar pv q1 f player (by assumption) (by first | omega | assumption) (by first | omega | assumption)) (c := 11) rfl (Or.inl r0) wl_X11_99 wi_X11_find wv_X11_X11_find_X11_find wk_X11_find wz_X11 md_X11_find rfl (Nat.le_of_ble_eq_true rfl) ⟨Nat.le_of_ble_eq_true rfl, Nat.le_of_ble_eq_true rfl, Nat.le_of_ble_eq_true rfl, Nat.le_of_ble_eq_true rfl⟩ rfl rfl rfl rfl (by decide) (ro_cons (Or.inl r0) (ro_cons (Or.inl r1) (ro_cons (Or.inl r2) ro_nil))) dX11_of_2 (fun u hu => ?_)
  show V x cX11_of RX11 4 (rmU 3 67 0 0) [] 5 [(0, ar mo), (1, ai player), (2, ai what)] [ar q1] 0 0
  refine v_astore_n (pc := 5) (L2 := [(3, ar q1), (0, ar mo), (1, ai player), (2, ai what)]) rfl (by decide) dX11_of_5 ?_
  refine v_aload_n (pc := 6) 0 rfl dX11_of_6 ?_
  refine v_ifnonnull_r (pc := 7) 12 dX11_of_7 (by decide) ?_
  refine v_iload_n (pc := 12) 3 rfl dX11_of_12 ?_
  rcases Classical.em (what < 0 ∨ 7 < what) with c_1 | c_1
  · refine v_sw_out (pc := 13) 108 dX11_of_13 (by decide) (by unfold iB; omega) c_1 ?_
    refine v_iconst (pc := 108) dX11_of_108 ?_
    exact hret () _ _ _ _ _ _ trivial (congrArg (fun z => some (ai z)) (by unfold qOf; (repeat' split) <;> first | rfl | (exfalso; omega) | (congr 1; omega))) rfl (Nat.le_of_ble_eq_true rfl) (Nat.le_of_ble_eq_true rfl) dX11_of_109
  · rcases (show what = 0 ∨ what = 1 ∨ what = 2 ∨ what = 3 ∨ what = 4 ∨ what = 5 ∨ what = 6 ∨ what = 7 by omega) with c_1e | c_1e | c_1e | c_1e | c_1e | c_1e | c_1e | c_1e
    · refine v_sw_in (pc := 13) 60 0 dX11_of_13 (by unfold iB; omega) (by omega) (by omega) (by rw [c_1e]; rfl) rfl (by decide) ?_
      refine v_aload_n (pc := 60) 0 rfl dX11_of_60 ?_
      refine v_get (pc := 61) (v := ai (f (7 + player))) 1 (Or.inl r3) fl_11_103_7 rfl dX11_of_61 ?_
      exact hret () _ _ _ _ _ _ trivial (congrArg (fun z => some (ai z)) (by unfold qOf; (repeat' split) <;> first | rfl | (exfalso; omega) | (congr 1; omega))) rfl (Nat.le_of_ble_eq_true rfl) (Nat.le_of_ble_eq_true rfl) dX11_of_64
    · refine v_sw_in (pc := 13) 65 1 dX11_of_13 (by unfold iB; omega) (by omega) (by omega) (by rw [c_1e]; rfl) rfl (by decide) ?_
      refine v_aload_n (pc := 65) 0 rfl dX11_of_65 ?_
      refine v_get (pc := 66) (v := ai (f (13 + player))) 3 (Or.inl r3) fl_11_83_7 rfl dX11_of_66 ?_
      exact hret () _ _ _ _ _ _ trivial (congrArg (fun z => some (ai z)) (by unfold qOf; (repeat' split) <;> first | rfl | (exfalso; omega) | (congr 1; omega))) rfl (Nat.le_of_ble_eq_true rfl) (Nat.le_of_ble_eq_true rfl) dX11_of_69
    · refine v_sw_in (pc := 13) 70 2 dX11_of_13 (by unfold iB; omega) (by omega) (by omega) (by rw [c_1e]; rfl) rfl (by decide) ?_
      refine v_aload_n (pc := 70) 0 rfl dX11_of_70 ?_
      refine v_get (pc := 71) (v := ai (f (19 + player))) 4 (Or.inl r3) fl_11_86_7 rfl dX11_of_71 ?_
      exact hret () _ _ _ _ _ _ trivial (congrArg (fun z => some (ai z)) (by unfold qOf; (repeat' split) <;> first | rfl | (exfalso; omega) | (congr 1; omega))) rfl (Nat.le_of_ble_eq_true rfl) (Nat.le_of_ble_eq_true rfl) dX11_of_74
    · refine v_sw_in (pc := 13) 75 3 dX11_of_13 (by unfold iB; omega) (by omega) (by omega) (by rw [c_1e]; rfl) rfl (by decide) ?_
      refine v_aload_n (pc := 75) 0 rfl dX11_of_75 ?_
      refine v_get (pc := 76) (v := ai (f (25 + player))) 5 (Or.inl r3) fl_11_89_7 rfl dX11_of_76 ?_
      exact hret () _ _ _ _ _ _ trivial (congrArg (fun z => some (ai z)) (by unfold qOf; (repeat' split) <;> first | rfl | (exfalso; omega) | (congr 1; omega))) rfl (Nat.le_of_ble_eq_true rfl) (Nat.le_of_ble_eq_true rfl) dX11_of_79
    · refine v_sw_in (pc := 13) 80 4 dX11_of_13 (by unfold iB; omega) (by omega) (by omega) (by rw [c_1e]; rfl) rfl (by decide) ?_
      refine v_aload_n (pc := 80) 0 rfl dX11_of_80 ?_
      refine v_get (pc := 81) (v := ai (f (31 + player))) 6 (Or.inl r3) fl_11_106_7 rfl dX11_of_81 ?_
      exact hret () _ _ _ _ _ _ trivial (congrArg (fun z => some (ai z)) (by unfold qOf; (repeat' split) <;> first | rfl | (exfalso; omega) | (congr 1; omega))) rfl (Nat.le_of_ble_eq_true rfl) (Nat.le_of_ble_eq_true rfl) dX11_of_84
    · refine v_sw_in (pc := 13) 85 5 dX11_of_13 (by unfold iB; omega) (by omega) (by omega) (by rw [c_1e]; rfl) rfl (by decide) ?_
      refine v_aload_n (pc := 85) 0 rfl dX11_of_85 ?_
      refine v_get (pc := 86) (v := ai (f (37 + player))) 7 (Or.inl r3) fl_11_109_7 rfl dX11_of_86 ?_
      exact hret () _ _ _ _ _ _ trivial (congrArg (fun z => some (ai z)) (by unfold qOf; (repeat' split) <;> first | rfl | (exfalso; omega) | (congr 1; omega))) rfl (Nat.le_of_ble_eq_true rfl) (Nat.le_of_ble_eq_true rfl) dX11_of_89
    · refine v_sw_in (pc := 13) 90 6 dX11_of_13 (by unfold iB; omega) (by omega) (by omega) (by rw [c_1e]; rfl) rfl (by decide) ?_
      refine v_aload_n (pc := 90) 0 rfl dX11_of_90 ?_
      refine v_get (pc := 91) (v := ai (f (43 + player))) 8 (Or.inl r3) fl_11_92_7 rfl dX11_of_91 ?_
      exact hret () _ _ _ _ _ _ trivial (congrArg (fun z => some (ai z)) (by unfold qOf; (repeat' split) <;> first | rfl | (exfalso; omega) | (congr 1; omega))) rfl (Nat.le_of_ble_eq_true rfl) (Nat.le_of_ble_eq_true rfl) dX11_of_94
    · refine v_sw_in (pc := 13) 95 7 dX11_of_13 (by unfold iB; omega) (by omega) (by omega) (by rw [c_1e]; rfl) rfl (by decide) ?_
      refine v_aload_n (pc := 95) 0 rfl dX11_of_95 ?_
      refine v_aload_n (pc := 96) 0 rfl dX11_of_96 ?_
      refine v_get (pc := 97) (v := ai (f (19 + player))) 4 (Or.inl r3) fl_11_86_7 rfl dX11_of_97 ?_
      refine v_aload_n (pc := 100) 0 rfl dX11_of_100 ?_
      refine v_get (pc := 101) (v := ai (f (31 + player))) 6 (Or.inl r3) fl_11_106_7 rfl dX11_of_101 ?_
      refine v_callU (pc := 104) [] [] [] (z := yX5_unsureBy) (As := [ai (f (19 + player)), ai (f (31 + player))]) (rest := []) (c_X5_unsureBy_k7 q1 ta (f (7 + player)) player (f (13 + player)) (f (19 + player)) (f (25 + player)) (f (31 + player)) (f (37 + player)) (f (43 + player)) (f (19 + player)) (f (31 + player)) (by first | omega | assumption) (by first | omega | assumption)) (c := 7) rfl (Or.inl r3) wl_X11_112 wsm_0 wi_X5_unsureBy wk_X5_unsureBy wv_X7_X5_unsureBy_X5_unsureBy wi_X5_unsureBy wk_X5_unsureBy wz_X5 mdo_X5_unsureBy rfl (Nat.le_of_ble_eq_true rfl) ⟨Nat.le_of_ble_eq_true rfl, Nat.le_of_ble_eq_true rfl, Nat.le_of_ble_eq_true rfl, Nat.le_of_ble_eq_true rfl⟩ rfl rfl rfl rfl (by decide) (ro_cons (Or.inl r3) ro_nil) dX11_of_104 (fun u hu => ?_)
      show V x cX11_of RX11 4 (rmU 3 67 0 0) [] 107 [(3, ar q1), (0, ar mo), (1, ai player), (2, ai what)] [ai (kUns (f (19 + player)) (f (31 + player)))] 0 0
      exact hret () _ _ _ _ _ _ trivial (congrArg (fun z => some (ai z)) (by unfold qOf fUn; rw [if_neg (by omega), if_pos (by omega), hk]; rfl)) rfl (Nat.le_of_ble_eq_true rfl) (Nat.le_of_ble_eq_true rfl) dX11_of_107
set_option maxHeartbeats 4000000 in
set_option maxRecDepth 100000 in
theorem c_X11_of_k1 {gS : sG} (mo : Nat) (kw : Nat) (pi : Nat) (ta : Nat) (ms : Nat) (pt : Nat) (po : Nat) (hi : Int) (nw : Nat) (pls : Nat) (ins : Nat) (tap : Nat) (e3 : Nat) (e4 : Nat) (e5 : Nat) (e6 : Nat) (e7 : Nat) (e8 : Nat) (bar : Nat) (pv : Int → Option Nat) (q1 : Nat) (t1 : Nat) (f : Int → Int) (player : Int) (what : Int) (hS : SOK f) (hpv : pv player = some q1) (hp : 0 ≤ player ∧ player ≤ f 0 - 1) (hk : f (7 + player) = 4) (hb_player : -2147483648 ≤ player ∧ player < 2147483648) (hb_what : -2147483648 ≤ what ∧ what < 2147483648) : Ct gS (S := Unit) yX11_of cX11_of 4 (some .int) 3 67 0 0 [ar mo, ai player, ai what] [] (fun q => q ∈ ([(mo, co 11 [ar nw, ar kw, ar pi, ar ta, ar ms, ar pt, ar po, ai hi]), (nw, co 10 [ar pls, ar ins, ar tap, ar e3, ar e4, ar e5, ar e6, ar e7, ar e8, ai (f 0), ai (f 1), ai (f 4), ai (f 2), ai (f 3), ai (f 6), ar bar]), (pls, cq 3 6 pv), (q1, co 1 [ar ta, ai (f (7 + player)), ai player, ai (f (13 + player)), ai (f (19 + player)), ai (f (25 + player)), ai (f (31 + player)), ai (f (37 + player)), ai (f (43 + player))])] : aW)) (fun _ => True) (fun _ => some (ai (qOf f player what))) (fun _ => []) := by
  refine ct_I RX11 [(0, ar mo), (1, ai player), (2, ai what)] (by decide) rfl (Nat.le_of_ble_eq_true rfl) rfl (fun x hgS hro hret => ?_)
  subst hgS
  have r0 := hro _ (mem_at 0 rfl)
  have r1 := hro _ (mem_at 1 rfl)
  have r2 := hro _ (mem_at 2 rfl)
  have r3 := hro _ (mem_at 3 rfl)
  obtain ⟨⟨hg0, hg1, hg2, hg3, hg4, hg5, hg6, hg7⟩, hSp, hSh, hSs, hSb, hSt, hSw⟩ := id hS
  obtain ⟨hpp, hf1, hf2, hf3, hf4, hf5, hf6, hf7, hf8⟩ := hSp player (by omega) (by omega)
  show V x cX11_of RX11 4 (rmU 3 67 0 0) [] 0 [(0, ar mo), (1, ai player), (2, ai what)] [] 0 0
  refine v_aload_n (pc := 0) 0 rfl dX11_of_0 ?_
  refine v_iload_n (pc := 1) 1 rfl dX11_of_1 ?_
  refine v_callV (pc := 2) [] [] [] (As := [ai player]) (rest := []) (c_X11_find_y mo kw pi ta ms pt po hi nw pls ins tap e3 e4 e5 e6 e7 e8 bar pv q1 f player (by assumption) (by first | omega | assumption) (by first | omega | assumption)) (c := 11) rfl (Or.inl r0) wl_X11_99 wi_X11_find wv_X11_X11_find_X11_find wk_X11_find wz_X11 md_X11_find rfl (Nat.le_of_ble_eq_true rfl) ⟨Nat.le_of_ble_eq_true rfl, Nat.le_of_ble_eq_true rfl, Nat.le_of_ble_eq_true rfl, Nat.le_of_ble_eq_true rfl⟩ rfl rfl rfl rfl (by decide) (ro_cons (Or.inl r0) (ro_cons (Or.inl r1) (ro_cons (Or.inl r2) ro_nil))) dX11_of_2 (fun u hu => ?_)
  show V x cX11_of RX11 4 (rmU 3 67 0 0) [] 5 [(0, ar mo), (1, ai player), (2, ai what)] [ar q1] 0 0
  refine v_astore_n (pc := 5) (L2 := [(3, ar q1), (0, ar mo), (1, ai player), (2, ai what)]) rfl (by decide) dX11_of_5 ?_
  refine v_aload_n (pc := 6) 0 rfl dX11_of_6 ?_
  refine v_ifnonnull_r (pc := 7) 12 dX11_of_7 (by decide) ?_
  refine v_iload_n (pc := 12) 3 rfl dX11_of_12 ?_
  rcases Classical.em (what < 0 ∨ 7 < what) with c_1 | c_1
  · refine v_sw_out (pc := 13) 108 dX11_of_13 (by decide) (by unfold iB; omega) c_1 ?_
    refine v_iconst (pc := 108) dX11_of_108 ?_
    exact hret () _ _ _ _ _ _ trivial (congrArg (fun z => some (ai z)) (by unfold qOf; (repeat' split) <;> first | rfl | (exfalso; omega) | (congr 1; omega))) rfl (Nat.le_of_ble_eq_true rfl) (Nat.le_of_ble_eq_true rfl) dX11_of_109
  · rcases (show what = 0 ∨ what = 1 ∨ what = 2 ∨ what = 3 ∨ what = 4 ∨ what = 5 ∨ what = 6 ∨ what = 7 by omega) with c_1e | c_1e | c_1e | c_1e | c_1e | c_1e | c_1e | c_1e
    · refine v_sw_in (pc := 13) 60 0 dX11_of_13 (by unfold iB; omega) (by omega) (by omega) (by rw [c_1e]; rfl) rfl (by decide) ?_
      refine v_aload_n (pc := 60) 0 rfl dX11_of_60 ?_
      refine v_get (pc := 61) (v := ai (f (7 + player))) 1 (Or.inl r3) fl_11_103_1 rfl dX11_of_61 ?_
      exact hret () _ _ _ _ _ _ trivial (congrArg (fun z => some (ai z)) (by unfold qOf; (repeat' split) <;> first | rfl | (exfalso; omega) | (congr 1; omega))) rfl (Nat.le_of_ble_eq_true rfl) (Nat.le_of_ble_eq_true rfl) dX11_of_64
    · refine v_sw_in (pc := 13) 65 1 dX11_of_13 (by unfold iB; omega) (by omega) (by omega) (by rw [c_1e]; rfl) rfl (by decide) ?_
      refine v_aload_n (pc := 65) 0 rfl dX11_of_65 ?_
      refine v_get (pc := 66) (v := ai (f (13 + player))) 3 (Or.inl r3) fl_11_83_1 rfl dX11_of_66 ?_
      exact hret () _ _ _ _ _ _ trivial (congrArg (fun z => some (ai z)) (by unfold qOf; (repeat' split) <;> first | rfl | (exfalso; omega) | (congr 1; omega))) rfl (Nat.le_of_ble_eq_true rfl) (Nat.le_of_ble_eq_true rfl) dX11_of_69
    · refine v_sw_in (pc := 13) 70 2 dX11_of_13 (by unfold iB; omega) (by omega) (by omega) (by rw [c_1e]; rfl) rfl (by decide) ?_
      refine v_aload_n (pc := 70) 0 rfl dX11_of_70 ?_
      refine v_get (pc := 71) (v := ai (f (19 + player))) 4 (Or.inl r3) fl_11_86_1 rfl dX11_of_71 ?_
      exact hret () _ _ _ _ _ _ trivial (congrArg (fun z => some (ai z)) (by unfold qOf; (repeat' split) <;> first | rfl | (exfalso; omega) | (congr 1; omega))) rfl (Nat.le_of_ble_eq_true rfl) (Nat.le_of_ble_eq_true rfl) dX11_of_74
    · refine v_sw_in (pc := 13) 75 3 dX11_of_13 (by unfold iB; omega) (by omega) (by omega) (by rw [c_1e]; rfl) rfl (by decide) ?_
      refine v_aload_n (pc := 75) 0 rfl dX11_of_75 ?_
      refine v_get (pc := 76) (v := ai (f (25 + player))) 5 (Or.inl r3) fl_11_89_1 rfl dX11_of_76 ?_
      exact hret () _ _ _ _ _ _ trivial (congrArg (fun z => some (ai z)) (by unfold qOf; (repeat' split) <;> first | rfl | (exfalso; omega) | (congr 1; omega))) rfl (Nat.le_of_ble_eq_true rfl) (Nat.le_of_ble_eq_true rfl) dX11_of_79
    · refine v_sw_in (pc := 13) 80 4 dX11_of_13 (by unfold iB; omega) (by omega) (by omega) (by rw [c_1e]; rfl) rfl (by decide) ?_
      refine v_aload_n (pc := 80) 0 rfl dX11_of_80 ?_
      refine v_get (pc := 81) (v := ai (f (31 + player))) 6 (Or.inl r3) fl_11_106_1 rfl dX11_of_81 ?_
      exact hret () _ _ _ _ _ _ trivial (congrArg (fun z => some (ai z)) (by unfold qOf; (repeat' split) <;> first | rfl | (exfalso; omega) | (congr 1; omega))) rfl (Nat.le_of_ble_eq_true rfl) (Nat.le_of_ble_eq_true rfl) dX11_of_84
    · refine v_sw_in (pc := 13) 85 5 dX11_of_13 (by unfold iB; omega) (by omega) (by omega) (by rw [c_1e]; rfl) rfl (by decide) ?_
      refine v_aload_n (pc := 85) 0 rfl dX11_of_85 ?_
      refine v_get (pc := 86) (v := ai (f (37 + player))) 7 (Or.inl r3) fl_11_109_1 rfl dX11_of_86 ?_
      exact hret () _ _ _ _ _ _ trivial (congrArg (fun z => some (ai z)) (by unfold qOf; (repeat' split) <;> first | rfl | (exfalso; omega) | (congr 1; omega))) rfl (Nat.le_of_ble_eq_true rfl) (Nat.le_of_ble_eq_true rfl) dX11_of_89
    · refine v_sw_in (pc := 13) 90 6 dX11_of_13 (by unfold iB; omega) (by omega) (by omega) (by rw [c_1e]; rfl) rfl (by decide) ?_
      refine v_aload_n (pc := 90) 0 rfl dX11_of_90 ?_
      refine v_get (pc := 91) (v := ai (f (43 + player))) 8 (Or.inl r3) fl_11_92_1 rfl dX11_of_91 ?_
      exact hret () _ _ _ _ _ _ trivial (congrArg (fun z => some (ai z)) (by unfold qOf; (repeat' split) <;> first | rfl | (exfalso; omega) | (congr 1; omega))) rfl (Nat.le_of_ble_eq_true rfl) (Nat.le_of_ble_eq_true rfl) dX11_of_94
    · refine v_sw_in (pc := 13) 95 7 dX11_of_13 (by unfold iB; omega) (by omega) (by omega) (by rw [c_1e]; rfl) rfl (by decide) ?_
      refine v_aload_n (pc := 95) 0 rfl dX11_of_95 ?_
      refine v_aload_n (pc := 96) 0 rfl dX11_of_96 ?_
      refine v_get (pc := 97) (v := ai (f (19 + player))) 4 (Or.inl r3) fl_11_86_1 rfl dX11_of_97 ?_
      refine v_aload_n (pc := 100) 0 rfl dX11_of_100 ?_
      refine v_get (pc := 101) (v := ai (f (31 + player))) 6 (Or.inl r3) fl_11_106_1 rfl dX11_of_101 ?_
      refine v_callU (pc := 104) [] [] [] (z := yX5_unsureBy) (As := [ai (f (19 + player)), ai (f (31 + player))]) (rest := []) (c_X1_unsureBy_k1 q1 ta (f (7 + player)) player (f (13 + player)) (f (19 + player)) (f (25 + player)) (f (31 + player)) (f (37 + player)) (f (43 + player)) (f (19 + player)) (f (31 + player)) (by first | omega | assumption) (by first | omega | assumption)) (c := 1) rfl (Or.inl r3) wl_X11_112 wsm_0 wi_X5_unsureBy wk_X5_unsureBy wv_X1_X5_unsureBy_X1_unsureBy wi_X1_unsureBy wk_X1_unsureBy wz_X1 mdo_X5_unsureBy rfl (Nat.le_of_ble_eq_true rfl) ⟨Nat.le_of_ble_eq_true rfl, Nat.le_of_ble_eq_true rfl, Nat.le_of_ble_eq_true rfl, Nat.le_of_ble_eq_true rfl⟩ rfl rfl rfl rfl (by decide) (ro_cons (Or.inl r3) ro_nil) dX11_of_104 (fun u hu => ?_)
      show V x cX11_of RX11 4 (rmU 3 67 0 0) [] 107 [(3, ar q1), (0, ar mo), (1, ai player), (2, ai what)] [ai (kUns (f (19 + player)) 0 / 2)] 0 0
      exact hret () _ _ _ _ _ _ trivial (congrArg (fun z => some (ai z)) (by unfold qOf fUn; rw [if_neg (by omega), if_pos (by omega), hk]; rfl)) rfl (Nat.le_of_ble_eq_true rfl) (Nat.le_of_ble_eq_true rfl) dX11_of_107
set_option maxHeartbeats 4000000 in
set_option maxRecDepth 100000 in
theorem c_X11_of_k2 {gS : sG} (mo : Nat) (kw : Nat) (pi : Nat) (ta : Nat) (ms : Nat) (pt : Nat) (po : Nat) (hi : Int) (nw : Nat) (pls : Nat) (ins : Nat) (tap : Nat) (e3 : Nat) (e4 : Nat) (e5 : Nat) (e6 : Nat) (e7 : Nat) (e8 : Nat) (bar : Nat) (pv : Int → Option Nat) (q1 : Nat) (t1 : Nat) (f : Int → Int) (player : Int) (what : Int) (hS : SOK f) (hpv : pv player = some q1) (hp : 0 ≤ player ∧ player ≤ f 0 - 1) (hk : f (7 + player) = 5) (hb_player : -2147483648 ≤ player ∧ player < 2147483648) (hb_what : -2147483648 ≤ what ∧ what < 2147483648) : Ct gS (S := Unit) yX11_of cX11_of 4 (some .int) 3 67 0 0 [ar mo, ai player, ai what] [] (fun q => q ∈ ([(mo, co 11 [ar nw, ar kw, ar pi, ar ta, ar ms, ar pt, ar po, ai hi]), (nw, co 10 [ar pls, ar ins, ar tap, ar e3, ar e4, ar e5, ar e6, ar e7, ar e8, ai (f 0), ai (f 1), ai (f 4), ai (f 2), ai (f 3), ai (f 6), ar bar]), (pls, cq 3 6 pv), (q1, co 2 [ar ta, ai (f (7 + player)), ai player, ai (f (13 + player)), ai (f (19 + player)), ai (f (25 + player)), ai (f (31 + player)), ai (f (37 + player)), ai (f (43 + player))])] : aW)) (fun _ => True) (fun _ => some (ai (qOf f player what))) (fun _ => []) := by
  refine ct_I RX11 [(0, ar mo), (1, ai player), (2, ai what)] (by decide) rfl (Nat.le_of_ble_eq_true rfl) rfl (fun x hgS hro hret => ?_)
  subst hgS
  have r0 := hro _ (mem_at 0 rfl)
  have r1 := hro _ (mem_at 1 rfl)
  have r2 := hro _ (mem_at 2 rfl)
  have r3 := hro _ (mem_at 3 rfl)
  obtain ⟨⟨hg0, hg1, hg2, hg3, hg4, hg5, hg6, hg7⟩, hSp, hSh, hSs, hSb, hSt, hSw⟩ := id hS
  obtain ⟨hpp, hf1, hf2, hf3, hf4, hf5, hf6, hf7, hf8⟩ := hSp player (by omega) (by omega)
  show V x cX11_of RX11 4 (rmU 3 67 0 0) [] 0 [(0, ar mo), (1, ai player), (2, ai what)] [] 0 0
  refine v_aload_n (pc := 0) 0 rfl dX11_of_0 ?_
  refine v_iload_n (pc := 1) 1 rfl dX11_of_1 ?_
  refine v_callV (pc := 2) [] [] [] (As := [ai player]) (rest := []) (c_X11_find_y mo kw pi ta ms pt po hi nw pls ins tap e3 e4 e5 e6 e7 e8 bar pv q1 f player (by assumption) (by first | omega | assumption) (by first | omega | assumption)) (c := 11) rfl (Or.inl r0) wl_X11_99 wi_X11_find wv_X11_X11_find_X11_find wk_X11_find wz_X11 md_X11_find rfl (Nat.le_of_ble_eq_true rfl) ⟨Nat.le_of_ble_eq_true rfl, Nat.le_of_ble_eq_true rfl, Nat.le_of_ble_eq_true rfl, Nat.le_of_ble_eq_true rfl⟩ rfl rfl rfl rfl (by decide) (ro_cons (Or.inl r0) (ro_cons (Or.inl r1) (ro_cons (Or.inl r2) ro_nil))) dX11_of_2 (fun u hu => ?_)
  show V x cX11_of RX11 4 (rmU 3 67 0 0) [] 5 [(0, ar mo), (1, ai player), (2, ai what)] [ar q1] 0 0
  refine v_astore_n (pc := 5) (L2 := [(3, ar q1), (0, ar mo), (1, ai player), (2, ai what)]) rfl (by decide) dX11_of_5 ?_
  refine v_aload_n (pc := 6) 0 rfl dX11_of_6 ?_
  refine v_ifnonnull_r (pc := 7) 12 dX11_of_7 (by decide) ?_
  refine v_iload_n (pc := 12) 3 rfl dX11_of_12 ?_
  rcases Classical.em (what < 0 ∨ 7 < what) with c_1 | c_1
  · refine v_sw_out (pc := 13) 108 dX11_of_13 (by decide) (by unfold iB; omega) c_1 ?_
    refine v_iconst (pc := 108) dX11_of_108 ?_
    exact hret () _ _ _ _ _ _ trivial (congrArg (fun z => some (ai z)) (by unfold qOf; (repeat' split) <;> first | rfl | (exfalso; omega) | (congr 1; omega))) rfl (Nat.le_of_ble_eq_true rfl) (Nat.le_of_ble_eq_true rfl) dX11_of_109
  · rcases (show what = 0 ∨ what = 1 ∨ what = 2 ∨ what = 3 ∨ what = 4 ∨ what = 5 ∨ what = 6 ∨ what = 7 by omega) with c_1e | c_1e | c_1e | c_1e | c_1e | c_1e | c_1e | c_1e
    · refine v_sw_in (pc := 13) 60 0 dX11_of_13 (by unfold iB; omega) (by omega) (by omega) (by rw [c_1e]; rfl) rfl (by decide) ?_
      refine v_aload_n (pc := 60) 0 rfl dX11_of_60 ?_
      refine v_get (pc := 61) (v := ai (f (7 + player))) 1 (Or.inl r3) fl_11_103_2 rfl dX11_of_61 ?_
      exact hret () _ _ _ _ _ _ trivial (congrArg (fun z => some (ai z)) (by unfold qOf; (repeat' split) <;> first | rfl | (exfalso; omega) | (congr 1; omega))) rfl (Nat.le_of_ble_eq_true rfl) (Nat.le_of_ble_eq_true rfl) dX11_of_64
    · refine v_sw_in (pc := 13) 65 1 dX11_of_13 (by unfold iB; omega) (by omega) (by omega) (by rw [c_1e]; rfl) rfl (by decide) ?_
      refine v_aload_n (pc := 65) 0 rfl dX11_of_65 ?_
      refine v_get (pc := 66) (v := ai (f (13 + player))) 3 (Or.inl r3) fl_11_83_2 rfl dX11_of_66 ?_
      exact hret () _ _ _ _ _ _ trivial (congrArg (fun z => some (ai z)) (by unfold qOf; (repeat' split) <;> first | rfl | (exfalso; omega) | (congr 1; omega))) rfl (Nat.le_of_ble_eq_true rfl) (Nat.le_of_ble_eq_true rfl) dX11_of_69
    · refine v_sw_in (pc := 13) 70 2 dX11_of_13 (by unfold iB; omega) (by omega) (by omega) (by rw [c_1e]; rfl) rfl (by decide) ?_
      refine v_aload_n (pc := 70) 0 rfl dX11_of_70 ?_
      refine v_get (pc := 71) (v := ai (f (19 + player))) 4 (Or.inl r3) fl_11_86_2 rfl dX11_of_71 ?_
      exact hret () _ _ _ _ _ _ trivial (congrArg (fun z => some (ai z)) (by unfold qOf; (repeat' split) <;> first | rfl | (exfalso; omega) | (congr 1; omega))) rfl (Nat.le_of_ble_eq_true rfl) (Nat.le_of_ble_eq_true rfl) dX11_of_74
    · refine v_sw_in (pc := 13) 75 3 dX11_of_13 (by unfold iB; omega) (by omega) (by omega) (by rw [c_1e]; rfl) rfl (by decide) ?_
      refine v_aload_n (pc := 75) 0 rfl dX11_of_75 ?_
      refine v_get (pc := 76) (v := ai (f (25 + player))) 5 (Or.inl r3) fl_11_89_2 rfl dX11_of_76 ?_
      exact hret () _ _ _ _ _ _ trivial (congrArg (fun z => some (ai z)) (by unfold qOf; (repeat' split) <;> first | rfl | (exfalso; omega) | (congr 1; omega))) rfl (Nat.le_of_ble_eq_true rfl) (Nat.le_of_ble_eq_true rfl) dX11_of_79
    · refine v_sw_in (pc := 13) 80 4 dX11_of_13 (by unfold iB; omega) (by omega) (by omega) (by rw [c_1e]; rfl) rfl (by decide) ?_
      refine v_aload_n (pc := 80) 0 rfl dX11_of_80 ?_
      refine v_get (pc := 81) (v := ai (f (31 + player))) 6 (Or.inl r3) fl_11_106_2 rfl dX11_of_81 ?_
      exact hret () _ _ _ _ _ _ trivial (congrArg (fun z => some (ai z)) (by unfold qOf; (repeat' split) <;> first | rfl | (exfalso; omega) | (congr 1; omega))) rfl (Nat.le_of_ble_eq_true rfl) (Nat.le_of_ble_eq_true rfl) dX11_of_84
    · refine v_sw_in (pc := 13) 85 5 dX11_of_13 (by unfold iB; omega) (by omega) (by omega) (by rw [c_1e]; rfl) rfl (by decide) ?_
      refine v_aload_n (pc := 85) 0 rfl dX11_of_85 ?_
      refine v_get (pc := 86) (v := ai (f (37 + player))) 7 (Or.inl r3) fl_11_109_2 rfl dX11_of_86 ?_
      exact hret () _ _ _ _ _ _ trivial (congrArg (fun z => some (ai z)) (by unfold qOf; (repeat' split) <;> first | rfl | (exfalso; omega) | (congr 1; omega))) rfl (Nat.le_of_ble_eq_true rfl) (Nat.le_of_ble_eq_true rfl) dX11_of_89
    · refine v_sw_in (pc := 13) 90 6 dX11_of_13 (by unfold iB; omega) (by omega) (by omega) (by rw [c_1e]; rfl) rfl (by decide) ?_
      refine v_aload_n (pc := 90) 0 rfl dX11_of_90 ?_
      refine v_get (pc := 91) (v := ai (f (43 + player))) 8 (Or.inl r3) fl_11_92_2 rfl dX11_of_91 ?_
      exact hret () _ _ _ _ _ _ trivial (congrArg (fun z => some (ai z)) (by unfold qOf; (repeat' split) <;> first | rfl | (exfalso; omega) | (congr 1; omega))) rfl (Nat.le_of_ble_eq_true rfl) (Nat.le_of_ble_eq_true rfl) dX11_of_94
    · refine v_sw_in (pc := 13) 95 7 dX11_of_13 (by unfold iB; omega) (by omega) (by omega) (by rw [c_1e]; rfl) rfl (by decide) ?_
      refine v_aload_n (pc := 95) 0 rfl dX11_of_95 ?_
      refine v_aload_n (pc := 96) 0 rfl dX11_of_96 ?_
      refine v_get (pc := 97) (v := ai (f (19 + player))) 4 (Or.inl r3) fl_11_86_2 rfl dX11_of_97 ?_
      refine v_aload_n (pc := 100) 0 rfl dX11_of_100 ?_
      refine v_get (pc := 101) (v := ai (f (31 + player))) 6 (Or.inl r3) fl_11_106_2 rfl dX11_of_101 ?_
      refine v_callU (pc := 104) [] [] [] (z := yX5_unsureBy) (As := [ai (f (19 + player)), ai (f (31 + player))]) (rest := []) (c_X2_unsureBy_k2 q1 ta (f (7 + player)) player (f (13 + player)) (f (19 + player)) (f (25 + player)) (f (31 + player)) (f (37 + player)) (f (43 + player)) (f (19 + player)) (f (31 + player)) (by first | omega | assumption) (by first | omega | assumption)) (c := 2) rfl (Or.inl r3) wl_X11_112 wsm_0 wi_X5_unsureBy wk_X5_unsureBy wv_X2_X5_unsureBy_X2_unsureBy wi_X2_unsureBy wk_X2_unsureBy wz_X2 mdo_X5_unsureBy rfl (Nat.le_of_ble_eq_true rfl) ⟨Nat.le_of_ble_eq_true rfl, Nat.le_of_ble_eq_true rfl, Nat.le_of_ble_eq_true rfl, Nat.le_of_ble_eq_true rfl⟩ rfl rfl rfl rfl (by decide) (ro_cons (Or.inl r3) ro_nil) dX11_of_104 (fun u hu => ?_)
      show V x cX11_of RX11 4 (rmU 3 67 0 0) [] 107 [(3, ar q1), (0, ar mo), (1, ai player), (2, ai what)] [ai (kUns (f (19 + player)) (2 * (f (31 + player))))] 0 0
      exact hret () _ _ _ _ _ _ trivial (congrArg (fun z => some (ai z)) (by unfold qOf fUn; rw [if_neg (by omega), if_pos (by omega), hk]; rfl)) rfl (Nat.le_of_ble_eq_true rfl) (Nat.le_of_ble_eq_true rfl) dX11_of_107
set_option maxHeartbeats 4000000 in
set_option maxRecDepth 100000 in
theorem c_X11_of_k9 {gS : sG} (mo : Nat) (kw : Nat) (pi : Nat) (ta : Nat) (ms : Nat) (pt : Nat) (po : Nat) (hi : Int) (nw : Nat) (pls : Nat) (ins : Nat) (tap : Nat) (e3 : Nat) (e4 : Nat) (e5 : Nat) (e6 : Nat) (e7 : Nat) (e8 : Nat) (bar : Nat) (pv : Int → Option Nat) (q1 : Nat) (t1 : Nat) (f : Int → Int) (player : Int) (what : Int) (hS : SOK f) (hpv : pv player = some q1) (hp : 0 ≤ player ∧ player ≤ f 0 - 1) (hk : f (7 + player) = 6) (hb_player : -2147483648 ≤ player ∧ player < 2147483648) (hb_what : -2147483648 ≤ what ∧ what < 2147483648) : Ct gS (S := Unit) yX11_of cX11_of 4 (some .int) 3 67 0 0 [ar mo, ai player, ai what] [] (fun q => q ∈ ([(mo, co 11 [ar nw, ar kw, ar pi, ar ta, ar ms, ar pt, ar po, ai hi]), (nw, co 10 [ar pls, ar ins, ar tap, ar e3, ar e4, ar e5, ar e6, ar e7, ar e8, ai (f 0), ai (f 1), ai (f 4), ai (f 2), ai (f 3), ai (f 6), ar bar]), (pls, cq 3 6 pv), (q1, co 9 [ar ta, ai (f (7 + player)), ai player, ai (f (13 + player)), ai (f (19 + player)), ai (f (25 + player)), ai (f (31 + player)), ai (f (37 + player)), ai (f (43 + player)), ar t1])] : aW)) (fun _ => True) (fun _ => some (ai (qOf f player what))) (fun _ => []) := by
  refine ct_I RX11 [(0, ar mo), (1, ai player), (2, ai what)] (by decide) rfl (Nat.le_of_ble_eq_true rfl) rfl (fun x hgS hro hret => ?_)
  subst hgS
  have r0 := hro _ (mem_at 0 rfl)
  have r1 := hro _ (mem_at 1 rfl)
  have r2 := hro _ (mem_at 2 rfl)
  have r3 := hro _ (mem_at 3 rfl)
  obtain ⟨⟨hg0, hg1, hg2, hg3, hg4, hg5, hg6, hg7⟩, hSp, hSh, hSs, hSb, hSt, hSw⟩ := id hS
  obtain ⟨hpp, hf1, hf2, hf3, hf4, hf5, hf6, hf7, hf8⟩ := hSp player (by omega) (by omega)
  show V x cX11_of RX11 4 (rmU 3 67 0 0) [] 0 [(0, ar mo), (1, ai player), (2, ai what)] [] 0 0
  refine v_aload_n (pc := 0) 0 rfl dX11_of_0 ?_
  refine v_iload_n (pc := 1) 1 rfl dX11_of_1 ?_
  refine v_callV (pc := 2) [] [] [] (As := [ai player]) (rest := []) (c_X11_find_y mo kw pi ta ms pt po hi nw pls ins tap e3 e4 e5 e6 e7 e8 bar pv q1 f player (by assumption) (by first | omega | assumption) (by first | omega | assumption)) (c := 11) rfl (Or.inl r0) wl_X11_99 wi_X11_find wv_X11_X11_find_X11_find wk_X11_find wz_X11 md_X11_find rfl (Nat.le_of_ble_eq_true rfl) ⟨Nat.le_of_ble_eq_true rfl, Nat.le_of_ble_eq_true rfl, Nat.le_of_ble_eq_true rfl, Nat.le_of_ble_eq_true rfl⟩ rfl rfl rfl rfl (by decide) (ro_cons (Or.inl r0) (ro_cons (Or.inl r1) (ro_cons (Or.inl r2) ro_nil))) dX11_of_2 (fun u hu => ?_)
  show V x cX11_of RX11 4 (rmU 3 67 0 0) [] 5 [(0, ar mo), (1, ai player), (2, ai what)] [ar q1] 0 0
  refine v_astore_n (pc := 5) (L2 := [(3, ar q1), (0, ar mo), (1, ai player), (2, ai what)]) rfl (by decide) dX11_of_5 ?_
  refine v_aload_n (pc := 6) 0 rfl dX11_of_6 ?_
  refine v_ifnonnull_r (pc := 7) 12 dX11_of_7 (by decide) ?_
  refine v_iload_n (pc := 12) 3 rfl dX11_of_12 ?_
  rcases Classical.em (what < 0 ∨ 7 < what) with c_1 | c_1
  · refine v_sw_out (pc := 13) 108 dX11_of_13 (by decide) (by unfold iB; omega) c_1 ?_
    refine v_iconst (pc := 108) dX11_of_108 ?_
    exact hret () _ _ _ _ _ _ trivial (congrArg (fun z => some (ai z)) (by unfold qOf; (repeat' split) <;> first | rfl | (exfalso; omega) | (congr 1; omega))) rfl (Nat.le_of_ble_eq_true rfl) (Nat.le_of_ble_eq_true rfl) dX11_of_109
  · rcases (show what = 0 ∨ what = 1 ∨ what = 2 ∨ what = 3 ∨ what = 4 ∨ what = 5 ∨ what = 6 ∨ what = 7 by omega) with c_1e | c_1e | c_1e | c_1e | c_1e | c_1e | c_1e | c_1e
    · refine v_sw_in (pc := 13) 60 0 dX11_of_13 (by unfold iB; omega) (by omega) (by omega) (by rw [c_1e]; rfl) rfl (by decide) ?_
      refine v_aload_n (pc := 60) 0 rfl dX11_of_60 ?_
      refine v_get (pc := 61) (v := ai (f (7 + player))) 1 (Or.inl r3) fl_11_103_9 rfl dX11_of_61 ?_
      exact hret () _ _ _ _ _ _ trivial (congrArg (fun z => some (ai z)) (by unfold qOf; (repeat' split) <;> first | rfl | (exfalso; omega) | (congr 1; omega))) rfl (Nat.le_of_ble_eq_true rfl) (Nat.le_of_ble_eq_true rfl) dX11_of_64
    · refine v_sw_in (pc := 13) 65 1 dX11_of_13 (by unfold iB; omega) (by omega) (by omega) (by rw [c_1e]; rfl) rfl (by decide) ?_
      refine v_aload_n (pc := 65) 0 rfl dX11_of_65 ?_
      refine v_get (pc := 66) (v := ai (f (13 + player))) 3 (Or.inl r3) fl_11_83_9 rfl dX11_of_66 ?_
      exact hret () _ _ _ _ _ _ trivial (congrArg (fun z => some (ai z)) (by unfold qOf; (repeat' split) <;> first | rfl | (exfalso; omega) | (congr 1; omega))) rfl (Nat.le_of_ble_eq_true rfl) (Nat.le_of_ble_eq_true rfl) dX11_of_69
    · refine v_sw_in (pc := 13) 70 2 dX11_of_13 (by unfold iB; omega) (by omega) (by omega) (by rw [c_1e]; rfl) rfl (by decide) ?_
      refine v_aload_n (pc := 70) 0 rfl dX11_of_70 ?_
      refine v_get (pc := 71) (v := ai (f (19 + player))) 4 (Or.inl r3) fl_11_86_9 rfl dX11_of_71 ?_
      exact hret () _ _ _ _ _ _ trivial (congrArg (fun z => some (ai z)) (by unfold qOf; (repeat' split) <;> first | rfl | (exfalso; omega) | (congr 1; omega))) rfl (Nat.le_of_ble_eq_true rfl) (Nat.le_of_ble_eq_true rfl) dX11_of_74
    · refine v_sw_in (pc := 13) 75 3 dX11_of_13 (by unfold iB; omega) (by omega) (by omega) (by rw [c_1e]; rfl) rfl (by decide) ?_
      refine v_aload_n (pc := 75) 0 rfl dX11_of_75 ?_
      refine v_get (pc := 76) (v := ai (f (25 + player))) 5 (Or.inl r3) fl_11_89_9 rfl dX11_of_76 ?_
      exact hret () _ _ _ _ _ _ trivial (congrArg (fun z => some (ai z)) (by unfold qOf; (repeat' split) <;> first | rfl | (exfalso; omega) | (congr 1; omega))) rfl (Nat.le_of_ble_eq_true rfl) (Nat.le_of_ble_eq_true rfl) dX11_of_79
    · refine v_sw_in (pc := 13) 80 4 dX11_of_13 (by unfold iB; omega) (by omega) (by omega) (by rw [c_1e]; rfl) rfl (by decide) ?_
      refine v_aload_n (pc := 80) 0 rfl dX11_of_80 ?_
      refine v_get (pc := 81) (v := ai (f (31 + player))) 6 (Or.inl r3) fl_11_106_9 rfl dX11_of_81 ?_
      exact hret () _ _ _ _ _ _ trivial (congrArg (fun z => some (ai z)) (by unfold qOf; (repeat' split) <;> first | rfl | (exfalso; omega) | (congr 1; omega))) rfl (Nat.le_of_ble_eq_true rfl) (Nat.le_of_ble_eq_true rfl) dX11_of_84
    · refine v_sw_in (pc := 13) 85 5 dX11_of_13 (by unfold iB; omega) (by omega) (by omega) (by rw [c_1e]; rfl) rfl (by decide) ?_
      refine v_aload_n (pc := 85) 0 rfl dX11_of_85 ?_
      refine v_get (pc := 86) (v := ai (f (37 + player))) 7 (Or.inl r3) fl_11_109_9 rfl dX11_of_86 ?_
      exact hret () _ _ _ _ _ _ trivial (congrArg (fun z => some (ai z)) (by unfold qOf; (repeat' split) <;> first | rfl | (exfalso; omega) | (congr 1; omega))) rfl (Nat.le_of_ble_eq_true rfl) (Nat.le_of_ble_eq_true rfl) dX11_of_89
    · refine v_sw_in (pc := 13) 90 6 dX11_of_13 (by unfold iB; omega) (by omega) (by omega) (by rw [c_1e]; rfl) rfl (by decide) ?_
      refine v_aload_n (pc := 90) 0 rfl dX11_of_90 ?_
      refine v_get (pc := 91) (v := ai (f (43 + player))) 8 (Or.inl r3) fl_11_92_9 rfl dX11_of_91 ?_
      exact hret () _ _ _ _ _ _ trivial (congrArg (fun z => some (ai z)) (by unfold qOf; (repeat' split) <;> first | rfl | (exfalso; omega) | (congr 1; omega))) rfl (Nat.le_of_ble_eq_true rfl) (Nat.le_of_ble_eq_true rfl) dX11_of_94
    · refine v_sw_in (pc := 13) 95 7 dX11_of_13 (by unfold iB; omega) (by omega) (by omega) (by rw [c_1e]; rfl) rfl (by decide) ?_
      refine v_aload_n (pc := 95) 0 rfl dX11_of_95 ?_
      refine v_aload_n (pc := 96) 0 rfl dX11_of_96 ?_
      refine v_get (pc := 97) (v := ai (f (19 + player))) 4 (Or.inl r3) fl_11_86_9 rfl dX11_of_97 ?_
      refine v_aload_n (pc := 100) 0 rfl dX11_of_100 ?_
      refine v_get (pc := 101) (v := ai (f (31 + player))) 6 (Or.inl r3) fl_11_106_9 rfl dX11_of_101 ?_
      refine v_callU (pc := 104) [] [] [] (z := yX5_unsureBy) (As := [ai (f (19 + player)), ai (f (31 + player))]) (rest := []) (c_X5_unsureBy_k9 q1 ta (f (7 + player)) player (f (13 + player)) (f (19 + player)) (f (25 + player)) (f (31 + player)) (f (37 + player)) (f (43 + player)) t1 (f (19 + player)) (f (31 + player)) (by first | omega | assumption) (by first | omega | assumption)) (c := 9) rfl (Or.inl r3) wl_X11_112 wsm_0 wi_X5_unsureBy wk_X5_unsureBy wv_X9_X5_unsureBy_X5_unsureBy wi_X5_unsureBy wk_X5_unsureBy wz_X5 mdo_X5_unsureBy rfl (Nat.le_of_ble_eq_true rfl) ⟨Nat.le_of_ble_eq_true rfl, Nat.le_of_ble_eq_true rfl, Nat.le_of_ble_eq_true rfl, Nat.le_of_ble_eq_true rfl⟩ rfl rfl rfl rfl (by decide) (ro_cons (Or.inl r3) ro_nil) dX11_of_104 (fun u hu => ?_)
      show V x cX11_of RX11 4 (rmU 3 67 0 0) [] 107 [(3, ar q1), (0, ar mo), (1, ai player), (2, ai what)] [ai (kUns (f (19 + player)) (f (31 + player)))] 0 0
      exact hret () _ _ _ _ _ _ trivial (congrArg (fun z => some (ai z)) (by unfold qOf fUn; rw [if_neg (by omega), if_pos (by omega), hk]; rfl)) rfl (Nat.le_of_ble_eq_true rfl) (Nat.le_of_ble_eq_true rfl) dX11_of_107
set_option maxHeartbeats 4000000 in
theorem c_X11_of_y {gS : sG} (mo : Nat) (kw : Nat) (pi : Nat) (ta : Nat) (ms : Nat) (pt : Nat) (po : Nat) (hi : Int) (nw : Nat) (pls : Nat) (ins : Nat) (tap : Nat) (e3 : Nat) (e4 : Nat) (e5 : Nat) (e6 : Nat) (e7 : Nat) (e8 : Nat) (bar : Nat) (pv : Int → Option Nat) (q1 : Nat) (t1 : Nat) (f : Int → Int) (player : Int) (what : Int) (hS : SOK f) (hpv : pv player = some q1) (hp : 0 ≤ player ∧ player ≤ f 0 - 1) (hb_player : -2147483648 ≤ player ∧ player < 2147483648) (hb_what : -2147483648 ≤ what ∧ what < 2147483648) : Ct gS (S := Unit) yX11_of cX11_of 4 (some .int) 3 67 0 0 [ar mo, ai player, ai what] [] (fun q => q ∈ ([(mo, co 11 [ar nw, ar kw, ar pi, ar ta, ar ms, ar pt, ar po, ai hi]), (nw, co 10 [ar pls, ar ins, ar tap, ar e3, ar e4, ar e5, ar e6, ar e7, ar e8, ai (f 0), ai (f 1), ai (f 4), ai (f 2), ai (f 3), ai (f 6), ar bar]), (pls, cq 3 6 pv), (q1, zpO ta f player t1)] : aW)) (fun _ => True) (fun _ => some (ai (qOf f player what))) (fun _ => []) := by
  have hkd := (hS.2.1 player (by omega) (by have := hS.1.1; omega)).2.1
  rcases (show f (7 + player) = 0 ∨ f (7 + player) = 1 ∨ f (7 + player) = 2 ∨ f (7 + player) = 3 ∨ f (7 + player) = 4 ∨ f (7 + player) = 5 ∨ f (7 + player) = 6 by omega) with hk | hk | hk | hk | hk | hk | hk
  · have e : zpO ta f player t1 = co 5 (zpL ta f player []) := zpO_k hk rfl rfl
    have H := c_X11_of_k5 (gS := gS) mo kw pi ta ms pt po hi nw pls ins tap e3 e4 e5 e6 e7 e8 bar pv q1 t1 f player what hS hpv hp hk hb_player hb_what
    rw [e]
    exact H
  · have e : zpO ta f player t1 = co 8 (zpL ta f player []) := zpO_k hk rfl rfl
    have H := c_X11_of_k8 (gS := gS) mo kw pi ta ms pt po hi nw pls ins tap e3 e4 e5 e6 e7 e8 bar pv q1 t1 f player what hS hpv hp hk hb_player hb_what
    rw [e]
    exact H
  · have e : zpO ta f player t1 = co 0 (zpL ta f player []) := zpO_k hk rfl rfl
    have H := c_X11_of_k0 (gS := gS) mo kw pi ta ms pt po hi nw pls ins tap e3 e4 e5 e6 e7 e8 bar pv q1 t1 f player what hS hpv hp hk hb_player hb_what
    rw [e]
    exact H
  · have e : zpO ta f player t1 = co 7 (zpL ta f player []) := zpO_k hk rfl rfl
    have H := c_X11_of_k7 (gS := gS) mo kw pi ta ms pt po hi nw pls ins tap e3 e4 e5 e6 e7 e8 bar pv q1 t1 f player what hS hpv hp hk hb_player hb_what
    rw [e]
    exact H
  · have e : zpO ta f player t1 = co 1 (zpL ta f player []) := zpO_k hk rfl rfl
    have H := c_X11_of_k1 (gS := gS) mo kw pi ta ms pt po hi nw pls ins tap e3 e4 e5 e6 e7 e8 bar pv q1 t1 f player what hS hpv hp hk hb_player hb_what
    rw [e]
    exact H
  · have e : zpO ta f player t1 = co 2 (zpL ta f player []) := zpO_k hk rfl rfl
    have H := c_X11_of_k2 (gS := gS) mo kw pi ta ms pt po hi nw pls ins tap e3 e4 e5 e6 e7 e8 bar pv q1 t1 f player what hS hpv hp hk hb_player hb_what
    rw [e]
    exact H
  · have e : zpO ta f player t1 = co 9 (zpL ta f player [ar t1]) := zpO_k hk rfl rfl
    have H := c_X11_of_k9 (gS := gS) mo kw pi ta ms pt po hi nw pls ins tap e3 e4 e5 e6 e7 e8 bar pv q1 t1 f player what hS hpv hp hk hb_player hb_what
    rw [e]
    exact H
set_option maxHeartbeats 4000000 in
set_option maxRecDepth 100000 in
theorem c_X11_of_n {gS : sG} (mo : Nat) (kw : Nat) (pi : Nat) (ta : Nat) (ms : Nat) (pt : Nat) (po : Nat) (hi : Int) (nw : Nat) (pls : Nat) (ins : Nat) (tap : Nat) (e3 : Nat) (e4 : Nat) (e5 : Nat) (e6 : Nat) (e7 : Nat) (e8 : Nat) (bar : Nat) (pv : Int → Option Nat) (f : Int → Int) (player : Int) (what : Int) (hS : SOK f) (hp : ¬ (0 ≤ player ∧ player ≤ f 0 - 1)) (hb_player : -2147483648 ≤ player ∧ player < 2147483648) (hb_what : -2147483648 ≤ what ∧ what < 2147483648) : Ct gS (S := Unit) yX11_of cX11_of 4 (some .int) 3 67 0 0 [ar mo, ai player, ai what] [] (fun q => q ∈ ([(mo, co 11 [ar nw, ar kw, ar pi, ar ta, ar ms, ar pt, ar po, ai hi]), (nw, co 10 [ar pls, ar ins, ar tap, ar e3, ar e4, ar e5, ar e6, ar e7, ar e8, ai (f 0), ai (f 1), ai (f 4), ai (f 2), ai (f 3), ai (f 6), ar bar]), (pls, cq 3 6 pv)] : aW)) (fun _ => True) (fun _ => some (ai (qOf f player what))) (fun _ => []) := by
  refine ct_I RX11 [(0, ar mo), (1, ai player), (2, ai what)] (by decide) rfl (Nat.le_of_ble_eq_true rfl) rfl (fun x hgS hro hret => ?_)
  subst hgS
  have r0 := hro _ (mem_at 0 rfl)
  have r1 := hro _ (mem_at 1 rfl)
  have r2 := hro _ (mem_at 2 rfl)
  obtain ⟨⟨hg0, hg1, hg2, hg3, hg4, hg5, hg6, hg7⟩, hSp, hSh, hSs, hSb, hSt, hSw⟩ := id hS
  show V x cX11_of RX11 4 (rmU 3 67 0 0) [] 0 [(0, ar mo), (1, ai player), (2, ai what)] [] 0 0
  refine v_aload_n (pc := 0) 0 rfl dX11_of_0 ?_
  refine v_iload_n (pc := 1) 1 rfl dX11_of_1 ?_
  refine v_callV (pc := 2) [] [] [] (As := [ai player]) (rest := []) (c_X11_find_n mo kw pi ta ms pt po hi nw pls ins tap e3 e4 e5 e6 e7 e8 bar pv f player (by assumption) (by first | omega | assumption) (by first | omega | assumption)) (c := 11) rfl (Or.inl r0) wl_X11_99 wi_X11_find wv_X11_X11_find_X11_find wk_X11_find wz_X11 md_X11_find rfl (Nat.le_of_ble_eq_true rfl) ⟨Nat.le_of_ble_eq_true rfl, Nat.le_of_ble_eq_true rfl, Nat.le_of_ble_eq_true rfl, Nat.le_of_ble_eq_true rfl⟩ rfl rfl rfl rfl (by decide) (ro_cons (Or.inl r0) (ro_cons (Or.inl r1) (ro_cons (Or.inl r2) ro_nil))) dX11_of_2 (fun u hu => ?_)
  show V x cX11_of RX11 4 (rmU 3 67 0 0) [] 5 [(0, ar mo), (1, ai player), (2, ai what)] [an] 0 0
  refine v_astore_n (pc := 5) (L2 := [(3, an), (0, ar mo), (1, ai player), (2, ai what)]) rfl (by decide) dX11_of_5 ?_
  refine v_aload_n (pc := 6) 0 rfl dX11_of_6 ?_
  refine v_ifnonnull_n (pc := 7) dX11_of_7 ?_
  refine v_iconst (pc := 10) dX11_of_10 ?_
  exact hret () _ _ _ _ _ _ trivial (congrArg (fun z => some (ai z)) (by unfold qOf; (repeat' split) <;> first | rfl | (exfalso; omega) | omega)) rfl (Nat.le_of_ble_eq_true rfl) (Nat.le_of_ble_eq_true rfl) dX11_of_11
theorem c_X11_of {gS : sG} (mo : Nat) (kw : Nat) (pi : Nat) (ta : Nat) (ms : Nat) (pt : Nat) (po : Nat) (hi : Int) (nw : Nat) (pls : Nat) (ins : Nat) (tap : Nat) (e3 : Nat) (e4 : Nat) (e5 : Nat) (e6 : Nat) (e7 : Nat) (e8 : Nat) (bar : Nat) (pv : Int → Option Nat) (pl : Int → Nat) (tu : Int → Nat) (f : Int → Int) (player : Int) (what : Int) (hS : SOK f) (hpv : ∀ i : Int, 0 ≤ i → i ≤ f 0 - 1 → pv i = some (pl i)) (hb_player : -2147483648 ≤ player ∧ player < 2147483648) (hb_what : -2147483648 ≤ what ∧ what < 2147483648) : Ct gS (S := Unit) yX11_of cX11_of 4 (some .int) 3 67 0 0 [ar mo, ai player, ai what] [] (fun q => q ∈ ([(mo, co 11 [ar nw, ar kw, ar pi, ar ta, ar ms, ar pt, ar po, ai hi]), (nw, co 10 [ar pls, ar ins, ar tap, ar e3, ar e4, ar e5, ar e6, ar e7, ar e8, ai (f 0), ai (f 1), ai (f 4), ai (f 2), ai (f 3), ai (f 6), ar bar]), (pls, cq 3 6 pv)] : aW) ++ zpA ta f pl tu) (fun _ => True) (fun _ => some (ai (qOf f player what))) (fun _ => []) := by
  rcases Classical.em (0 ≤ player ∧ player ≤ f 0 - 1) with hp | hp
  · refine Ct.mono (c_X11_of_y (gS := gS) mo kw pi ta ms pt po hi nw pls ins tap e3 e4 e5 e6 e7 e8 bar pv (pl player) (tu player) f player what hS (hpv player hp.1 hp.2) hp hb_player hb_what) (fun q hq => ?_) (fun u hu => ⟨u, hu, rfl, rfl⟩)
    simp only [List.mem_cons, List.not_mem_nil, or_false] at hq
    rcases hq with rfl | rfl | rfl | rfl
    · exact List.mem_append_left _ (mem_at 0 rfl)
    · exact List.mem_append_left _ (mem_at 1 rfl)
    · exact List.mem_append_left _ (mem_at 2 rfl)
    · exact List.mem_append_right _ (zpA_p hp)
  · exact Ct.mono (c_X11_of_n (gS := gS) mo kw pi ta ms pt po hi nw pls ins tap e3 e4 e5 e6 e7 e8 bar pv f player what hS hp hb_player hb_what) (fun q hq => List.mem_append_left _ hq) (fun u hu => ⟨u, hu, rfl, rfl⟩)
set_option maxHeartbeats 4000000 in
set_option maxRecDepth 100000 in
theorem c_X11_row_k5 {gS : sG} (mo : Nat) (kw : Nat) (pi : Nat) (ta : Nat) (ms : Nat) (pt : Nat) (po : Nat) (hi : Int) (nw : Nat) (pls : Nat) (ins : Nat) (tap : Nat) (e3 : Nat) (e4 : Nat) (e5 : Nat) (e6 : Nat) (e7 : Nat) (e8 : Nat) (bar : Nat) (pv : Int → Option Nat) (q1 : Nat) (t1 : Nat) (f : Int → Int) (player : Int) (k : Int) (n : Int) (hS : SOK f) (hpv : pv player = some q1) (hp : 0 ≤ player ∧ player ≤ f 0 - 1) (hk : f (7 + player) = 0) (hb_player : -2147483648 ≤ player ∧ player < 2147483648) (hb_k : -2147483648 ≤ k ∧ k < 2147483648) (hb_n : -2147483648 ≤ n ∧ n < 2147483648) : Ct gS (S := Unit) yX11_row cX11_row 7 (some .int) 2 43 0 0 [ar mo, ai player, ai k, ai n] [] (fun q => q ∈ ([(mo, co 11 [ar nw, ar kw, ar pi, ar ta, ar ms, ar pt, ar po, ai hi]), (nw, co 10 [ar pls, ar ins, ar tap, ar e3, ar e4, ar e5, ar e6, ar e7, ar e8, ai (f 0), ai (f 1), ai (f 4), ai (f 2), ai (f 3), ai (f 6), ar bar]), (pls, cq 3 6 pv), (q1, co 5 [ar ta, ai (f (7 + player)), ai player, ai (f (13 + player)), ai (f (19 + player)), ai (f (25 + player)), ai (f (31 + player)), ai (f (37 + player)), ai (f (43 + player))])] : aW)) (fun _ => True) (fun _ => some (ai ((qRow f player k n).1))) (fun _ => []) := by
  refine ct_I RX11 [(0, ar mo), (1, ai player), (2, ai k), (3, ai n)] (by decide) rfl (Nat.le_of_ble_eq_true rfl) rfl (fun x hgS hro hret => ?_)
  subst hgS
  have r0 := hro _ (mem_at 0 rfl)
  have r1 := hro _ (mem_at 1 rfl)
  have r2 := hro _ (mem_at 2 rfl)
  have r3 := hro _ (mem_at 3 rfl)
  obtain ⟨⟨hg0, hg1, hg2, hg3, hg4, hg5, hg6, hg7⟩, hSp, hSh, hSs, hSb, hSt, hSw⟩ := id hS
  show V x cX11_row RX11 7 (rmU 2 43 0 0) [] 0 [(0, ar mo), (1, ai player), (2, ai k), (3, ai n)] [] 0 0
  refine v_aload_n (pc := 0) 0 rfl dX11_row_0 ?_
  refine v_iload_n (pc := 1) 1 rfl dX11_row_1 ?_
  refine v_callV (pc := 2) [] [] [] (As := [ai player]) (rest := []) (c_X11_find_y mo kw pi ta ms pt po hi nw pls ins tap e3 e4 e5 e6 e7 e8 bar pv q1 f player (by assumption) (by first | omega | assumption) (by first | omega | assumption)) (c := 11) rfl (Or.inl r0) wl_X11_99 wi_X11_find wv_X11_X11_find_X11_find wk_X11_find wz_X11 md_X11_find rfl (Nat.le_of_ble_eq_true rfl) ⟨Nat.le_of_ble_eq_true rfl, Nat.le_of_ble_eq_true rfl, Nat.le_of_ble_eq_true rfl, Nat.le_of_ble_eq_true rfl⟩ rfl rfl rfl rfl (by decide) (ro_cons (Or.inl r0) (ro_cons (Or.inl r1) (ro_cons (Or.inl r2) ro_nil))) dX11_row_2 (fun u hu => ?_)
  show V x cX11_row RX11 7 (rmU 2 43 0 0) [] 5 [(0, ar mo), (1, ai player), (2, ai k), (3, ai n)] [ar q1] 0 0
  refine v_astore (pc := 5) (L2 := [(4, ar q1), (0, ar mo), (1, ai player), (2, ai k), (3, ai n)]) rfl (by decide) dX11_row_5 ?_
  refine v_aload (pc := 7) 0 rfl dX11_row_7 ?_
  refine v_ifnull_r (pc := 9) dX11_row_9 ?_
  refine v_iload_n (pc := 12) 3 rfl dX11_row_12 ?_
  refine v_iconst (pc := 13) dX11_row_13 ?_
  refine v_iconst (pc := 14) dX11_row_14 ?_
  refine v_callS (pc := 15) [] [] [] (As := [ai k, ai 0, ai 3]) (rest := []) (c_X11_isOut k 0 3 (by first | omega | assumption) (by first | omega | assumption) (by first | omega | assumption)) wl_X11_41 ws_X11_isOut wk_X11_isOut wz_X11 md_X11_isOut rfl (Nat.le_of_ble_eq_true rfl) ⟨Nat.le_of_ble_eq_true rfl, Nat.le_of_ble_eq_true rfl, Nat.le_of_ble_eq_true rfl, Nat.le_of_ble_eq_true rfl⟩ rfl rfl rfl rfl (by decide) ro_nil dX11_row_15 (fun u hu => ?_)
  show V x cX11_row RX11 7 (rmU 2 43 0 0) [] 18 [(4, ar q1), (0, ar mo), (1, ai player), (2, ai k), (3, ai n)] [ai (if k < 0 ∨ 3 < k then 1 else 0)] 0 0
  refine v_ifb_eq (pc := 18) 23 dX11_row_18 (by decide) (fun c_1 => ?_) (fun c_1 => ?_)
  · skip
    refine v_iload_n (pc := 23) 4 rfl dX11_row_23 ?_
    refine v_iconst (pc := 24) dX11_row_24 ?_
    refine v_bipush (pc := 25) dX11_row_25 (by decide) ?_
    refine v_callS (pc := 27) [] [] [] (As := [ai n, ai 0, ai 9]) (rest := []) (c_X11_isOut n 0 9 (by first | omega | assumption) (by first | omega | assumption) (by first | omega | assumption)) wl_X11_41 ws_X11_isOut wk_X11_isOut wz_X11 md_X11_isOut rfl (Nat.le_of_ble_eq_true rfl) ⟨Nat.le_of_ble_eq_true rfl, Nat.le_of_ble_eq_true rfl, Nat.le_of_ble_eq_true rfl, Nat.le_of_ble_eq_true rfl⟩ rfl rfl rfl rfl (by decide) ro_nil dX11_row_27 (fun u hu => ?_)
    show V x cX11_row RX11 7 (rmU 2 43 0 0) [] 30 [(4, ar q1), (0, ar mo), (1, ai player), (2, ai k), (3, ai n)] [ai (if n < 0 ∨ 9 < n then 1 else 0)] 0 0
    refine v_ifb_eq (pc := 30) 36 dX11_row_30 (by decide) (fun c_2 => ?_) (fun c_2 => ?_)
    · skip
      refine v_aload (pc := 36) 0 rfl dX11_row_36 ?_
      refine v_instN (pc := 38) (c := 5) rfl (Or.inl r3) wc_X11_116 (List.mem_of_getElem? (i := 32) rfl) dX11_row_38 ?_
      refine v_if_eq (pc := 41) 71 dX11_row_41 (by decide) (by unfold iB; omega) (fun c_3 => ?_) (fun c_3 => by exfalso; omega)
      refine v_bipush (pc := 71) dX11_row_71 (by decide) ?_
      exact hret () _ _ _ _ _ _ trivial (congrArg (fun z => some (ai z)) (by unfold qRow; (repeat' split) <;> first | rfl | (exfalso; omega) | omega)) rfl (Nat.le_of_ble_eq_true rfl) (Nat.le_of_ble_eq_true rfl) dX11_row_73
    · skip
      refine v_bipush (pc := 33) dX11_row_33 (by decide) ?_
      exact hret () _ _ _ _ _ _ trivial (congrArg (fun z => some (ai z)) (by unfold qRow; (repeat' split) <;> first | rfl | (exfalso; omega) | omega)) rfl (Nat.le_of_ble_eq_true rfl) (Nat.le_of_ble_eq_true rfl) dX11_row_35
  · skip
    refine v_iconst (pc := 21) dX11_row_21 ?_
    exact hret () _ _ _ _ _ _ trivial (congrArg (fun z => some (ai z)) (by unfold qRow; (repeat' split) <;> first | rfl | (exfalso; omega) | omega)) rfl (Nat.le_of_ble_eq_true rfl) (Nat.le_of_ble_eq_true rfl) dX11_row_22
set_option maxHeartbeats 4000000 in
set_option maxRecDepth 100000 in
theorem c_X11_row_k8 {gS : sG} (mo : Nat) (kw : Nat) (pi : Nat) (ta : Nat) (ms : Nat) (pt : Nat) (po : Nat) (hi : Int) (nw : Nat) (pls : Nat) (ins : Nat) (tap : Nat) (e3 : Nat) (e4 : Nat) (e5 : Nat) (e6 : Nat) (e7 : Nat) (e8 : Nat) (bar : Nat) (pv : Int → Option Nat) (q1 : Nat) (t1 : Nat) (f : Int → Int) (player : Int) (k : Int) (n : Int) (hS : SOK f) (hpv : pv player = some q1) (hp : 0 ≤ player ∧ player ≤ f 0 - 1) (hk : f (7 + player) = 1) (hb_player : -2147483648 ≤ player ∧ player < 2147483648) (hb_k : -2147483648 ≤ k ∧ k < 2147483648) (hb_n : -2147483648 ≤ n ∧ n < 2147483648) : Ct gS (S := Unit) yX11_row cX11_row 7 (some .int) 2 43 0 0 [ar mo, ai player, ai k, ai n] [] (fun q => q ∈ ([(mo, co 11 [ar nw, ar kw, ar pi, ar ta, ar ms, ar pt, ar po, ai hi]), (nw, co 10 [ar pls, ar ins, ar tap, ar e3, ar e4, ar e5, ar e6, ar e7, ar e8, ai (f 0), ai (f 1), ai (f 4), ai (f 2), ai (f 3), ai (f 6), ar bar]), (pls, cq 3 6 pv), (q1, co 8 [ar ta, ai (f (7 + player)), ai player, ai (f (13 + player)), ai (f (19 + player)), ai (f (25 + player)), ai (f (31 + player)), ai (f (37 + player)), ai (f (43 + player))])] : aW)) (fun _ => True) (fun _ => some (ai ((qRow f player k n).1))) (fun _ => []) := by
  refine ct_I RX11 [(0, ar mo), (1, ai player), (2, ai k), (3, ai n)] (by decide) rfl (Nat.le_of_ble_eq_true rfl) rfl (fun x hgS hro hret => ?_)
  subst hgS
  have r0 := hro _ (mem_at 0 rfl)
  have r1 := hro _ (mem_at 1 rfl)
  have r2 := hro _ (mem_at 2 rfl)
  have r3 := hro _ (mem_at 3 rfl)
  obtain ⟨⟨hg0, hg1, hg2, hg3, hg4, hg5, hg6, hg7⟩, hSp, hSh, hSs, hSb, hSt, hSw⟩ := id hS
  show V x cX11_row RX11 7 (rmU 2 43 0 0) [] 0 [(0, ar mo), (1, ai player), (2, ai k), (3, ai n)] [] 0 0
  refine v_aload_n (pc := 0) 0 rfl dX11_row_0 ?_
  refine v_iload_n (pc := 1) 1 rfl dX11_row_1 ?_
  refine v_callV (pc := 2) [] [] [] (As := [ai player]) (rest := []) (c_X11_find_y mo kw pi ta ms pt po hi nw pls ins tap e3 e4 e5 e6 e7 e8 bar pv q1 f player (by assumption) (by first | omega | assumption) (by first | omega | assumption)) (c := 11) rfl (Or.inl r0) wl_X11_99 wi_X11_find wv_X11_X11_find_X11_find wk_X11_find wz_X11 md_X11_find rfl (Nat.le_of_ble_eq_true rfl) ⟨Nat.le_of_ble_eq_true rfl, Nat.le_of_ble_eq_true rfl, Nat.le_of_ble_eq_true rfl, Nat.le_of_ble_eq_true rfl⟩ rfl rfl rfl rfl (by decide) (ro_cons (Or.inl r0) (ro_cons (Or.inl r1) (ro_cons (Or.inl r2) ro_nil))) dX11_row_2 (fun u hu => ?_)
  show V x cX11_row RX11 7 (rmU 2 43 0 0) [] 5 [(0, ar mo), (1, ai player), (2, ai k), (3, ai n)] [ar q1] 0 0
  refine v_astore (pc := 5) (L2 := [(4, ar q1), (0, ar mo), (1, ai player), (2, ai k), (3, ai n)]) rfl (by decide) dX11_row_5 ?_
  refine v_aload (pc := 7) 0 rfl dX11_row_7 ?_
  refine v_ifnull_r (pc := 9) dX11_row_9 ?_
  refine v_iload_n (pc := 12) 3 rfl dX11_row_12 ?_
  refine v_iconst (pc := 13) dX11_row_13 ?_
  refine v_iconst (pc := 14) dX11_row_14 ?_
  refine v_callS (pc := 15) [] [] [] (As := [ai k, ai 0, ai 3]) (rest := []) (c_X11_isOut k 0 3 (by first | omega | assumption) (by first | omega | assumption) (by first | omega | assumption)) wl_X11_41 ws_X11_isOut wk_X11_isOut wz_X11 md_X11_isOut rfl (Nat.le_of_ble_eq_true rfl) ⟨Nat.le_of_ble_eq_true rfl, Nat.le_of_ble_eq_true rfl, Nat.le_of_ble_eq_true rfl, Nat.le_of_ble_eq_true rfl⟩ rfl rfl rfl rfl (by decide) ro_nil dX11_row_15 (fun u hu => ?_)
  show V x cX11_row RX11 7 (rmU 2 43 0 0) [] 18 [(4, ar q1), (0, ar mo), (1, ai player), (2, ai k), (3, ai n)] [ai (if k < 0 ∨ 3 < k then 1 else 0)] 0 0
  refine v_ifb_eq (pc := 18) 23 dX11_row_18 (by decide) (fun c_1 => ?_) (fun c_1 => ?_)
  · skip
    refine v_iload_n (pc := 23) 4 rfl dX11_row_23 ?_
    refine v_iconst (pc := 24) dX11_row_24 ?_
    refine v_bipush (pc := 25) dX11_row_25 (by decide) ?_
    refine v_callS (pc := 27) [] [] [] (As := [ai n, ai 0, ai 9]) (rest := []) (c_X11_isOut n 0 9 (by first | omega | assumption) (by first | omega | assumption) (by first | omega | assumption)) wl_X11_41 ws_X11_isOut wk_X11_isOut wz_X11 md_X11_isOut rfl (Nat.le_of_ble_eq_true rfl) ⟨Nat.le_of_ble_eq_true rfl, Nat.le_of_ble_eq_true rfl, Nat.le_of_ble_eq_true rfl, Nat.le_of_ble_eq_true rfl⟩ rfl rfl rfl rfl (by decide) ro_nil dX11_row_27 (fun u hu => ?_)
    show V x cX11_row RX11 7 (rmU 2 43 0 0) [] 30 [(4, ar q1), (0, ar mo), (1, ai player), (2, ai k), (3, ai n)] [ai (if n < 0 ∨ 9 < n then 1 else 0)] 0 0
    refine v_ifb_eq (pc := 30) 36 dX11_row_30 (by decide) (fun c_2 => ?_) (fun c_2 => ?_)
    · skip
      refine v_aload (pc := 36) 0 rfl dX11_row_36 ?_
      refine v_instN (pc := 38) (c := 8) rfl (Or.inl r3) wc_X11_116 (List.mem_of_getElem? (i := 27) rfl) dX11_row_38 ?_
      refine v_if_eq (pc := 41) 71 dX11_row_41 (by decide) (by unfold iB; omega) (fun c_3 => ?_) (fun c_3 => by exfalso; omega)
      refine v_bipush (pc := 71) dX11_row_71 (by decide) ?_
      exact hret () _ _ _ _ _ _ trivial (congrArg (fun z => some (ai z)) (by unfold qRow; (repeat' split) <;> first | rfl | (exfalso; omega) | omega)) rfl (Nat.le_of_ble_eq_true rfl) (Nat.le_of_ble_eq_true rfl) dX11_row_73
    · skip
      refine v_bipush (pc := 33) dX11_row_33 (by decide) ?_
      exact hret () _ _ _ _ _ _ trivial (congrArg (fun z => some (ai z)) (by unfold qRow; (repeat' split) <;> first | rfl | (exfalso; omega) | omega)) rfl (Nat.le_of_ble_eq_true rfl) (Nat.le_of_ble_eq_true rfl) dX11_row_35
  · skip
    refine v_iconst (pc := 21) dX11_row_21 ?_
    exact hret () _ _ _ _ _ _ trivial (congrArg (fun z => some (ai z)) (by unfold qRow; (repeat' split) <;> first | rfl | (exfalso; omega) | omega)) rfl (Nat.le_of_ble_eq_true rfl) (Nat.le_of_ble_eq_true rfl) dX11_row_22
set_option maxHeartbeats 4000000 in
set_option maxRecDepth 100000 in
theorem c_X11_row_k0 {gS : sG} (mo : Nat) (kw : Nat) (pi : Nat) (ta : Nat) (ms : Nat) (pt : Nat) (po : Nat) (hi : Int) (nw : Nat) (pls : Nat) (ins : Nat) (tap : Nat) (e3 : Nat) (e4 : Nat) (e5 : Nat) (e6 : Nat) (e7 : Nat) (e8 : Nat) (bar : Nat) (pv : Int → Option Nat) (q1 : Nat) (t1 : Nat) (f : Int → Int) (player : Int) (k : Int) (n : Int) (hS : SOK f) (hpv : pv player = some q1) (hp : 0 ≤ player ∧ player ≤ f 0 - 1) (hk : f (7 + player) = 2) (hb_player : -2147483648 ≤ player ∧ player < 2147483648) (hb_k : -2147483648 ≤ k ∧ k < 2147483648) (hb_n : -2147483648 ≤ n ∧ n < 2147483648) : Ct gS (S := Unit) yX11_row cX11_row 7 (some .int) 2 43 0 0 [ar mo, ai player, ai k, ai n] [] (fun q => q ∈ ([(mo, co 11 [ar nw, ar kw, ar pi, ar ta, ar ms, ar pt, ar po, ai hi]), (nw, co 10 [ar pls, ar ins, ar tap, ar e3, ar e4, ar e5, ar e6, ar e7, ar e8, ai (f 0), ai (f 1), ai (f 4), ai (f 2), ai (f 3), ai (f 6), ar bar]), (pls, cq 3 6 pv), (q1, co 0 [ar ta, ai (f (7 + player)), ai player, ai (f (13 + player)), ai (f (19 + player)), ai (f (25 + player)), ai (f (31 + player)), ai (f (37 + player)), ai (f (43 + player))])] : aW)) (fun _ => True) (fun _ => some (ai ((qRow f player k n).1))) (fun _ => []) := by
  refine ct_I RX11 [(0, ar mo), (1, ai player), (2, ai k), (3, ai n)] (by decide) rfl (Nat.le_of_ble_eq_true rfl) rfl (fun x hgS hro hret => ?_)
  subst hgS
  have r0 := hro _ (mem_at 0 rfl)
  have r1 := hro _ (mem_at 1 rfl)
  have r2 := hro _ (mem_at 2 rfl)
  have r3 := hro _ (mem_at 3 rfl)
  obtain ⟨⟨hg0, hg1, hg2, hg3, hg4, hg5, hg6, hg7⟩, hSp, hSh, hSs, hSb, hSt, hSw⟩ := id hS
  show V x cX11_row RX11 7 (rmU 2 43 0 0) [] 0 [(0, ar mo), (1, ai player), (2, ai k), (3, ai n)] [] 0 0
  refine v_aload_n (pc := 0) 0 rfl dX11_row_0 ?_
  refine v_iload_n (pc := 1) 1 rfl dX11_row_1 ?_
  refine v_callV (pc := 2) [] [] [] (As := [ai player]) (rest := []) (c_X11_find_y mo kw pi ta ms pt po hi nw pls ins tap e3 e4 e5 e6 e7 e8 bar pv q1 f player (by assumption) (by first | omega | assumption) (by first | omega | assumption)) (c := 11) rfl (Or.inl r0) wl_X11_99 wi_X11_find wv_X11_X11_find_X11_find wk_X11_find wz_X11 md_X11_find rfl (Nat.le_of_ble_eq_true rfl) ⟨Nat.le_of_ble_eq_true rfl, Nat.le_of_ble_eq_true rfl, Nat.le_of_ble_eq_true rfl, Nat.le_of_ble_eq_true rfl⟩ rfl rfl rfl rfl (by decide) (ro_cons (Or.inl r0) (ro_cons (Or.inl r1) (ro_cons (Or.inl r2) ro_nil))) dX11_row_2 (fun u hu => ?_)
  show V x cX11_row RX11 7 (rmU 2 43 0 0) [] 5 [(0, ar mo), (1, ai player), (2, ai k), (3, ai n)] [ar q1] 0 0
  refine v_astore (pc := 5) (L2 := [(4, ar q1), (0, ar mo), (1, ai player), (2, ai k), (3, ai n)]) rfl (by decide) dX11_row_5 ?_
  refine v_aload (pc := 7) 0 rfl dX11_row_7 ?_
  refine v_ifnull_r (pc := 9) dX11_row_9 ?_
  refine v_iload_n (pc := 12) 3 rfl dX11_row_12 ?_
  refine v_iconst (pc := 13) dX11_row_13 ?_
  refine v_iconst (pc := 14) dX11_row_14 ?_
  refine v_callS (pc := 15) [] [] [] (As := [ai k, ai 0, ai 3]) (rest := []) (c_X11_isOut k 0 3 (by first | omega | assumption) (by first | omega | assumption) (by first | omega | assumption)) wl_X11_41 ws_X11_isOut wk_X11_isOut wz_X11 md_X11_isOut rfl (Nat.le_of_ble_eq_true rfl) ⟨Nat.le_of_ble_eq_true rfl, Nat.le_of_ble_eq_true rfl, Nat.le_of_ble_eq_true rfl, Nat.le_of_ble_eq_true rfl⟩ rfl rfl rfl rfl (by decide) ro_nil dX11_row_15 (fun u hu => ?_)
  show V x cX11_row RX11 7 (rmU 2 43 0 0) [] 18 [(4, ar q1), (0, ar mo), (1, ai player), (2, ai k), (3, ai n)] [ai (if k < 0 ∨ 3 < k then 1 else 0)] 0 0
  refine v_ifb_eq (pc := 18) 23 dX11_row_18 (by decide) (fun c_1 => ?_) (fun c_1 => ?_)
  · skip
    refine v_iload_n (pc := 23) 4 rfl dX11_row_23 ?_
    refine v_iconst (pc := 24) dX11_row_24 ?_
    refine v_bipush (pc := 25) dX11_row_25 (by decide) ?_
    refine v_callS (pc := 27) [] [] [] (As := [ai n, ai 0, ai 9]) (rest := []) (c_X11_isOut n 0 9 (by first | omega | assumption) (by first | omega | assumption) (by first | omega | assumption)) wl_X11_41 ws_X11_isOut wk_X11_isOut wz_X11 md_X11_isOut rfl (Nat.le_of_ble_eq_true rfl) ⟨Nat.le_of_ble_eq_true rfl, Nat.le_of_ble_eq_true rfl, Nat.le_of_ble_eq_true rfl, Nat.le_of_ble_eq_true rfl⟩ rfl rfl rfl rfl (by decide) ro_nil dX11_row_27 (fun u hu => ?_)
    show V x cX11_row RX11 7 (rmU 2 43 0 0) [] 30 [(4, ar q1), (0, ar mo), (1, ai player), (2, ai k), (3, ai n)] [ai (if n < 0 ∨ 9 < n then 1 else 0)] 0 0
    refine v_ifb_eq (pc := 30) 36 dX11_row_30 (by decide) (fun c_2 => ?_) (fun c_2 => ?_)
    · skip
      refine v_aload (pc := 36) 0 rfl dX11_row_36 ?_
      refine v_instN (pc := 38) (c := 0) rfl (Or.inl r3) wc_X11_116 (List.mem_of_getElem? (i := 28) rfl) dX11_row_38 ?_
      refine v_if_eq (pc := 41) 71 dX11_row_41 (by decide) (by unfold iB; omega) (fun c_3 => ?_) (fun c_3 => by exfalso; omega)
      refine v_bipush (pc := 71) dX11_row_71 (by decide) ?_
      exact hret () _ _ _ _ _ _ trivial (congrArg (fun z => some (ai z)) (by unfold qRow; (repeat' split) <;> first | rfl | (exfalso; omega) | omega)) rfl (Nat.le_of_ble_eq_true rfl) (Nat.le_of_ble_eq_true rfl) dX11_row_73
    · skip
      refine v_bipush (pc := 33) dX11_row_33 (by decide) ?_
      exact hret () _ _ _ _ _ _ trivial (congrArg (fun z => some (ai z)) (by unfold qRow; (repeat' split) <;> first | rfl | (exfalso; omega) | omega)) rfl (Nat.le_of_ble_eq_true rfl) (Nat.le_of_ble_eq_true rfl) dX11_row_35
  · skip
    refine v_iconst (pc := 21) dX11_row_21 ?_
    exact hret () _ _ _ _ _ _ trivial (congrArg (fun z => some (ai z)) (by unfold qRow; (repeat' split) <;> first | rfl | (exfalso; omega) | omega)) rfl (Nat.le_of_ble_eq_true rfl) (Nat.le_of_ble_eq_true rfl) dX11_row_22
set_option maxHeartbeats 4000000 in
set_option maxRecDepth 100000 in
theorem c_X11_row_k7 {gS : sG} (mo : Nat) (kw : Nat) (pi : Nat) (ta : Nat) (ms : Nat) (pt : Nat) (po : Nat) (hi : Int) (nw : Nat) (pls : Nat) (ins : Nat) (tap : Nat) (e3 : Nat) (e4 : Nat) (e5 : Nat) (e6 : Nat) (e7 : Nat) (e8 : Nat) (bar : Nat) (pv : Int → Option Nat) (q1 : Nat) (t1 : Nat) (f : Int → Int) (player : Int) (k : Int) (n : Int) (hS : SOK f) (hpv : pv player = some q1) (hp : 0 ≤ player ∧ player ≤ f 0 - 1) (hk : f (7 + player) = 3) (hb_player : -2147483648 ≤ player ∧ player < 2147483648) (hb_k : -2147483648 ≤ k ∧ k < 2147483648) (hb_n : -2147483648 ≤ n ∧ n < 2147483648) : Ct gS (S := Unit) yX11_row cX11_row 7 (some .int) 2 43 0 0 [ar mo, ai player, ai k, ai n] [] (fun q => q ∈ ([(mo, co 11 [ar nw, ar kw, ar pi, ar ta, ar ms, ar pt, ar po, ai hi]), (nw, co 10 [ar pls, ar ins, ar tap, ar e3, ar e4, ar e5, ar e6, ar e7, ar e8, ai (f 0), ai (f 1), ai (f 4), ai (f 2), ai (f 3), ai (f 6), ar bar]), (pls, cq 3 6 pv), (q1, co 7 [ar ta, ai (f (7 + player)), ai player, ai (f (13 + player)), ai (f (19 + player)), ai (f (25 + player)), ai (f (31 + player)), ai (f (37 + player)), ai (f (43 + player))])] : aW)) (fun _ => True) (fun _ => some (ai ((qRow f player k n).1))) (fun _ => []) := by
  refine ct_I RX11 [(0, ar mo), (1, ai player), (2, ai k), (3, ai n)] (by decide) rfl (Nat.le_of_ble_eq_true rfl) rfl (fun x hgS hro hret => ?_)
  subst hgS
  have r0 := hro _ (mem_at 0 rfl)
  have r1 := hro _ (mem_at 1 rfl)
  have r2 := hro _ (mem_at 2 rfl)
  have r3 := hro _ (mem_at 3 rfl)
  obtain ⟨⟨hg0, hg1, hg2, hg3, hg4, hg5, hg6, hg7⟩, hSp, hSh, hSs, hSb, hSt, hSw⟩ := id hS
  show V x cX11_row RX11 7 (rmU 2 43 0 0) [] 0 [(0, ar mo), (1, ai player), (2, ai k), (3, ai n)] [] 0 0
  refine v_aload_n (pc := 0) 0 rfl dX11_row_0 ?_
  refine v_iload_n (pc := 1) 1 rfl dX11_row_1 ?_
  refine v_callV (pc := 2) [] [] [] (As := [ai player]) (rest := []) (c_X11_find_y mo kw pi ta ms pt po hi nw pls ins tap e3 e4 e5 e6 e7 e8 bar pv q1 f player (by assumption) (by first | omega | assumption) (by first | omega | assumption)) (c := 11) rfl (Or.inl r0) wl_X11_99 wi_X11_find wv_X11_X11_find_X11_find wk_X11_find wz_X11 md_X11_find rfl (Nat.le_of_ble_eq_true rfl) ⟨Nat.le_of_ble_eq_true rfl, Nat.le_of_ble_eq_true rfl, Nat.le_of_ble_eq_true rfl, Nat.le_of_ble_eq_true rfl⟩ rfl rfl rfl rfl (by decide) (ro_cons (Or.inl r0) (ro_cons (Or.inl r1) (ro_cons (Or.inl r2) ro_nil))) dX11_row_2 (fun u hu => ?_)
  show V x cX11_row RX11 7 (rmU 2 43 0 0) [] 5 [(0, ar mo), (1, ai player), (2, ai k), (3, ai n)] [ar q1] 0 0
  refine v_astore (pc := 5) (L2 := [(4, ar q1), (0, ar mo), (1, ai player), (2, ai k), (3, ai n)]) rfl (by decide) dX11_row_5 ?_
  refine v_aload (pc := 7) 0 rfl dX11_row_7 ?_
  refine v_ifnull_r (pc := 9) dX11_row_9 ?_
  refine v_iload_n (pc := 12) 3 rfl dX11_row_12 ?_
  refine v_iconst (pc := 13) dX11_row_13 ?_
  refine v_iconst (pc := 14) dX11_row_14 ?_
  refine v_callS (pc := 15) [] [] [] (As := [ai k, ai 0, ai 3]) (rest := []) (c_X11_isOut k 0 3 (by first | omega | assumption) (by first | omega | assumption) (by first | omega | assumption)) wl_X11_41 ws_X11_isOut wk_X11_isOut wz_X11 md_X11_isOut rfl (Nat.le_of_ble_eq_true rfl) ⟨Nat.le_of_ble_eq_true rfl, Nat.le_of_ble_eq_true rfl, Nat.le_of_ble_eq_true rfl, Nat.le_of_ble_eq_true rfl⟩ rfl rfl rfl rfl (by decide) ro_nil dX11_row_15 (fun u hu => ?_)
  show V x cX11_row RX11 7 (rmU 2 43 0 0) [] 18 [(4, ar q1), (0, ar mo), (1, ai player), (2, ai k), (3, ai n)] [ai (if k < 0 ∨ 3 < k then 1 else 0)] 0 0
  refine v_ifb_eq (pc := 18) 23 dX11_row_18 (by decide) (fun c_1 => ?_) (fun c_1 => ?_)
  · skip
    refine v_iload_n (pc := 23) 4 rfl dX11_row_23 ?_
    refine v_iconst (pc := 24) dX11_row_24 ?_
    refine v_bipush (pc := 25) dX11_row_25 (by decide) ?_
    refine v_callS (pc := 27) [] [] [] (As := [ai n, ai 0, ai 9]) (rest := []) (c_X11_isOut n 0 9 (by first | omega | assumption) (by first | omega | assumption) (by first | omega | assumption)) wl_X11_41 ws_X11_isOut wk_X11_isOut wz_X11 md_X11_isOut rfl (Nat.le_of_ble_eq_true rfl) ⟨Nat.le_of_ble_eq_true rfl, Nat.le_of_ble_eq_true rfl, Nat.le_of_ble_eq_true rfl, Nat.le_of_ble_eq_true rfl⟩ rfl rfl rfl rfl (by decide) ro_nil dX11_row_27 (fun u hu => ?_)
    show V x cX11_row RX11 7 (rmU 2 43 0 0) [] 30 [(4, ar q1), (0, ar mo), (1, ai player), (2, ai k), (3, ai n)] [ai (if n < 0 ∨ 9 < n then 1 else 0)] 0 0
    refine v_ifb_eq (pc := 30) 36 dX11_row_30 (by decide) (fun c_2 => ?_) (fun c_2 => ?_)
    · skip
      refine v_aload (pc := 36) 0 rfl dX11_row_36 ?_
      refine v_instN (pc := 38) (c := 7) rfl (Or.inl r3) wc_X11_116 (List.mem_of_getElem? (i := 29) rfl) dX11_row_38 ?_
      refine v_if_eq (pc := 41) 71 dX11_row_41 (by decide) (by unfold iB; omega) (fun c_3 => ?_) (fun c_3 => by exfalso; omega)
      refine v_bipush (pc := 71) dX11_row_71 (by decide) ?_
      exact hret () _ _ _ _ _ _ trivial (congrArg (fun z => some (ai z)) (by unfold qRow; (repeat' split) <;> first | rfl | (exfalso; omega) | omega)) rfl (Nat.le_of_ble_eq_true rfl) (Nat.le_of_ble_eq_true rfl) dX11_row_73
    · skip
      refine v_bipush (pc := 33) dX11_row_33 (by decide) ?_
      exact hret () _ _ _ _ _ _ trivial (congrArg (fun z => some (ai z)) (by unfold qRow; (repeat' split) <;> first | rfl | (exfalso; omega) | omega)) rfl (Nat.le_of_ble_eq_true rfl) (Nat.le_of_ble_eq_true rfl) dX11_row_35
  · skip
    refine v_iconst (pc := 21) dX11_row_21 ?_
    exact hret () _ _ _ _ _ _ trivial (congrArg (fun z => some (ai z)) (by unfold qRow; (repeat' split) <;> first | rfl | (exfalso; omega) | omega)) rfl (Nat.le_of_ble_eq_true rfl) (Nat.le_of_ble_eq_true rfl) dX11_row_22
set_option maxHeartbeats 4000000 in
set_option maxRecDepth 100000 in
theorem c_X11_row_k1 {gS : sG} (mo : Nat) (kw : Nat) (pi : Nat) (ta : Nat) (ms : Nat) (pt : Nat) (po : Nat) (hi : Int) (nw : Nat) (pls : Nat) (ins : Nat) (tap : Nat) (e3 : Nat) (e4 : Nat) (e5 : Nat) (e6 : Nat) (e7 : Nat) (e8 : Nat) (bar : Nat) (pv : Int → Option Nat) (q1 : Nat) (t1 : Nat) (f : Int → Int) (player : Int) (k : Int) (n : Int) (hS : SOK f) (hpv : pv player = some q1) (hp : 0 ≤ player ∧ player ≤ f 0 - 1) (hk : f (7 + player) = 4) (hb_player : -2147483648 ≤ player ∧ player < 2147483648) (hb_k : -2147483648 ≤ k ∧ k < 2147483648) (hb_n : -2147483648 ≤ n ∧ n < 2147483648) : Ct gS (S := Unit) yX11_row cX11_row 7 (some .int) 2 43 0 0 [ar mo, ai player, ai k, ai n] [] (fun q => q ∈ ([(mo, co 11 [ar nw, ar kw, ar pi, ar ta, ar ms, ar pt, ar po, ai hi]), (nw, co 10 [ar pls, ar ins, ar tap, ar e3, ar e4, ar e5, ar e6, ar e7, ar e8, ai (f 0), ai (f 1), ai (f 4), ai (f 2), ai (f 3), ai (f 6), ar bar]), (pls, cq 3 6 pv), (q1, co 1 [ar ta, ai (f (7 + player)), ai player, ai (f (13 + player)), ai (f (19 + player)), ai (f (25 + player)), ai (f (31 + player)), ai (f (37 + player)), ai (f (43 + player))])] : aW)) (fun _ => True) (fun _ => some (ai ((qRow f player k n).1))) (fun _ => []) := by
  refine ct_I RX11 [(0, ar mo), (1, ai player), (2, ai k), (3, ai n)] (by decide) rfl (Nat.le_of_ble_eq_true rfl) rfl (fun x hgS hro hret => ?_)
  subst hgS
  have r0 := hro _ (mem_at 0 rfl)
  have r1 := hro _ (mem_at 1 rfl)
  have r2 := hro _ (mem_at 2 rfl)
  have r3 := hro _ (mem_at 3 rfl)
  obtain ⟨⟨hg0, hg1, hg2, hg3, hg4, hg5, hg6, hg7⟩, hSp, hSh, hSs, hSb, hSt, hSw⟩ := id hS
  show V x cX11_row RX11 7 (rmU 2 43 0 0) [] 0 [(0, ar mo), (1, ai player), (2, ai k), (3, ai n)] [] 0 0
  refine v_aload_n (pc := 0) 0 rfl dX11_row_0 ?_
  refine v_iload_n (pc := 1) 1 rfl dX11_row_1 ?_
  refine v_callV (pc := 2) [] [] [] (As := [ai player]) (rest := []) (c_X11_find_y mo kw pi ta ms pt po hi nw pls ins tap e3 e4 e5 e6 e7 e8 bar pv q1 f player (by assumption) (by first | omega | assumption) (by first | omega | assumption)) (c := 11) rfl (Or.inl r0) wl_X11_99 wi_X11_find wv_X11_X11_find_X11_find wk_X11_find wz_X11 md_X11_find rfl (Nat.le_of_ble_eq_true rfl) ⟨Nat.le_of_ble_eq_true rfl, Nat.le_of_ble_eq_true rfl, Nat.le_of_ble_eq_true rfl, Nat.le_of_ble_eq_true rfl⟩ rfl rfl rfl rfl (by decide) (ro_cons (Or.inl r0) (ro_cons (Or.inl r1) (ro_cons (Or.inl r2) ro_nil))) dX11_row_2 (fun u hu => ?_)
  show V x cX11_row RX11 7 (rmU 2 43 0 0) [] 5 [(0, ar mo), (1, ai player), (2, ai k), (3, ai n)] [ar q1] 0 0
  refine v_astore (pc := 5) (L2 := [(4, ar q1), (0, ar mo), (1, ai player), (2, ai k), (3, ai n)]) rfl (by decide) dX11_row_5 ?_
  refine v_aload (pc := 7) 0 rfl dX11_row_7 ?_
  refine v_ifnull_r (pc := 9) dX11_row_9 ?_
  refine v_iload_n (pc := 12) 3 rfl dX11_row_12 ?_
  refine v_iconst (pc := 13) dX11_row_13 ?_
  refine v_iconst (pc := 14) dX11_row_14 ?_
  refine v_callS (pc := 15) [] [] [] (As := [ai k, ai 0, ai 3]) (rest := []) (c_X11_isOut k 0 3 (by first | omega | assumption) (by first | omega | assumption) (by first | omega | assumption)) wl_X11_41 ws_X11_isOut wk_X11_isOut wz_X11 md_X11_isOut rfl (Nat.le_of_ble_eq_true rfl) ⟨Nat.le_of_ble_eq_true rfl, Nat.le_of_ble_eq_true rfl, Nat.le_of_ble_eq_true rfl, Nat.le_of_ble_eq_true rfl⟩ rfl rfl rfl rfl (by decide) ro_nil dX11_row_15 (fun u hu => ?_)
  show V x cX11_row RX11 7 (rmU 2 43 0 0) [] 18 [(4, ar q1), (0, ar mo), (1, ai player), (2, ai k), (3, ai n)] [ai (if k < 0 ∨ 3 < k then 1 else 0)] 0 0
  refine v_ifb_eq (pc := 18) 23 dX11_row_18 (by decide) (fun c_1 => ?_) (fun c_1 => ?_)
  · skip
    refine v_iload_n (pc := 23) 4 rfl dX11_row_23 ?_
    refine v_iconst (pc := 24) dX11_row_24 ?_
    refine v_bipush (pc := 25) dX11_row_25 (by decide) ?_
    refine v_callS (pc := 27) [] [] [] (As := [ai n, ai 0, ai 9]) (rest := []) (c_X11_isOut n 0 9 (by first | omega | assumption) (by first | omega | assumption) (by first | omega | assumption)) wl_X11_41 ws_X11_isOut wk_X11_isOut wz_X11 md_X11_isOut rfl (Nat.le_of_ble_eq_true rfl) ⟨Nat.le_of_ble_eq_true rfl, Nat.le_of_ble_eq_true rfl, Nat.le_of_ble_eq_true rfl, Nat.le_of_ble_eq_true rfl⟩ rfl rfl rfl rfl (by decide) ro_nil dX11_row_27 (fun u hu => ?_)
    show V x cX11_row RX11 7 (rmU 2 43 0 0) [] 30 [(4, ar q1), (0, ar mo), (1, ai player), (2, ai k), (3, ai n)] [ai (if n < 0 ∨ 9 < n then 1 else 0)] 0 0
    refine v_ifb_eq (pc := 30) 36 dX11_row_30 (by decide) (fun c_2 => ?_) (fun c_2 => ?_)
    · skip
      refine v_aload (pc := 36) 0 rfl dX11_row_36 ?_
      refine v_instN (pc := 38) (c := 1) rfl (Or.inl r3) wc_X11_116 (List.mem_of_getElem? (i := 30) rfl) dX11_row_38 ?_
      refine v_if_eq (pc := 41) 71 dX11_row_41 (by decide) (by unfold iB; omega) (fun c_3 => ?_) (fun c_3 => by exfalso; omega)
      refine v_bipush (pc := 71) dX11_row_71 (by decide) ?_
      exact hret () _ _ _ _ _ _ trivial (congrArg (fun z => some (ai z)) (by unfold qRow; (repeat' split) <;> first | rfl | (exfalso; omega) | omega)) rfl (Nat.le_of_ble_eq_true rfl) (Nat.le_of_ble_eq_true rfl) dX11_row_73
    · skip
      refine v_bipush (pc := 33) dX11_row_33 (by decide) ?_
      exact hret () _ _ _ _ _ _ trivial (congrArg (fun z => some (ai z)) (by unfold qRow; (repeat' split) <;> first | rfl | (exfalso; omega) | omega)) rfl (Nat.le_of_ble_eq_true rfl) (Nat.le_of_ble_eq_true rfl) dX11_row_35
  · skip
    refine v_iconst (pc := 21) dX11_row_21 ?_
    exact hret () _ _ _ _ _ _ trivial (congrArg (fun z => some (ai z)) (by unfold qRow; (repeat' split) <;> first | rfl | (exfalso; omega) | omega)) rfl (Nat.le_of_ble_eq_true rfl) (Nat.le_of_ble_eq_true rfl) dX11_row_22
set_option maxHeartbeats 4000000 in
set_option maxRecDepth 100000 in
theorem c_X11_row_k2 {gS : sG} (mo : Nat) (kw : Nat) (pi : Nat) (ta : Nat) (ms : Nat) (pt : Nat) (po : Nat) (hi : Int) (nw : Nat) (pls : Nat) (ins : Nat) (tap : Nat) (e3 : Nat) (e4 : Nat) (e5 : Nat) (e6 : Nat) (e7 : Nat) (e8 : Nat) (bar : Nat) (pv : Int → Option Nat) (q1 : Nat) (t1 : Nat) (f : Int → Int) (player : Int) (k : Int) (n : Int) (hS : SOK f) (hpv : pv player = some q1) (hp : 0 ≤ player ∧ player ≤ f 0 - 1) (hk : f (7 + player) = 5) (hb_player : -2147483648 ≤ player ∧ player < 2147483648) (hb_k : -2147483648 ≤ k ∧ k < 2147483648) (hb_n : -2147483648 ≤ n ∧ n < 2147483648) : Ct gS (S := Unit) yX11_row cX11_row 7 (some .int) 2 43 0 0 [ar mo, ai player, ai k, ai n] [] (fun q => q ∈ ([(mo, co 11 [ar nw, ar kw, ar pi, ar ta, ar ms, ar pt, ar po, ai hi]), (nw, co 10 [ar pls, ar ins, ar tap, ar e3, ar e4, ar e5, ar e6, ar e7, ar e8, ai (f 0), ai (f 1), ai (f 4), ai (f 2), ai (f 3), ai (f 6), ar bar]), (pls, cq 3 6 pv), (q1, co 2 [ar ta, ai (f (7 + player)), ai player, ai (f (13 + player)), ai (f (19 + player)), ai (f (25 + player)), ai (f (31 + player)), ai (f (37 + player)), ai (f (43 + player))])] : aW)) (fun _ => True) (fun _ => some (ai ((qRow f player k n).1))) (fun _ => []) := by
  refine ct_I RX11 [(0, ar mo), (1, ai player), (2, ai k), (3, ai n)] (by decide) rfl (Nat.le_of_ble_eq_true rfl) rfl (fun x hgS hro hret => ?_)
  subst hgS
  have r0 := hro _ (mem_at 0 rfl)
  have r1 := hro _ (mem_at 1 rfl)
  have r2 := hro _ (mem_at 2 rfl)
  have r3 := hro _ (mem_at 3 rfl)
  obtain ⟨⟨hg0, hg1, hg2, hg3, hg4, hg5, hg6, hg7⟩, hSp, hSh, hSs, hSb, hSt, hSw⟩ := id hS
  show V x cX11_row RX11 7 (rmU 2 43 0 0) [] 0 [(0, ar mo), (1, ai player), (2, ai k), (3, ai n)] [] 0 0
  refine v_aload_n (pc := 0) 0 rfl dX11_row_0 ?_
  refine v_iload_n (pc := 1) 1 rfl dX11_row_1 ?_
  refine v_callV (pc := 2) [] [] [] (As := [ai player]) (rest := []) (c_X11_find_y mo kw pi ta ms pt po hi nw pls ins tap e3 e4 e5 e6 e7 e8 bar pv q1 f player (by assumption) (by first | omega | assumption) (by first | omega | assumption)) (c := 11) rfl (Or.inl r0) wl_X11_99 wi_X11_find wv_X11_X11_find_X11_find wk_X11_find wz_X11 md_X11_find rfl (Nat.le_of_ble_eq_true rfl) ⟨Nat.le_of_ble_eq_true rfl, Nat.le_of_ble_eq_true rfl, Nat.le_of_ble_eq_true rfl, Nat.le_of_ble_eq_true rfl⟩ rfl rfl rfl rfl (by decide) (ro_cons (Or.inl r0) (ro_cons (Or.inl r1) (ro_cons (Or.inl r2) ro_nil))) dX11_row_2 (fun u hu => ?_)
  show V x cX11_row RX11 7 (rmU 2 43 0 0) [] 5 [(0, ar mo), (1, ai player), (2, ai k), (3, ai n)] [ar q1] 0 0
  refine v_astore (pc := 5) (L2 := [(4, ar q1), (0, ar mo), (1, ai player), (2, ai k), (3, ai n)]) rfl (by decide) dX11_row_5 ?_
  refine v_aload (pc := 7) 0 rfl dX11_row_7 ?_
  refine v_ifnull_r (pc := 9) dX11_row_9 ?_
  refine v_iload_n (pc := 12) 3 rfl dX11_row_12 ?_
  refine v_iconst (pc := 13) dX11_row_13 ?_
  refine v_iconst (pc := 14) dX11_row_14 ?_
  refine v_callS (pc := 15) [] [] [] (As := [ai k, ai 0, ai 3]) (rest := []) (c_X11_isOut k 0 3 (by first | omega | assumption) (by first | omega | assumption) (by first | omega | assumption)) wl_X11_41 ws_X11_isOut wk_X11_isOut wz_X11 md_X11_isOut rfl (Nat.le_of_ble_eq_true rfl) ⟨Nat.le_of_ble_eq_true rfl, Nat.le_of_ble_eq_true rfl, Nat.le_of_ble_eq_true rfl, Nat.le_of_ble_eq_true rfl⟩ rfl rfl rfl rfl (by decide) ro_nil dX11_row_15 (fun u hu => ?_)
  show V x cX11_row RX11 7 (rmU 2 43 0 0) [] 18 [(4, ar q1), (0, ar mo), (1, ai player), (2, ai k), (3, ai n)] [ai (if k < 0 ∨ 3 < k then 1 else 0)] 0 0
  refine v_ifb_eq (pc := 18) 23 dX11_row_18 (by decide) (fun c_1 => ?_) (fun c_1 => ?_)
  · skip
    refine v_iload_n (pc := 23) 4 rfl dX11_row_23 ?_
    refine v_iconst (pc := 24) dX11_row_24 ?_
    refine v_bipush (pc := 25) dX11_row_25 (by decide) ?_
    refine v_callS (pc := 27) [] [] [] (As := [ai n, ai 0, ai 9]) (rest := []) (c_X11_isOut n 0 9 (by first | omega | assumption) (by first | omega | assumption) (by first | omega | assumption)) wl_X11_41 ws_X11_isOut wk_X11_isOut wz_X11 md_X11_isOut rfl (Nat.le_of_ble_eq_true rfl) ⟨Nat.le_of_ble_eq_true rfl, Nat.le_of_ble_eq_true rfl, Nat.le_of_ble_eq_true rfl, Nat.le_of_ble_eq_true rfl⟩ rfl rfl rfl rfl (by decide) ro_nil dX11_row_27 (fun u hu => ?_)
    show V x cX11_row RX11 7 (rmU 2 43 0 0) [] 30 [(4, ar q1), (0, ar mo), (1, ai player), (2, ai k), (3, ai n)] [ai (if n < 0 ∨ 9 < n then 1 else 0)] 0 0
    refine v_ifb_eq (pc := 30) 36 dX11_row_30 (by decide) (fun c_2 => ?_) (fun c_2 => ?_)
    · skip
      refine v_aload (pc := 36) 0 rfl dX11_row_36 ?_
      refine v_instN (pc := 38) (c := 2) rfl (Or.inl r3) wc_X11_116 (List.mem_of_getElem? (i := 31) rfl) dX11_row_38 ?_
      refine v_if_eq (pc := 41) 71 dX11_row_41 (by decide) (by unfold iB; omega) (fun c_3 => ?_) (fun c_3 => by exfalso; omega)
      refine v_bipush (pc := 71) dX11_row_71 (by decide) ?_
      exact hret () _ _ _ _ _ _ trivial (congrArg (fun z => some (ai z)) (by unfold qRow; (repeat' split) <;> first | rfl | (exfalso; omega) | omega)) rfl (Nat.le_of_ble_eq_true rfl) (Nat.le_of_ble_eq_true rfl) dX11_row_73
    · skip
      refine v_bipush (pc := 33) dX11_row_33 (by decide) ?_
      exact hret () _ _ _ _ _ _ trivial (congrArg (fun z => some (ai z)) (by unfold qRow; (repeat' split) <;> first | rfl | (exfalso; omega) | omega)) rfl (Nat.le_of_ble_eq_true rfl) (Nat.le_of_ble_eq_true rfl) dX11_row_35
  · skip
    refine v_iconst (pc := 21) dX11_row_21 ?_
    exact hret () _ _ _ _ _ _ trivial (congrArg (fun z => some (ai z)) (by unfold qRow; (repeat' split) <;> first | rfl | (exfalso; omega) | omega)) rfl (Nat.le_of_ble_eq_true rfl) (Nat.le_of_ble_eq_true rfl) dX11_row_22
theorem c_X11_row_o {gS : sG} (mo : Nat) (kw : Nat) (pi : Nat) (ta : Nat) (ms : Nat) (pt : Nat) (po : Nat) (hi : Int) (nw : Nat) (pls : Nat) (ins : Nat) (tap : Nat) (e3 : Nat) (e4 : Nat) (e5 : Nat) (e6 : Nat) (e7 : Nat) (e8 : Nat) (bar : Nat) (pv : Int → Option Nat) (q1 : Nat) (t1 : Nat) (f : Int → Int) (player : Int) (k : Int) (n : Int) (hS : SOK f) (hpv : pv player = some q1) (hp : 0 ≤ player ∧ player ≤ f 0 - 1) (hk6 : f (7 + player) ≠ 6) (hb_player : -2147483648 ≤ player ∧ player < 2147483648) (hb_k : -2147483648 ≤ k ∧ k < 2147483648) (hb_n : -2147483648 ≤ n ∧ n < 2147483648) : Ct gS (S := Unit) yX11_row cX11_row 7 (some .int) 2 43 0 0 [ar mo, ai player, ai k, ai n] [] (fun q => q ∈ ([(mo, co 11 [ar nw, ar kw, ar pi, ar ta, ar ms, ar pt, ar po, ai hi]), (nw, co 10 [ar pls, ar ins, ar tap, ar e3, ar e4, ar e5, ar e6, ar e7, ar e8, ai (f 0), ai (f 1), ai (f 4), ai (f 2), ai (f 3), ai (f 6), ar bar]), (pls, cq 3 6 pv), (q1, zpO ta f player t1)] : aW)) (fun _ => True) (fun _ => some (ai ((qRow f player k n).1))) (fun _ => []) := by
  have hkd := (hS.2.1 player (by omega) (by have := hS.1.1; omega)).2.1
  rcases (show f (7 + player) = 0 ∨ f (7 + player) = 1 ∨ f (7 + player) = 2 ∨ f (7 + player) = 3 ∨ f (7 + player) = 4 ∨ f (7 + player) = 5 by omega) with hk | hk | hk | hk | hk | hk
  · have e : zpO ta f player t1 = co 5 (zpL ta f player []) := zpO_k hk rfl rfl
    have H := c_X11_row_k5 (gS := gS) mo kw pi ta ms pt po hi nw pls ins tap e3 e4 e5 e6 e7 e8 bar pv q1 t1 f player k n hS hpv hp hk hb_player hb_k hb_n
    rw [e]
    exact H
  · have e : zpO ta f player t1 = co 8 (zpL ta f player []) := zpO_k hk rfl rfl
    have H := c_X11_row_k8 (gS := gS) mo kw pi ta ms pt po hi nw pls ins tap e3 e4 e5 e6 e7 e8 bar pv q1 t1 f player k n hS hpv hp hk hb_player hb_k hb_n
    rw [e]
    exact H
  · have e : zpO ta f player t1 = co 0 (zpL ta f player []) := zpO_k hk rfl rfl
    have H := c_X11_row_k0 (gS := gS) mo kw pi ta ms pt po hi nw pls ins tap e3 e4 e5 e6 e7 e8 bar pv q1 t1 f player k n hS hpv hp hk hb_player hb_k hb_n
    rw [e]
    exact H
  · have e : zpO ta f player t1 = co 7 (zpL ta f player []) := zpO_k hk rfl rfl
    have H := c_X11_row_k7 (gS := gS) mo kw pi ta ms pt po hi nw pls ins tap e3 e4 e5 e6 e7 e8 bar pv q1 t1 f player k n hS hpv hp hk hb_player hb_k hb_n
    rw [e]
    exact H
  · have e : zpO ta f player t1 = co 1 (zpL ta f player []) := zpO_k hk rfl rfl
    have H := c_X11_row_k1 (gS := gS) mo kw pi ta ms pt po hi nw pls ins tap e3 e4 e5 e6 e7 e8 bar pv q1 t1 f player k n hS hpv hp hk hb_player hb_k hb_n
    rw [e]
    exact H
  · have e : zpO ta f player t1 = co 2 (zpL ta f player []) := zpO_k hk rfl rfl
    have H := c_X11_row_k2 (gS := gS) mo kw pi ta ms pt po hi nw pls ins tap e3 e4 e5 e6 e7 e8 bar pv q1 t1 f player k n hS hpv hp hk hb_player hb_k hb_n
    rw [e]
    exact H
set_option maxHeartbeats 4000000 in
set_option maxRecDepth 100000 in
theorem c_X11_row_n {gS : sG} (mo : Nat) (kw : Nat) (pi : Nat) (ta : Nat) (ms : Nat) (pt : Nat) (po : Nat) (hi : Int) (nw : Nat) (pls : Nat) (ins : Nat) (tap : Nat) (e3 : Nat) (e4 : Nat) (e5 : Nat) (e6 : Nat) (e7 : Nat) (e8 : Nat) (bar : Nat) (pv : Int → Option Nat) (f : Int → Int) (player : Int) (k : Int) (n : Int) (hS : SOK f) (hp : ¬ (0 ≤ player ∧ player ≤ f 0 - 1)) (hb_player : -2147483648 ≤ player ∧ player < 2147483648) (hb_k : -2147483648 ≤ k ∧ k < 2147483648) (hb_n : -2147483648 ≤ n ∧ n < 2147483648) : Ct gS (S := Unit) yX11_row cX11_row 7 (some .int) 2 43 0 0 [ar mo, ai player, ai k, ai n] [] (fun q => q ∈ ([(mo, co 11 [ar nw, ar kw, ar pi, ar ta, ar ms, ar pt, ar po, ai hi]), (nw, co 10 [ar pls, ar ins, ar tap, ar e3, ar e4, ar e5, ar e6, ar e7, ar e8, ai (f 0), ai (f 1), ai (f 4), ai (f 2), ai (f 3), ai (f 6), ar bar]), (pls, cq 3 6 pv)] : aW)) (fun _ => True) (fun _ => some (ai ((qRow f player k n).1))) (fun _ => []) := by
  refine ct_I RX11 [(0, ar mo), (1, ai player), (2, ai k), (3, ai n)] (by decide) rfl (Nat.le_of_ble_eq_true rfl) rfl (fun x hgS hro hret => ?_)
  subst hgS
  have r0 := hro _ (mem_at 0 rfl)
  have r1 := hro _ (mem_at 1 rfl)
  have r2 := hro _ (mem_at 2 rfl)
  obtain ⟨⟨hg0, hg1, hg2, hg3, hg4, hg5, hg6, hg7⟩, hSp, hSh, hSs, hSb, hSt, hSw⟩ := id hS
  show V x cX11_row RX11 7 (rmU 2 43 0 0) [] 0 [(0, ar mo), (1, ai player), (2, ai k), (3, ai n)] [] 0 0
  refine v_aload_n (pc := 0) 0 rfl dX11_row_0 ?_
  refine v_iload_n (pc := 1) 1 rfl dX11_row_1 ?_
  refine v_callV (pc := 2) [] [] [] (As := [ai player]) (rest := []) (c_X11_find_n mo kw pi ta ms pt po hi nw pls ins tap e3 e4 e5 e6 e7 e8 bar pv f player (by assumption) (by first | omega | assumption) (by first | omega | assumption)) (c := 11) rfl (Or.inl r0) wl_X11_99 wi_X11_find wv_X11_X11_find_X11_find wk_X11_find wz_X11 md_X11_find rfl (Nat.le_of_ble_eq_true rfl) ⟨Nat.le_of_ble_eq_true rfl, Nat.le_of_ble_eq_true rfl, Nat.le_of_ble_eq_true rfl, Nat.le_of_ble_eq_true rfl⟩ rfl rfl rfl rfl (by decide) (ro_cons (Or.inl r0) (ro_cons (Or.inl r1) (ro_cons (Or.inl r2) ro_nil))) dX11_row_2 (fun u hu => ?_)
  show V x cX11_row RX11 7 (rmU 2 43 0 0) [] 5 [(0, ar mo), (1, ai player), (2, ai k), (3, ai n)] [an] 0 0
  refine v_astore (pc := 5) (L2 := [(4, an), (0, ar mo), (1, ai player), (2, ai k), (3, ai n)]) rfl (by decide) dX11_row_5 ?_
  refine v_aload (pc := 7) 0 rfl dX11_row_7 ?_
  refine v_ifnull_n (pc := 9) 21 dX11_row_9 (by decide) ?_
  refine v_iconst (pc := 21) dX11_row_21 ?_
  exact hret () _ _ _ _ _ _ trivial (congrArg (fun z => some (ai z)) (by unfold qRow; (repeat' split) <;> first | rfl | (exfalso; omega) | omega)) rfl (Nat.le_of_ble_eq_true rfl) (Nat.le_of_ble_eq_true rfl) dX11_row_22
set_option maxHeartbeats 4000000 in
set_option maxRecDepth 100000 in
theorem c_X11_row_t {gS : sG} (mo : Nat) (kw : Nat) (pi : Nat) (ta : Nat) (ms : Nat) (pt : Nat) (po : Nat) (hi : Int) (nw : Nat) (pls : Nat) (ins : Nat) (tap : Nat) (e3 : Nat) (e4 : Nat) (e5 : Nat) (e6 : Nat) (e7 : Nat) (e8 : Nat) (bar : Nat) (pv : Int → Option Nat) (q1 : Nat) (t1 : Nat) (f : Int → Int) (player : Int) (k : Int) (n : Int) (hS : SOK f) (hpv : pv player = some q1) (hp : 0 ≤ player ∧ player ≤ f 0 - 1) (hk : f (7 + player) = 6) (hb_player : -2147483648 ≤ player ∧ player < 2147483648) (hb_k : -2147483648 ≤ k ∧ k < 2147483648) (hb_n : -2147483648 ≤ n ∧ n < 2147483648) : Ct gS (S := Int × (Int → Int)) yX11_row cX11_row 7 (some .int) 2 43 0 0 [ar mo, ai player, ai k, ai n] [(t1, cn 0 4 (tnF f player))] (fun q => q ∈ ([(mo, co 11 [ar nw, ar kw, ar pi, ar ta, ar ms, ar pt, ar po, ai hi]), (nw, co 10 [ar pls, ar ins, ar tap, ar e3, ar e4, ar e5, ar e6, ar e7, ar e8, ai (f 0), ai (f 1), ai (f 4), ai (f 2), ai (f 3), ai (f 6), ar bar]), (pls, cq 3 6 pv), (q1, co 9 [ar ta, ai (f (7 + player)), ai player, ai (f (13 + player)), ai (f (19 + player)), ai (f (25 + player)), ai (f (31 + player)), ai (f (37 + player)), ai (f (43 + player)), ar t1])] : aW)) (fun u => (u.1, u.2) = qRow f player k n) (fun u => some (ai u.1)) (fun u => [(t1, cn 0 4 (tnF u.2 player))]) := by
  refine ct_I RX11 [(0, ar mo), (1, ai player), (2, ai k), (3, ai n)] (by decide) rfl (Nat.le_of_ble_eq_true rfl) rfl (fun x hgS hro hret => ?_)
  subst hgS
  have r0 := hro _ (mem_at 0 rfl)
  have r1 := hro _ (mem_at 1 rfl)
  have r2 := hro _ (mem_at 2 rfl)
  have r3 := hro _ (mem_at 3 rfl)
  obtain ⟨⟨hg0, hg1, hg2, hg3, hg4, hg5, hg6, hg7⟩, hSp, hSh, hSs, hSb, hSt, hSw⟩ := id hS
  show V x cX11_row RX11 7 (rmU 2 43 0 0) [(t1, cn 0 4 (tnF f player))] 0 [(0, ar mo), (1, ai player), (2, ai k), (3, ai n)] [] 0 0
  refine v_aload_n (pc := 0) 0 rfl dX11_row_0 ?_
  refine v_iload_n (pc := 1) 1 rfl dX11_row_1 ?_
  refine v_callV (pc := 2) [] [0] [(t1, cn 0 4 (tnF f player))] (As := [ai player]) (rest := []) (c_X11_find_y mo kw pi ta ms pt po hi nw pls ins tap e3 e4 e5 e6 e7 e8 bar pv q1 f player (by assumption) (by first | omega | assumption) (by first | omega | assumption)) (c := 11) rfl (Or.inl r0) wl_X11_99 wi_X11_find wv_X11_X11_find_X11_find wk_X11_find wz_X11 md_X11_find rfl (Nat.le_of_ble_eq_true rfl) ⟨Nat.le_of_ble_eq_true rfl, Nat.le_of_ble_eq_true rfl, Nat.le_of_ble_eq_true rfl, Nat.le_of_ble_eq_true rfl⟩ rfl rfl rfl rfl (by decide) (ro_cons (Or.inl r0) (ro_cons (Or.inl r1) (ro_cons (Or.inl r2) ro_nil))) dX11_row_2 (fun u hu => ?_)
  show V x cX11_row RX11 7 (rmU 2 43 0 0) [(t1, cn 0 4 (tnF f player))] 5 [(0, ar mo), (1, ai player), (2, ai k), (3, ai n)] [ar q1] 0 0
  refine v_astore (pc := 5) (L2 := [(4, ar q1), (0, ar mo), (1, ai player), (2, ai k), (3, ai n)]) rfl (by decide) dX11_row_5 ?_
  refine v_aload (pc := 7) 0 rfl dX11_row_7 ?_
  refine v_ifnull_r (pc := 9) dX11_row_9 ?_
  refine v_iload_n (pc := 12) 3 rfl dX11_row_12 ?_
  refine v_iconst (pc := 13) dX11_row_13 ?_
  refine v_iconst (pc := 14) dX11_row_14 ?_
  refine v_callS (pc := 15) [] [0] [(t1, cn 0 4 (tnF f player))] (As := [ai k, ai 0, ai 3]) (rest := []) (c_X11_isOut k 0 3 (by first | omega | assumption) (by first | omega | assumption) (by first | omega | assumption)) wl_X11_41 ws_X11_isOut wk_X11_isOut wz_X11 md_X11_isOut rfl (Nat.le_of_ble_eq_true rfl) ⟨Nat.le_of_ble_eq_true rfl, Nat.le_of_ble_eq_true rfl, Nat.le_of_ble_eq_true rfl, Nat.le_of_ble_eq_true rfl⟩ rfl rfl rfl rfl (by decide) ro_nil dX11_row_15 (fun u hu => ?_)
  show V x cX11_row RX11 7 (rmU 2 43 0 0) [(t1, cn 0 4 (tnF f player))] 18 [(4, ar q1), (0, ar mo), (1, ai player), (2, ai k), (3, ai n)] [ai (if k < 0 ∨ 3 < k then 1 else 0)] 0 0
  refine v_ifb_eq (pc := 18) 23 dX11_row_18 (by decide) (fun c_1 => ?_) (fun c_1 => ?_)
  · skip
    refine v_iload_n (pc := 23) 4 rfl dX11_row_23 ?_
    refine v_iconst (pc := 24) dX11_row_24 ?_
    refine v_bipush (pc := 25) dX11_row_25 (by decide) ?_
    refine v_callS (pc := 27) [] [0] [(t1, cn 0 4 (tnF f player))] (As := [ai n, ai 0, ai 9]) (rest := []) (c_X11_isOut n 0 9 (by first | omega | assumption) (by first | omega | assumption) (by first | omega | assumption)) wl_X11_41 ws_X11_isOut wk_X11_isOut wz_X11 md_X11_isOut rfl (Nat.le_of_ble_eq_true rfl) ⟨Nat.le_of_ble_eq_true rfl, Nat.le_of_ble_eq_true rfl, Nat.le_of_ble_eq_true rfl, Nat.le_of_ble_eq_true rfl⟩ rfl rfl rfl rfl (by decide) ro_nil dX11_row_27 (fun u hu => ?_)
    show V x cX11_row RX11 7 (rmU 2 43 0 0) [(t1, cn 0 4 (tnF f player))] 30 [(4, ar q1), (0, ar mo), (1, ai player), (2, ai k), (3, ai n)] [ai (if n < 0 ∨ 9 < n then 1 else 0)] 0 0
    refine v_ifb_eq (pc := 30) 36 dX11_row_30 (by decide) (fun c_2 => ?_) (fun c_2 => ?_)
    · skip
      refine v_aload (pc := 36) 0 rfl dX11_row_36 ?_
      refine v_instE (pc := 38) (c := 9) rfl (Or.inl r3) wc_X11_116 dX11_row_38 ?_
      refine v_if_eq (pc := 41) 71 dX11_row_41 (by decide) (by unfold iB; omega) (fun c_3 => by exfalso; omega) (fun c_3 => ?_)
      refine v_aload (pc := 44) 0 rfl dX11_row_44 ?_
      refine v_castE (pc := 46) (c := 9) rfl (Or.inl r3) wc_X11_116 dX11_row_46 ?_
      refine v_astore (pc := 49) (L2 := [(5, ar q1), (4, ar q1), (0, ar mo), (1, ai player), (2, ai k), (3, ai n)]) rfl (by decide) dX11_row_49 ?_
      refine v_aload (pc := 51) 0 rfl dX11_row_51 ?_
      refine v_get (pc := 53) (v := ar t1) 9 (Or.inl r3) fl_11_118_9 rfl dX11_row_53 ?_
      refine v_iload_n (pc := 56) 4 rfl dX11_row_56 ?_
      refine v_iald (pc := 57) (Or.inr ⟨0, rfl⟩) (by omega) (by omega) (by decide) dX11_row_57 ?_
      refine v_eqi (y := (f (49 + 4 * player + k))) (tnF_at (by omega)) ?_
      refine v_istore (pc := 58) (L2 := [(6, ai (f (49 + 4 * player + k))), (5, ar q1), (4, ar q1), (0, ar mo), (1, ai player), (2, ai k), (3, ai n)]) rfl (by decide) dX11_row_58 ?_
      refine v_aload (pc := 60) 1 rfl dX11_row_60 ?_
      refine v_get (pc := 62) (v := ar t1) 9 (Or.inl r3) fl_11_118_9 rfl dX11_row_62 ?_
      refine v_iload_n (pc := 65) 5 rfl dX11_row_65 ?_
      refine v_iload_n (pc := 66) 6 rfl dX11_row_66 ?_
      refine v_iast (pc := 67) 0 rfl (by omega) (by omega) (by decide) (ws2 := [(t1, cn 0 4 (aup (tnF f player) k n))]) rfl dX11_row_67 ?_
      refine v_ws (ws2 := [(t1, cn 0 4 (tnF (aup f (49 + 4 * player + k) n) player))]) (by rw [tnF_up (by omega)]) ?_
      refine v_iload (pc := 68) 0 rfl dX11_row_68 ?_
      exact hret ((f (49 + 4 * player + k)), aup f (49 + 4 * player + k) n) _ _ _ _ _ _ (by show (_, _) = _; unfold qRow; (repeat' split) <;> first | rfl | (exfalso; omega)) (congrArg (fun z => some (ai z)) (by rfl)) rfl (Nat.le_of_ble_eq_true rfl) (Nat.le_of_ble_eq_true rfl) dX11_row_70
    · skip
      refine v_bipush (pc := 33) dX11_row_33 (by decide) ?_
      exact hret ((-2), f) _ _ _ _ _ _ (by show (_, _) = _; unfold qRow; (repeat' split) <;> first | rfl | (exfalso; omega)) (congrArg (fun z => some (ai z)) (by rfl)) rfl (Nat.le_of_ble_eq_true rfl) (Nat.le_of_ble_eq_true rfl) dX11_row_35
  · skip
    refine v_iconst (pc := 21) dX11_row_21 ?_
    exact hret ((-1), f) _ _ _ _ _ _ (by show (_, _) = _; unfold qRow; (repeat' split) <;> first | rfl | (exfalso; omega)) (congrArg (fun z => some (ai z)) (by rfl)) rfl (Nat.le_of_ble_eq_true rfl) (Nat.le_of_ble_eq_true rfl) dX11_row_22
set_option maxHeartbeats 4000000 in
set_option maxRecDepth 100000 in
theorem c_X11_set_y {gS : sG} (mo : Nat) (kw : Nat) (pi : Nat) (ta : Nat) (ms : Nat) (pt : Nat) (po : Nat) (hi : Int) (nw : Nat) (pls : Nat) (ins : Nat) (tap : Nat) (e3 : Nat) (e4 : Nat) (e5 : Nat) (e6 : Nat) (e7 : Nat) (e8 : Nat) (bar : Nat) (pv : Int → Option Nat) (q1 : Nat) (t1 : Nat) (f : Int → Int) (player : Int) (what : Int) (n : Int) (hS : SOK f) (hpv : pv player = some q1) (hp : 0 ≤ player ∧ player ≤ f 0 - 1) (hb_player : -2147483648 ≤ player ∧ player < 2147483648) (hb_what : -2147483648 ≤ what ∧ what < 2147483648) (hb_n : -2147483648 ≤ n ∧ n < 2147483648) : Ct gS (S := Int × (Int → Int)) yX11_set cX11_set 6 (some .int) 2 43 0 0 [ar mo, ai player, ai what, ai n] [(q1, zpO ta f player t1)] (fun q => q ∈ ([(mo, co 11 [ar nw, ar kw, ar pi, ar ta, ar ms, ar pt, ar po, ai hi]), (nw, co 10 [ar pls, ar ins, ar tap, ar e3, ar e4, ar e5, ar e6, ar e7, ar e8, ai (f 0), ai (f 1), ai (f 4), ai (f 2), ai (f 3), ai (f 6), ar bar]), (pls, cq 3 6 pv)] : aW)) (fun u => (u.1, u.2) = qSet f player what n) (fun u => some (ai u.1)) (fun u => [(q1, zpO ta u.2 player t1)]) := by
  refine ct_I RX11 [(0, ar mo), (1, ai player), (2, ai what), (3, ai n)] (by decide) rfl (Nat.le_of_ble_eq_true rfl) rfl (fun x hgS hro hret => ?_)
  subst hgS
  have r0 := hro _ (mem_at 0 rfl)
  have r1 := hro _ (mem_at 1 rfl)
  have r2 := hro _ (mem_at 2 rfl)
  obtain ⟨⟨hg0, hg1, hg2, hg3, hg4, hg5, hg6, hg7⟩, hSp, hSh, hSs, hSb, hSt, hSw⟩ := id hS
  obtain ⟨hpp, hf1, hf2, hf3, hf4, hf5, hf6, hf7, hf8⟩ := hSp player (by omega) (by omega)
  show V x cX11_set RX11 6 (rmU 2 43 0 0) [(q1, zpO ta f player t1)] 0 [(0, ar mo), (1, ai player), (2, ai what), (3, ai n)] [] 0 0
  refine v_aload_n (pc := 0) 0 rfl dX11_set_0 ?_
  refine v_iload_n (pc := 1) 1 rfl dX11_set_1 ?_
  refine v_callV (pc := 2) [] [0] [(q1, zpO ta f player t1)] (As := [ai player]) (rest := []) (c_X11_find_y mo kw pi ta ms pt po hi nw pls ins tap e3 e4 e5 e6 e7 e8 bar pv q1 f player (by assumption) (by first | omega | assumption) (by first | omega | assumption)) (c := 11) rfl (Or.inl r0) wl_X11_99 wi_X11_find wv_X11_X11_find_X11_find wk_X11_find wz_X11 md_X11_find rfl (Nat.le_of_ble_eq_true rfl) ⟨Nat.le_of_ble_eq_true rfl, Nat.le_of_ble_eq_true rfl, Nat.le_of_ble_eq_true rfl, Nat.le_of_ble_eq_true rfl⟩ rfl rfl rfl rfl (by decide) (ro_cons (Or.inl r0) (ro_cons (Or.inl r1) (ro_cons (Or.inl r2) ro_nil))) dX11_set_2 (fun u hu => ?_)
  show V x cX11_set RX11 6 (rmU 2 43 0 0) [(q1, zpO ta f player t1)] 5 [(0, ar mo), (1, ai player), (2, ai what), (3, ai n)] [ar q1] 0 0
  refine v_astore (pc := 5) (L2 := [(4, ar q1), (0, ar mo), (1, ai player), (2, ai what), (3, ai n)]) rfl (by decide) dX11_set_5 ?_
  refine v_aload (pc := 7) 0 rfl dX11_set_7 ?_
  refine v_ifnull_r (pc := 9) dX11_set_9 ?_
  refine v_iload_n (pc := 12) 3 rfl dX11_set_12 ?_
  refine v_iconst (pc := 13) dX11_set_13 ?_
  refine v_iconst (pc := 14) dX11_set_14 ?_
  refine v_callS (pc := 15) [] [0] [(q1, zpO ta f player t1)] (As := [ai what, ai 0, ai 2]) (rest := []) (c_X11_isOut what 0 2 (by first | omega | assumption) (by first | omega | assumption) (by first | omega | assumption)) wl_X11_41 ws_X11_isOut wk_X11_isOut wz_X11 md_X11_isOut rfl (Nat.le_of_ble_eq_true rfl) ⟨Nat.le_of_ble_eq_true rfl, Nat.le_of_ble_eq_true rfl, Nat.le_of_ble_eq_true rfl, Nat.le_of_ble_eq_true rfl⟩ rfl rfl rfl rfl (by decide) ro_nil dX11_set_15 (fun u hu => ?_)
  show V x cX11_set RX11 6 (rmU 2 43 0 0) [(q1, zpO ta f player t1)] 18 [(4, ar q1), (0, ar mo), (1, ai player), (2, ai what), (3, ai n)] [ai (if what < 0 ∨ 2 < what then 1 else 0)] 0 0
  refine v_ifb_eq (pc := 18) 23 dX11_set_18 (by decide) (fun c_1 => ?_) (fun c_1 => ?_)
  · skip
    refine v_iload_n (pc := 23) 4 rfl dX11_set_23 ?_
    refine v_iconst (pc := 24) dX11_set_24 ?_
    refine v_iload_n (pc := 25) 3 rfl dX11_set_25 ?_
    refine v_if_ne (pc := 26) 34 dX11_set_26 (by decide) (by unfold iB; omega) (fun c_2 => ?_) (fun c_2 => ?_)
    · skip
      refine v_iload_n (pc := 34) 3 rfl dX11_set_34 ?_
      refine v_iconst (pc := 35) dX11_set_35 ?_
      refine v_icmp_ne (pc := 36) 44 dX11_set_36 (by decide) (by unfold iB; omega) (by unfold iB; omega) (fun c_3 => ?_) (fun c_3 => ?_)
      · skip
        refine v_bipush (pc := 44) dX11_set_44 (by decide) ?_
        refine v_callS (pc := 46) [] [0] [(q1, zpO ta f player t1)] (As := [ai n, ai 0, ai 99]) (rest := []) (c_X11_isOut n 0 99 (by first | omega | assumption) (by first | omega | assumption) (by first | omega | assumption)) wl_X11_41 ws_X11_isOut wk_X11_isOut wz_X11 md_X11_isOut rfl (Nat.le_of_ble_eq_true rfl) ⟨Nat.le_of_ble_eq_true rfl, Nat.le_of_ble_eq_true rfl, Nat.le_of_ble_eq_true rfl, Nat.le_of_ble_eq_true rfl⟩ rfl rfl rfl rfl (by decide) ro_nil dX11_set_46 (fun u hu => ?_)
        show V x cX11_set RX11 6 (rmU 2 43 0 0) [(q1, zpO ta f player t1)] 49 [(4, ar q1), (0, ar mo), (1, ai player), (2, ai what), (3, ai n)] [ai (if n < 0 ∨ 99 < n then 1 else 0)] 0 0
        refine v_ifb_eq (pc := 49) 55 dX11_set_49 (by decide) (fun c_4 => ?_) (fun c_4 => ?_)
        · skip
          refine v_iload_n (pc := 55) 3 rfl dX11_set_55 ?_
          refine v_if_ne (pc := 56) 75 dX11_set_56 (by decide) (by unfold iB; omega) (fun c_5 => ?_) (fun c_5 => ?_)
          · skip
            refine v_iload_n (pc := 75) 3 rfl dX11_set_75 ?_
            refine v_iconst (pc := 76) dX11_set_76 ?_
            refine v_icmp_ne (pc := 77) 96 dX11_set_77 (by decide) (by unfold iB; omega) (by unfold iB; omega) (fun c_6 => ?_) (fun c_6 => ?_)
            · skip
              refine v_aload (pc := 96) 0 rfl dX11_set_96 ?_
              refine v_get (pc := 98) (v := ai (f (37 + player))) 7 (Or.inr ⟨0, rfl⟩) (flP_11_109 (by omega)) rfl dX11_set_98 ?_
              refine v_istore (pc := 101) (L2 := [(5, ai (f (37 + player))), (4, ar q1), (0, ar mo), (1, ai player), (2, ai what), (3, ai n)]) rfl (by decide) dX11_set_101 ?_
              refine v_aload (pc := 103) 1 rfl dX11_set_103 ?_
              refine v_iload_n (pc := 105) 5 rfl dX11_set_105 ?_
              refine v_put (pc := 106) 7 0 rfl (flP_11_109 (by omega)) (ckP (by omega)) (ftP_7 (by omega)) (okV_i _) (by show 7 < _; simp only [List.length_cons]; omega) (ws2 := [(q1, co (kC (f (7 + player))) (ar ta :: ai (f (7 + player)) :: ai player :: ai (f (13 + player)) :: ai (f (19 + player)) :: ai (f (25 + player)) :: ai (f (31 + player)) :: ai n :: ai (f (43 + player)) :: zpT (f (7 + player)) t1))]) rfl dX11_set_106 ?_
              refine v_ws (ws2 := [(q1, zpO ta (aup f (37 + player) n) player t1)]) (by rw [zpU_37 (by omega)]) ?_
              refine v_iload (pc := 109) 0 rfl dX11_set_109 ?_
              exact hret ((f (37 + player)), (aup f (37 + player) n)) _ _ _ _ _ _ (by show (_, _) = _; unfold qSet sAt; (repeat' split) <;> first | rfl | (exfalso; omega)) (congrArg (fun z => some (ai z)) (by rfl)) rfl (Nat.le_of_ble_eq_true rfl) (Nat.le_of_ble_eq_true rfl) dX11_set_111
            · skip
              refine v_aload (pc := 80) 0 rfl dX11_set_80 ?_
              refine v_get (pc := 82) (v := ai (f (31 + player))) 6 (Or.inr ⟨0, rfl⟩) (flP_11_106 (by omega)) rfl dX11_set_82 ?_
              refine v_istore (pc := 85) (L2 := [(5, ai (f (31 + player))), (4, ar q1), (0, ar mo), (1, ai player), (2, ai what), (3, ai n)]) rfl (by decide) dX11_set_85 ?_
              refine v_aload (pc := 87) 1 rfl dX11_set_87 ?_
              refine v_iload_n (pc := 89) 5 rfl dX11_set_89 ?_
              refine v_put (pc := 90) 6 0 rfl (flP_11_106 (by omega)) (ckP (by omega)) (ftP_6 (by omega)) (okV_i _) (by show 6 < _; simp only [List.length_cons]; omega) (ws2 := [(q1, co (kC (f (7 + player))) (ar ta :: ai (f (7 + player)) :: ai player :: ai (f (13 + player)) :: ai (f (19 + player)) :: ai (f (25 + player)) :: ai n :: ai (f (37 + player)) :: ai (f (43 + player)) :: zpT (f (7 + player)) t1))]) rfl dX11_set_90 ?_
              refine v_ws (ws2 := [(q1, zpO ta (aup f (31 + player) n) player t1)]) (by rw [zpU_31 (by omega)]) ?_
              refine v_goto (pc := 93) 109 dX11_set_93 (by decide) ?_
              refine v_iload (pc := 109) 0 rfl dX11_set_109 ?_
              exact hret ((f (31 + player)), (aup f (31 + player) n)) _ _ _ _ _ _ (by show (_, _) = _; unfold qSet sAt; (repeat' split) <;> first | rfl | (exfalso; omega)) (congrArg (fun z => some (ai z)) (by rfl)) rfl (Nat.le_of_ble_eq_true rfl) (Nat.le_of_ble_eq_true rfl) dX11_set_111
          · skip
            refine v_aload (pc := 59) 0 rfl dX11_set_59 ?_
            refine v_get (pc := 61) (v := ai (f (19 + player))) 4 (Or.inr ⟨0, rfl⟩) (flP_11_86 (by omega)) rfl dX11_set_61 ?_
            refine v_istore (pc := 64) (L2 := [(5, ai (f (19 + player))), (4, ar q1), (0, ar mo), (1, ai player), (2, ai what), (3, ai n)]) rfl (by decide) dX11_set_64 ?_
            refine v_aload (pc := 66) 1 rfl dX11_set_66 ?_
            refine v_iload_n (pc := 68) 5 rfl dX11_set_68 ?_
            refine v_put (pc := 69) 4 0 rfl (flP_11_86 (by omega)) (ckP (by omega)) (ftP_4 (by omega)) (okV_i _) (by show 4 < _; simp only [List.length_cons]; omega) (ws2 := [(q1, co (kC (f (7 + player))) (ar ta :: ai (f (7 + player)) :: ai player :: ai (f (13 + player)) :: ai n :: ai (f (25 + player)) :: ai (f (31 + player)) :: ai (f (37 + player)) :: ai (f (43 + player)) :: zpT (f (7 + player)) t1))]) rfl dX11_set_69 ?_
            refine v_ws (ws2 := [(q1, zpO ta (aup f (19 + player) n) player t1)]) (by rw [zpU_19 (by omega)]) ?_
            refine v_goto (pc := 72) 109 dX11_set_72 (by decide) ?_
            refine v_iload (pc := 109) 0 rfl dX11_set_109 ?_
            exact hret ((f (19 + player)), (aup f (19 + player) n)) _ _ _ _ _ _ (by show (_, _) = _; unfold qSet sAt; (repeat' split) <;> first | rfl | (exfalso; omega)) (congrArg (fun z => some (ai z)) (by rfl)) rfl (Nat.le_of_ble_eq_true rfl) (Nat.le_of_ble_eq_true rfl) dX11_set_111
        · skip
          refine v_bipush (pc := 52) dX11_set_52 (by decide) ?_
          exact hret ((-2), f) _ _ _ _ _ _ (by show (_, _) = _; unfold qSet sAt; (repeat' split) <;> first | rfl | (exfalso; omega)) (congrArg (fun z => some (ai z)) (by rfl)) rfl (Nat.le_of_ble_eq_true rfl) (Nat.le_of_ble_eq_true rfl) dX11_set_54
      · skip
        refine v_bipush (pc := 39) dX11_set_39 (by decide) ?_
        refine v_goto (pc := 41) 46 dX11_set_41 (by decide) ?_
        refine v_callS (pc := 46) [] [0] [(q1, zpO ta f player t1)] (As := [ai n, ai 0, ai 9]) (rest := []) (c_X11_isOut n 0 9 (by first | omega | assumption) (by first | omega | assumption) (by first | omega | assumption)) wl_X11_41 ws_X11_isOut wk_X11_isOut wz_X11 md_X11_isOut rfl (Nat.le_of_ble_eq_true rfl) ⟨Nat.le_of_ble_eq_true rfl, Nat.le_of_ble_eq_true rfl, Nat.le_of_ble_eq_true rfl, Nat.le_of_ble_eq_true rfl⟩ rfl rfl rfl rfl (by decide) ro_nil dX11_set_46 (fun u hu => ?_)
        show V x cX11_set RX11 6 (rmU 2 43 0 0) [(q1, zpO ta f player t1)] 49 [(4, ar q1), (0, ar mo), (1, ai player), (2, ai what), (3, ai n)] [ai (if n < 0 ∨ 9 < n then 1 else 0)] 0 0
        refine v_ifb_eq (pc := 49) 55 dX11_set_49 (by decide) (fun c_7 => ?_) (fun c_7 => ?_)
        · skip
          refine v_iload_n (pc := 55) 3 rfl dX11_set_55 ?_
          refine v_if_ne (pc := 56) 75 dX11_set_56 (by decide) (by unfold iB; omega) (fun c_8 => ?_) (fun c_8 => ?_)
          · skip
            refine v_iload_n (pc := 75) 3 rfl dX11_set_75 ?_
            refine v_iconst (pc := 76) dX11_set_76 ?_
            refine v_icmp_ne (pc := 77) 96 dX11_set_77 (by decide) (by unfold iB; omega) (by unfold iB; omega) (fun c_9 => ?_) (fun c_9 => ?_)
            · skip
              refine v_aload (pc := 96) 0 rfl dX11_set_96 ?_
              refine v_get (pc := 98) (v := ai (f (37 + player))) 7 (Or.inr ⟨0, rfl⟩) (flP_11_109 (by omega)) rfl dX11_set_98 ?_
              refine v_istore (pc := 101) (L2 := [(5, ai (f (37 + player))), (4, ar q1), (0, ar mo), (1, ai player), (2, ai what), (3, ai n)]) rfl (by decide) dX11_set_101 ?_
              refine v_aload (pc := 103) 1 rfl dX11_set_103 ?_
              refine v_iload_n (pc := 105) 5 rfl dX11_set_105 ?_
              refine v_put (pc := 106) 7 0 rfl (flP_11_109 (by omega)) (ckP (by omega)) (ftP_7 (by omega)) (okV_i _) (by show 7 < _; simp only [List.length_cons]; omega) (ws2 := [(q1, co (kC (f (7 + player))) (ar ta :: ai (f (7 + player)) :: ai player :: ai (f (13 + player)) :: ai (f (19 + player)) :: ai (f (25 + player)) :: ai (f (31 + player)) :: ai n :: ai (f (43 + player)) :: zpT (f (7 + player)) t1))]) rfl dX11_set_106 ?_
              refine v_ws (ws2 := [(q1, zpO ta (aup f (37 + player) n) player t1)]) (by rw [zpU_37 (by omega)]) ?_
              refine v_iload (pc := 109) 0 rfl dX11_set_109 ?_
              exact hret ((f (37 + player)), (aup f (37 + player) n)) _ _ _ _ _ _ (by show (_, _) = _; unfold qSet sAt; (repeat' split) <;> first | rfl | (exfalso; omega)) (congrArg (fun z => some (ai z)) (by rfl)) rfl (Nat.le_of_ble_eq_true rfl) (Nat.le_of_ble_eq_true rfl) dX11_set_111
            · skip
              refine v_aload (pc := 80) 0 rfl dX11_set_80 ?_
              refine v_get (pc := 82) (v := ai (f (31 + player))) 6 (Or.inr ⟨0, rfl⟩) (flP_11_106 (by omega)) rfl dX11_set_82 ?_
              refine v_istore (pc := 85) (L2 := [(5, ai (f (31 + player))), (4, ar q1), (0, ar mo), (1, ai player), (2, ai what), (3, ai n)]) rfl (by decide) dX11_set_85 ?_
              refine v_aload (pc := 87) 1 rfl dX11_set_87 ?_
              refine v_iload_n (pc := 89) 5 rfl dX11_set_89 ?_
              refine v_put (pc := 90) 6 0 rfl (flP_11_106 (by omega)) (ckP (by omega)) (ftP_6 (by omega)) (okV_i _) (by show 6 < _; simp only [List.length_cons]; omega) (ws2 := [(q1, co (kC (f (7 + player))) (ar ta :: ai (f (7 + player)) :: ai player :: ai (f (13 + player)) :: ai (f (19 + player)) :: ai (f (25 + player)) :: ai n :: ai (f (37 + player)) :: ai (f (43 + player)) :: zpT (f (7 + player)) t1))]) rfl dX11_set_90 ?_
              refine v_ws (ws2 := [(q1, zpO ta (aup f (31 + player) n) player t1)]) (by rw [zpU_31 (by omega)]) ?_
              refine v_goto (pc := 93) 109 dX11_set_93 (by decide) ?_
              refine v_iload (pc := 109) 0 rfl dX11_set_109 ?_
              exact hret ((f (31 + player)), (aup f (31 + player) n)) _ _ _ _ _ _ (by show (_, _) = _; unfold qSet sAt; (repeat' split) <;> first | rfl | (exfalso; omega)) (congrArg (fun z => some (ai z)) (by rfl)) rfl (Nat.le_of_ble_eq_true rfl) (Nat.le_of_ble_eq_true rfl) dX11_set_111
          · skip
            refine v_aload (pc := 59) 0 rfl dX11_set_59 ?_
            refine v_get (pc := 61) (v := ai (f (19 + player))) 4 (Or.inr ⟨0, rfl⟩) (flP_11_86 (by omega)) rfl dX11_set_61 ?_
            refine v_istore (pc := 64) (L2 := [(5, ai (f (19 + player))), (4, ar q1), (0, ar mo), (1, ai player), (2, ai what), (3, ai n)]) rfl (by decide) dX11_set_64 ?_
            refine v_aload (pc := 66) 1 rfl dX11_set_66 ?_
            refine v_iload_n (pc := 68) 5 rfl dX11_set_68 ?_
            refine v_put (pc := 69) 4 0 rfl (flP_11_86 (by omega)) (ckP (by omega)) (ftP_4 (by omega)) (okV_i _) (by show 4 < _; simp only [List.length_cons]; omega) (ws2 := [(q1, co (kC (f (7 + player))) (ar ta :: ai (f (7 + player)) :: ai player :: ai (f (13 + player)) :: ai n :: ai (f (25 + player)) :: ai (f (31 + player)) :: ai (f (37 + player)) :: ai (f (43 + player)) :: zpT (f (7 + player)) t1))]) rfl dX11_set_69 ?_
            refine v_ws (ws2 := [(q1, zpO ta (aup f (19 + player) n) player t1)]) (by rw [zpU_19 (by omega)]) ?_
            refine v_goto (pc := 72) 109 dX11_set_72 (by decide) ?_
            refine v_iload (pc := 109) 0 rfl dX11_set_109 ?_
            exact hret ((f (19 + player)), (aup f (19 + player) n)) _ _ _ _ _ _ (by show (_, _) = _; unfold qSet sAt; (repeat' split) <;> first | rfl | (exfalso; omega)) (congrArg (fun z => some (ai z)) (by rfl)) rfl (Nat.le_of_ble_eq_true rfl) (Nat.le_of_ble_eq_true rfl) dX11_set_111
        · skip
          refine v_bipush (pc := 52) dX11_set_52 (by decide) ?_
          exact hret ((-2), f) _ _ _ _ _ _ (by show (_, _) = _; unfold qSet sAt; (repeat' split) <;> first | rfl | (exfalso; omega)) (congrArg (fun z => some (ai z)) (by rfl)) rfl (Nat.le_of_ble_eq_true rfl) (Nat.le_of_ble_eq_true rfl) dX11_set_54
    · skip
      refine v_bipush (pc := 29) dX11_set_29 (by decide) ?_
      refine v_goto (pc := 31) 46 dX11_set_31 (by decide) ?_
      refine v_callS (pc := 46) [] [0] [(q1, zpO ta f player t1)] (As := [ai n, ai 0, ai 20]) (rest := []) (c_X11_isOut n 0 20 (by first | omega | assumption) (by first | omega | assumption) (by first | omega | assumption)) wl_X11_41 ws_X11_isOut wk_X11_isOut wz_X11 md_X11_isOut rfl (Nat.le_of_ble_eq_true rfl) ⟨Nat.le_of_ble_eq_true rfl, Nat.le_of_ble_eq_true rfl, Nat.le_of_ble_eq_true rfl, Nat.le_of_ble_eq_true rfl⟩ rfl rfl rfl rfl (by decide) ro_nil dX11_set_46 (fun u hu => ?_)
      show V x cX11_set RX11 6 (rmU 2 43 0 0) [(q1, zpO ta f player t1)] 49 [(4, ar q1), (0, ar mo), (1, ai player), (2, ai what), (3, ai n)] [ai (if n < 0 ∨ 20 < n then 1 else 0)] 0 0
      refine v_ifb_eq (pc := 49) 55 dX11_set_49 (by decide) (fun c_10 => ?_) (fun c_10 => ?_)
      · skip
        refine v_iload_n (pc := 55) 3 rfl dX11_set_55 ?_
        refine v_if_ne (pc := 56) 75 dX11_set_56 (by decide) (by unfold iB; omega) (fun c_11 => ?_) (fun c_11 => ?_)
        · skip
          refine v_iload_n (pc := 75) 3 rfl dX11_set_75 ?_
          refine v_iconst (pc := 76) dX11_set_76 ?_
          refine v_icmp_ne (pc := 77) 96 dX11_set_77 (by decide) (by unfold iB; omega) (by unfold iB; omega) (fun c_12 => ?_) (fun c_12 => ?_)
          · skip
            refine v_aload (pc := 96) 0 rfl dX11_set_96 ?_
            refine v_get (pc := 98) (v := ai (f (37 + player))) 7 (Or.inr ⟨0, rfl⟩) (flP_11_109 (by omega)) rfl dX11_set_98 ?_
            refine v_istore (pc := 101) (L2 := [(5, ai (f (37 + player))), (4, ar q1), (0, ar mo), (1, ai player), (2, ai what), (3, ai n)]) rfl (by decide) dX11_set_101 ?_
            refine v_aload (pc := 103) 1 rfl dX11_set_103 ?_
            refine v_iload_n (pc := 105) 5 rfl dX11_set_105 ?_
            refine v_put (pc := 106) 7 0 rfl (flP_11_109 (by omega)) (ckP (by omega)) (ftP_7 (by omega)) (okV_i _) (by show 7 < _; simp only [List.length_cons]; omega) (ws2 := [(q1, co (kC (f (7 + player))) (ar ta :: ai (f (7 + player)) :: ai player :: ai (f (13 + player)) :: ai (f (19 + player)) :: ai (f (25 + player)) :: ai (f (31 + player)) :: ai n :: ai (f (43 + player)) :: zpT (f (7 + player)) t1))]) rfl dX11_set_106 ?_
            refine v_ws (ws2 := [(q1, zpO ta (aup f (37 + player) n) player t1)]) (by rw [zpU_37 (by omega)]) ?_
            refine v_iload (pc := 109) 0 rfl dX11_set_109 ?_
            exact hret ((f (37 + player)), (aup f (37 + player) n)) _ _ _ _ _ _ (by show (_, _) = _; unfold qSet sAt; (repeat' split) <;> first | rfl | (exfalso; omega)) (congrArg (fun z => some (ai z)) (by rfl)) rfl (Nat.le_of_ble_eq_true rfl) (Nat.le_of_ble_eq_true rfl) dX11_set_111
          · skip
            refine v_aload (pc := 80) 0 rfl dX11_set_80 ?_
            refine v_get (pc := 82) (v := ai (f (31 + player))) 6 (Or.inr ⟨0, rfl⟩) (flP_11_106 (by omega)) rfl dX11_set_82 ?_
            refine v_istore (pc := 85) (L2 := [(5, ai (f (31 + player))), (4, ar q1), (0, ar mo), (1, ai player), (2, ai what), (3, ai n)]) rfl (by decide) dX11_set_85 ?_
            refine v_aload (pc := 87) 1 rfl dX11_set_87 ?_
            refine v_iload_n (pc := 89) 5 rfl dX11_set_89 ?_
            refine v_put (pc := 90) 6 0 rfl (flP_11_106 (by omega)) (ckP (by omega)) (ftP_6 (by omega)) (okV_i _) (by show 6 < _; simp only [List.length_cons]; omega) (ws2 := [(q1, co (kC (f (7 + player))) (ar ta :: ai (f (7 + player)) :: ai player :: ai (f (13 + player)) :: ai (f (19 + player)) :: ai (f (25 + player)) :: ai n :: ai (f (37 + player)) :: ai (f (43 + player)) :: zpT (f (7 + player)) t1))]) rfl dX11_set_90 ?_
            refine v_ws (ws2 := [(q1, zpO ta (aup f (31 + player) n) player t1)]) (by rw [zpU_31 (by omega)]) ?_
            refine v_goto (pc := 93) 109 dX11_set_93 (by decide) ?_
            refine v_iload (pc := 109) 0 rfl dX11_set_109 ?_
            exact hret ((f (31 + player)), (aup f (31 + player) n)) _ _ _ _ _ _ (by show (_, _) = _; unfold qSet sAt; (repeat' split) <;> first | rfl | (exfalso; omega)) (congrArg (fun z => some (ai z)) (by rfl)) rfl (Nat.le_of_ble_eq_true rfl) (Nat.le_of_ble_eq_true rfl) dX11_set_111
        · skip
          refine v_aload (pc := 59) 0 rfl dX11_set_59 ?_
          refine v_get (pc := 61) (v := ai (f (19 + player))) 4 (Or.inr ⟨0, rfl⟩) (flP_11_86 (by omega)) rfl dX11_set_61 ?_
          refine v_istore (pc := 64) (L2 := [(5, ai (f (19 + player))), (4, ar q1), (0, ar mo), (1, ai player), (2, ai what), (3, ai n)]) rfl (by decide) dX11_set_64 ?_
          refine v_aload (pc := 66) 1 rfl dX11_set_66 ?_
          refine v_iload_n (pc := 68) 5 rfl dX11_set_68 ?_
          refine v_put (pc := 69) 4 0 rfl (flP_11_86 (by omega)) (ckP (by omega)) (ftP_4 (by omega)) (okV_i _) (by show 4 < _; simp only [List.length_cons]; omega) (ws2 := [(q1, co (kC (f (7 + player))) (ar ta :: ai (f (7 + player)) :: ai player :: ai (f (13 + player)) :: ai n :: ai (f (25 + player)) :: ai (f (31 + player)) :: ai (f (37 + player)) :: ai (f (43 + player)) :: zpT (f (7 + player)) t1))]) rfl dX11_set_69 ?_
          refine v_ws (ws2 := [(q1, zpO ta (aup f (19 + player) n) player t1)]) (by rw [zpU_19 (by omega)]) ?_
          refine v_goto (pc := 72) 109 dX11_set_72 (by decide) ?_
          refine v_iload (pc := 109) 0 rfl dX11_set_109 ?_
          exact hret ((f (19 + player)), (aup f (19 + player) n)) _ _ _ _ _ _ (by show (_, _) = _; unfold qSet sAt; (repeat' split) <;> first | rfl | (exfalso; omega)) (congrArg (fun z => some (ai z)) (by rfl)) rfl (Nat.le_of_ble_eq_true rfl) (Nat.le_of_ble_eq_true rfl) dX11_set_111
      · skip
        refine v_bipush (pc := 52) dX11_set_52 (by decide) ?_
        exact hret ((-2), f) _ _ _ _ _ _ (by show (_, _) = _; unfold qSet sAt; (repeat' split) <;> first | rfl | (exfalso; omega)) (congrArg (fun z => some (ai z)) (by rfl)) rfl (Nat.le_of_ble_eq_true rfl) (Nat.le_of_ble_eq_true rfl) dX11_set_54
  · skip
    refine v_iconst (pc := 21) dX11_set_21 ?_
    exact hret ((-1), f) _ _ _ _ _ _ (by show (_, _) = _; unfold qSet sAt; (repeat' split) <;> first | rfl | (exfalso; omega)) (congrArg (fun z => some (ai z)) (by rfl)) rfl (Nat.le_of_ble_eq_true rfl) (Nat.le_of_ble_eq_true rfl) dX11_set_22
set_option maxHeartbeats 4000000 in
set_option maxRecDepth 100000 in
theorem c_X11_set_n {gS : sG} (mo : Nat) (kw : Nat) (pi : Nat) (ta : Nat) (ms : Nat) (pt : Nat) (po : Nat) (hi : Int) (nw : Nat) (pls : Nat) (ins : Nat) (tap : Nat) (e3 : Nat) (e4 : Nat) (e5 : Nat) (e6 : Nat) (e7 : Nat) (e8 : Nat) (bar : Nat) (pv : Int → Option Nat) (f : Int → Int) (player : Int) (what : Int) (n : Int) (hS : SOK f) (hp : ¬ (0 ≤ player ∧ player ≤ f 0 - 1)) (hb_player : -2147483648 ≤ player ∧ player < 2147483648) (hb_what : -2147483648 ≤ what ∧ what < 2147483648) (hb_n : -2147483648 ≤ n ∧ n < 2147483648) : Ct gS (S := Unit) yX11_set cX11_set 6 (some .int) 2 43 0 0 [ar mo, ai player, ai what, ai n] [] (fun q => q ∈ ([(mo, co 11 [ar nw, ar kw, ar pi, ar ta, ar ms, ar pt, ar po, ai hi]), (nw, co 10 [ar pls, ar ins, ar tap, ar e3, ar e4, ar e5, ar e6, ar e7, ar e8, ai (f 0), ai (f 1), ai (f 4), ai (f 2), ai (f 3), ai (f 6), ar bar]), (pls, cq 3 6 pv)] : aW)) (fun _ => True) (fun _ => some (ai (-1))) (fun _ => []) := by
  refine ct_I RX11 [(0, ar mo), (1, ai player), (2, ai what), (3, ai n)] (by decide) rfl (Nat.le_of_ble_eq_true rfl) rfl (fun x hgS hro hret => ?_)
  subst hgS
  have r0 := hro _ (mem_at 0 rfl)
  have r1 := hro _ (mem_at 1 rfl)
  have r2 := hro _ (mem_at 2 rfl)
  obtain ⟨⟨hg0, hg1, hg2, hg3, hg4, hg5, hg6, hg7⟩, hSp, hSh, hSs, hSb, hSt, hSw⟩ := id hS
  show V x cX11_set RX11 6 (rmU 2 43 0 0) [] 0 [(0, ar mo), (1, ai player), (2, ai what), (3, ai n)] [] 0 0
  refine v_aload_n (pc := 0) 0 rfl dX11_set_0 ?_
  refine v_iload_n (pc := 1) 1 rfl dX11_set_1 ?_
  refine v_callV (pc := 2) [] [] [] (As := [ai player]) (rest := []) (c_X11_find_n mo kw pi ta ms pt po hi nw pls ins tap e3 e4 e5 e6 e7 e8 bar pv f player (by assumption) (by first | omega | assumption) (by first | omega | assumption)) (c := 11) rfl (Or.inl r0) wl_X11_99 wi_X11_find wv_X11_X11_find_X11_find wk_X11_find wz_X11 md_X11_find rfl (Nat.le_of_ble_eq_true rfl) ⟨Nat.le_of_ble_eq_true rfl, Nat.le_of_ble_eq_true rfl, Nat.le_of_ble_eq_true rfl, Nat.le_of_ble_eq_true rfl⟩ rfl rfl rfl rfl (by decide) (ro_cons (Or.inl r0) (ro_cons (Or.inl r1) (ro_cons (Or.inl r2) ro_nil))) dX11_set_2 (fun u hu => ?_)
  show V x cX11_set RX11 6 (rmU 2 43 0 0) [] 5 [(0, ar mo), (1, ai player), (2, ai what), (3, ai n)] [an] 0 0
  refine v_astore (pc := 5) (L2 := [(4, an), (0, ar mo), (1, ai player), (2, ai what), (3, ai n)]) rfl (by decide) dX11_set_5 ?_
  refine v_aload (pc := 7) 0 rfl dX11_set_7 ?_
  refine v_ifnull_n (pc := 9) 21 dX11_set_9 (by decide) ?_
  refine v_iconst (pc := 21) dX11_set_21 ?_
  exact hret () _ _ _ _ _ _ trivial (congrArg (fun z => some (ai z)) (by rfl)) rfl (Nat.le_of_ble_eq_true rfl) (Nat.le_of_ble_eq_true rfl) dX11_set_22
