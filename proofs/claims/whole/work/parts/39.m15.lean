set_option maxHeartbeats 4000000 in
set_option maxRecDepth 100000 in
theorem c_X12_much {gS : sG} (ad : Nat → Nat) (v : Nat → Int) (h : Nat) (f : Int → Int) (a : Int) (e : Int) (l : List Int) (kind : Int) (i : Nat) (ha : 0 ≤ a ∧ a ≤ 4) (he : 0 ≤ e ∧ e ≤ 100) (hT : ∀ j : Int, 0 ≤ j → j < e → 0 ≤ f (121 + j) ∧ f (121 + j) ≤ 127) (h4 : v 4 = a) (h6 : v 6 = e) (hB : PB e (ps v l)) (hl : (l.length : Int) ≤ v 5) (h8 : v 8 = 0) (hi : i < 13) : Ct gS (S := (Nat → Int) × List Int) yX12_much cX12_much 4 none 23 491 0 0 [ar h, ai kind, ar (lK gS i)] [(h, co 12 (mO ad v)), ((ad 1), cn 0 936 (wrS f a l))] (fun q => q ∈ ([] : aW)) (fun u => muP (tp f) e kind i (ps v l) = ps u.1 u.2 ∧ kp v u.1) (fun u => none) (fun u => [(h, co 12 (mO ad u.1)), ((ad 1), cn 0 936 (wrS f a u.2))]) := by
  refine ct_V RX12 [(0, ar h), (1, ai kind), (2, ar (lK gS i))] (by decide) rfl (Nat.le_of_ble_eq_true rfl) rfl (fun x hgS hnm hro hret => ?_)
  subst hgS
  have hB1 : 0 ≤ v 5 := hB.1
  have hB2 : v 5 ≤ e := hB.2.1
  have hB3 : v 7 = 0 ∨ v 7 = 1 := hB.2.2
  have hlb := len_b hi
  show V x cX12_much RX12 4 (rmU 23 491 0 0) [(h, co 12 (mO ad v)), ((ad 1), cn 0 936 (wrS f a l))] 0 [(0, ar h), (1, ai kind), (2, ar (lK (xg x) i))] [] 0 0
  refine v_aload_n (pc := 0) 0 rfl dX12_much_0 ?_
  refine v_aload_n (pc := 1) 2 rfl dX12_much_1 ?_
  refine v_callV (pc := 2) [0] [1] [((ad 1), cn 0 936 (wrS f a l))] (As := [ar (lK (xg x) i)]) (rest := []) (c_X12_spells ad v h f a e l i (by first | omega | assumption) (by first | omega | assumption) (by exact hT) (by show (v 4) = a; omega) (by show (v 6) = e; omega) (by exact ⟨by show 0 ≤ (v 5); omega, by show (v 5) ≤ e; omega, by show (v 7) = 0 ∨ (v 7) = 1; omega⟩) (by first | omega | assumption)) (c := 12) rfl (Or.inr ⟨0, rfl⟩) wl_X12_101 wi_X12_spells wv_X12_X12_spells_X12_spells wk_X12_spells wz_X12 md_X12_spells rfl (Nat.le_of_ble_eq_true rfl) ⟨Nat.le_of_ble_eq_true rfl, Nat.le_of_ble_eq_true rfl, Nat.le_of_ble_eq_true rfl, Nat.le_of_ble_eq_true rfl⟩ rfl rfl rfl rfl (by decide) (ro_cons (Or.inr ⟨1, rfl, by decide⟩) ro_nil) dX12_much_2 (fun u hu => ?_)
  obtain ⟨v2_1, rfl⟩ : ∃ z, z = u := ⟨_, rfl⟩
  have g_2 : spl (tp f) e i (lenS i).toNat (ps v l) = ps v2_1 l ∧ kp v v2_1 := hu
  show V x cX12_much RX12 4 (rmU 23 491 0 0) [((ad 1), cn 0 936 (wrS f a l)), (h, co 12 (mO ad v2_1))] 5 [(0, ar h), (1, ai kind), (2, ar (lK (xg x) i))] [] 0 0
  have hn_3 : PN e (ps v l) (spl (tp f) e i (lenS i).toNat (ps v l)) := spl_k (t := tp f) (by omega) _ (by have := len_b (i := i) (by omega); omega) _ ⟨by show 0 ≤ (v 5); omega, by show (v 5) ≤ e; omega, by show (v 7) = 0 ∨ (v 7) = 1; omega⟩
  rw [g_2.1] at hn_3
  have hn_3a : (0 ≤ v2_1 5 ∧ v2_1 5 ≤ e ∧ (v2_1 7 = 0 ∨ v2_1 7 = 1)) ∧ (v 5) ≤ v2_1 5 ∧ (v 5) - ((l.length : Nat) : Int) ≤ v2_1 5 - ((l.length : Nat) : Int) := hn_3
  have hn_3k4 : v2_1 4 = a := (g_2.2 4 (by decide) (by decide)).trans (by show (v 4) = a; omega)
  have hn_3k6 : v2_1 6 = e := (g_2.2 6 (by decide) (by decide)).trans (by show (v 6) = e; omega)
  have hn_3k8 : v2_1 8 = (v 8) := (g_2.2 8 (by decide) (by decide)).trans (by show (v 8) = (v 8); omega)
  refine v_aload_n (pc := 5) 0 rfl dX12_much_5 ?_
  refine v_callV (pc := 6) [1] [0] [((ad 1), cn 0 936 (wrS f a l))] (As := []) (rest := []) (c_X12_figures ad v2_1 h f a e l (by first | omega | assumption) (by first | omega | assumption) (by exact hT) (by show (v2_1 4) = a; omega) (by show (v2_1 6) = e; omega) (by exact ⟨by show 0 ≤ (v2_1 5); omega, by show (v2_1 5) ≤ e; omega, by show (v2_1 7) = 0 ∨ (v2_1 7) = 1; omega⟩)) (c := 12) rfl (Or.inr ⟨1, rfl⟩) wl_X12_95 wi_X12_figures wv_X12_X12_figures_X12_figures wk_X12_figures wz_X12 md_X12_figures rfl (Nat.le_of_ble_eq_true rfl) ⟨Nat.le_of_ble_eq_true rfl, Nat.le_of_ble_eq_true rfl, Nat.le_of_ble_eq_true rfl, Nat.le_of_ble_eq_true rfl⟩ rfl rfl rfl rfl (by decide) (ro_cons (Or.inr ⟨0, rfl, by decide⟩) ro_nil) dX12_much_6 (fun u hu => ?_)
  obtain ⟨v2_4, rfl⟩ : ∃ z, z = u := ⟨_, rfl⟩
  have g_5 : (fig (tp f) e (ps v2_1 l)).2 = ps v2_4 l ∧ kp v2_1 v2_4 := hu
  show V x cX12_much RX12 4 (rmU 23 491 0 0) [((ad 1), cn 0 936 (wrS f a l)), (h, co 12 (mO ad v2_4))] 9 [(0, ar h), (1, ai kind), (2, ar (lK (xg x) i))] [ai ((fig (tp f) e (ps v2_1 l)).1)] 0 0
  obtain ⟨hfb1, hfb2⟩ := fig_b (t := tp f) (e := e) (s := ps v2_1 l)
  have hn_6 : PN e (ps v2_1 l) ((fig (tp f) e (ps v2_1 l)).2) := fig_k (t := tp f) _ ⟨by show 0 ≤ (v2_1 5); omega, by show (v2_1 5) ≤ e; omega, by show (v2_1 7) = 0 ∨ (v2_1 7) = 1; omega⟩
  rw [g_5.1] at hn_6
  have hn_6a : (0 ≤ v2_4 5 ∧ v2_4 5 ≤ e ∧ (v2_4 7 = 0 ∨ v2_4 7 = 1)) ∧ (v2_1 5) ≤ v2_4 5 ∧ (v2_1 5) - ((l.length : Nat) : Int) ≤ v2_4 5 - ((l.length : Nat) : Int) := hn_6
  have hn_6k4 : v2_4 4 = a := (g_5.2 4 (by decide) (by decide)).trans (by show (v2_1 4) = a; omega)
  have hn_6k6 : v2_4 6 = e := (g_5.2 6 (by decide) (by decide)).trans (by show (v2_1 6) = e; omega)
  have hn_6k8 : v2_4 8 = (v2_1 8) := (g_5.2 8 (by decide) (by decide)).trans (by show (v2_1 8) = (v2_1 8); omega)
  refine v_istore_n (pc := 9) (L2 := [(3, ai ((fig (tp f) e (ps v2_1 l)).1)), (0, ar h), (1, ai kind), (2, ar (lK (xg x) i))]) rfl (by decide) dX12_much_9 ?_
  refine v_aload_n (pc := 10) 1 rfl dX12_much_10 ?_
  refine v_bipush (pc := 11) dX12_much_11 (by decide) ?_
  refine v_callV (pc := 13) [1] [0] [((ad 1), cn 0 936 (wrS f a l))] (As := [ai 32]) (rest := []) (c_X12_must ad v2_4 h f a e l 32 (by first | omega | assumption) (by first | omega | assumption) (by exact hT) (by show (v2_4 4) = a; omega) (by show (v2_4 6) = e; omega) (by exact ⟨by show 0 ≤ (v2_4 5); omega, by show (v2_4 5) ≤ e; omega, by show (v2_4 7) = 0 ∨ (v2_4 7) = 1; omega⟩) (by first | omega | assumption)) (c := 12) rfl (Or.inr ⟨1, rfl⟩) wl_X12_68 wi_X12_must wv_X12_X12_must_X12_must wk_X12_must wz_X12 md_X12_must rfl (Nat.le_of_ble_eq_true rfl) ⟨Nat.le_of_ble_eq_true rfl, Nat.le_of_ble_eq_true rfl, Nat.le_of_ble_eq_true rfl, Nat.le_of_ble_eq_true rfl⟩ rfl rfl rfl rfl (by decide) (ro_cons (Or.inr ⟨0, rfl, by decide⟩) ro_nil) dX12_much_13 (fun u hu => ?_)
  obtain ⟨v2_7, rfl⟩ : ∃ z, z = u := ⟨_, rfl⟩
  have g_8 : mstP (tp f) e 32 (ps v2_4 l) = ps v2_7 l ∧ kp v2_4 v2_7 := hu
  show V x cX12_much RX12 4 (rmU 23 491 0 0) [((ad 1), cn 0 936 (wrS f a l)), (h, co 12 (mO ad v2_7))] 16 [(3, ai ((fig (tp f) e (ps v2_1 l)).1)), (0, ar h), (1, ai kind), (2, ar (lK (xg x) i))] [] 0 0
  have hn_9 : PN e (ps v2_4 l) (mstP (tp f) e 32 (ps v2_4 l)) := mstP_k (t := tp f) (by omega) _ ⟨by show 0 ≤ (v2_4 5); omega, by show (v2_4 5) ≤ e; omega, by show (v2_4 7) = 0 ∨ (v2_4 7) = 1; omega⟩
  rw [g_8.1] at hn_9
  have hn_9a : (0 ≤ v2_7 5 ∧ v2_7 5 ≤ e ∧ (v2_7 7 = 0 ∨ v2_7 7 = 1)) ∧ (v2_4 5) ≤ v2_7 5 ∧ (v2_4 5) - ((l.length : Nat) : Int) ≤ v2_7 5 - ((l.length : Nat) : Int) := hn_9
  have hn_9k4 : v2_7 4 = a := (g_8.2 4 (by decide) (by decide)).trans (by show (v2_4 4) = a; omega)
  have hn_9k6 : v2_7 6 = e := (g_8.2 6 (by decide) (by decide)).trans (by show (v2_4 6) = e; omega)
  have hn_9k8 : v2_7 8 = (v2_4 8) := (g_8.2 8 (by decide) (by decide)).trans (by show (v2_4 8) = (v2_4 8); omega)
  refine v_aload_n (pc := 16) 1 rfl dX12_much_16 ?_
  refine v_callV (pc := 17) [1, 0] [] [] (As := []) (rest := []) (c_some_5 ad v2_7 h f a e l (by first | omega | assumption) (by first | omega | assumption) (by exact hT) (by show (v2_7 4) = a; omega) (by show (v2_7 6) = e; omega) (by exact ⟨by show 0 ≤ (v2_7 5); omega, by show (v2_7 5) ≤ e; omega, by show (v2_7 7) = 0 ∨ (v2_7 7) = 1; omega⟩) (by show ((l.length : Nat) : Int) ≤ (v2_7 5); omega) (by show (v2_7 8) = _; omega)) (c := 12) rfl (Or.inr ⟨1, rfl⟩) wl_X12_84 wi_X12_some wv_X12_X12_some_X12_some wk_X12_some wz_X12 md_X12_some rfl (Nat.le_of_ble_eq_true rfl) ⟨Nat.le_of_ble_eq_true rfl, Nat.le_of_ble_eq_true rfl, Nat.le_of_ble_eq_true rfl, Nat.le_of_ble_eq_true rfl⟩ rfl rfl rfl rfl (by decide) ro_nil dX12_much_17 (fun u hu => ?_)
  obtain ⟨v2_10, l2_11⟩ := u
  have g_12 : soP (tp f) e (fac (tp f) e 5) (ps v2_7 l) = ps v2_10 l2_11 ∧ kp v2_7 v2_10 := hu
  show V x cX12_much RX12 4 (rmU 23 491 0 0) [(h, co 12 (mO ad v2_10)), ((ad 1), cn 0 936 (wrS f a l2_11))] 20 [(3, ai ((fig (tp f) e (ps v2_1 l)).1)), (0, ar h), (1, ai kind), (2, ar (lK (xg x) i))] [] 0 0
  have hn_13 : PN e (ps v2_7 l) (soP (tp f) e (fac (tp f) e 5) (ps v2_7 l)) := soP_k (fac_k (t := tp f) 5) _ ⟨by show 0 ≤ (v2_7 5); omega, by show (v2_7 5) ≤ e; omega, by show (v2_7 7) = 0 ∨ (v2_7 7) = 1; omega⟩
  rw [g_12.1] at hn_13
  have hn_13a : (0 ≤ v2_10 5 ∧ v2_10 5 ≤ e ∧ (v2_10 7 = 0 ∨ v2_10 7 = 1)) ∧ (v2_7 5) ≤ v2_10 5 ∧ (v2_7 5) - ((l.length : Nat) : Int) ≤ v2_10 5 - ((l2_11.length : Nat) : Int) := hn_13
  have hn_13k4 : v2_10 4 = a := (g_12.2 4 (by decide) (by decide)).trans (by show (v2_7 4) = a; omega)
  have hn_13k6 : v2_10 6 = e := (g_12.2 6 (by decide) (by decide)).trans (by show (v2_7 6) = e; omega)
  have hn_13k8 : v2_10 8 = (v2_7 8) := (g_12.2 8 (by decide) (by decide)).trans (by show (v2_7 8) = (v2_7 8); omega)
  refine v_aload_n (pc := 20) 1 rfl dX12_much_20 ?_
  refine v_iload_n (pc := 21) 2 rfl dX12_much_21 ?_
  refine v_iload_n (pc := 22) 0 rfl dX12_much_22 ?_
  refine v_isub (pc := 23) dX12_much_23 ?_
  refine v_callV (pc := 24) [1] [0] [(h, co 12 (mO ad v2_10))] (As := [ai (kind - (fig (tp f) e (ps v2_1 l)).1)]) (rest := []) (c_X12_emits ad v2_10 h f a e l2_11 (kind - (fig (tp f) e (ps v2_1 l)).1) (by first | omega | assumption) (by first | omega | assumption) (by exact hT) (by show (v2_10 4) = a; omega) (by show (v2_10 6) = e; omega) (by exact ⟨by show 0 ≤ (v2_10 5); omega, by show (v2_10 5) ≤ e; omega, by show (v2_10 7) = 0 ∨ (v2_10 7) = 1; omega⟩) (by show ((l2_11.length : Nat) : Int) ≤ 139; omega)) (c := 12) rfl (Or.inr ⟨0, rfl⟩) wl_X12_81 wi_X12_emits wv_X12_X12_emits_X12_emits wk_X12_emits wz_X12 md_X12_emits rfl (Nat.le_of_ble_eq_true rfl) ⟨Nat.le_of_ble_eq_true rfl, Nat.le_of_ble_eq_true rfl, Nat.le_of_ble_eq_true rfl, Nat.le_of_ble_eq_true rfl⟩ rfl rfl rfl rfl (by decide) (ro_cons (Or.inr ⟨0, rfl, by decide⟩) ro_nil) dX12_much_24 (fun u hu => ?_)
  obtain ⟨l2_14, rfl⟩ : ∃ z, z = u := ⟨_, rfl⟩
  have g_15 : emi (kind - (fig (tp f) e (ps v2_1 l)).1) (ps v2_10 l2_11) = ps v2_10 l2_14 := hu
  show V x cX12_much RX12 4 (rmU 23 491 0 0) [(h, co 12 (mO ad v2_10)), ((ad 1), cn 0 936 (wrS f a l2_14))] 27 [(3, ai ((fig (tp f) e (ps v2_1 l)).1)), (0, ar h), (1, ai kind), (2, ar (lK (xg x) i))] [] 0 0
  exact hret (v2_10, l2_14) _ _ _ _ _ (by refine ⟨?_, kp_tr g_2.2 (kp_tr g_5.2 (kp_tr g_8.2 g_12.2))⟩; unfold muP; rw [g_2.1, g_5.1, g_8.1, g_12.1]; exact g_15) rfl rfl (Nat.le_of_ble_eq_true rfl) (Nat.le_of_ble_eq_true rfl) dX12_much_27
set_option maxHeartbeats 4000000 in
set_option maxRecDepth 100000 in
theorem c_X12_tellsHere {gS : sG} (ad : Nat → Nat) (v : Nat → Int) (h : Nat) (f : Int → Int) (a : Int) (e : Int) (l : List Int) (wh : Int) (i : Nat) (ha : 0 ≤ a ∧ a ≤ 4) (he : 0 ≤ e ∧ e ≤ 100) (hT : ∀ j : Int, 0 ≤ j → j < e → 0 ≤ f (121 + j) ∧ f (121 + j) ≤ 127) (h4 : v 4 = a) (h6 : v 6 = e) (hB : PB e (ps v l)) (hwh : wh = 221 ∨ wh = 226) (hi : i < 13) : Ct gS (S := Nat → Int) yX12_tellsHere cX12_tellsHere 4 none 5 107 0 0 [ar h, ai wh, ar (lK gS i)] [(h, co 12 (mO ad v)), ((ad 1), cn 0 936 (wrS f a l))] (fun q => q ∈ ([] : aW)) (fun u => (thS (tp f) e i (ps v l)).2 = ps u l ∧ kp v u) (fun u => none) (fun u => [(h, co 12 (mO ad u)), ((ad 1), cn 0 936 (wrS (tpu f (wh + a) (thS (tp f) e i (ps v l)).1 (u 7)) a l))]) := by
  refine ct_V RX12 [(0, ar h), (1, ai wh), (2, ar (lK gS i))] (by decide) rfl (Nat.le_of_ble_eq_true rfl) rfl (fun x hgS hnm hro hret => ?_)
  subst hgS
  have hB1 : 0 ≤ v 5 := hB.1
  have hB2 : v 5 ≤ e := hB.2.1
  have hB3 : v 7 = 0 ∨ v 7 = 1 := hB.2.2
  have hlb := len_b hi
  show V x cX12_tellsHere RX12 4 (rmU 5 107 0 0) [(h, co 12 (mO ad v)), ((ad 1), cn 0 936 (wrS f a l))] 0 [(0, ar h), (1, ai wh), (2, ar (lK (xg x) i))] [] 0 0
  refine v_aload_n (pc := 0) 0 rfl dX12_tellsHere_0 ?_
  refine v_aload_n (pc := 1) 2 rfl dX12_tellsHere_1 ?_
  refine v_callV (pc := 2) [0] [1] [((ad 1), cn 0 936 (wrS f a l))] (As := [ar (lK (xg x) i)]) (rest := []) (c_X12_spells ad v h f a e l i (by first | omega | assumption) (by first | omega | assumption) (by exact hT) (by show (v 4) = a; omega) (by show (v 6) = e; omega) (by exact ⟨by show 0 ≤ (v 5); omega, by show (v 5) ≤ e; omega, by show (v 7) = 0 ∨ (v 7) = 1; omega⟩) (by first | omega | assumption)) (c := 12) rfl (Or.inr ⟨0, rfl⟩) wl_X12_101 wi_X12_spells wv_X12_X12_spells_X12_spells wk_X12_spells wz_X12 md_X12_spells rfl (Nat.le_of_ble_eq_true rfl) ⟨Nat.le_of_ble_eq_true rfl, Nat.le_of_ble_eq_true rfl, Nat.le_of_ble_eq_true rfl, Nat.le_of_ble_eq_true rfl⟩ rfl rfl rfl rfl (by decide) (ro_cons (Or.inr ⟨1, rfl, by decide⟩) ro_nil) dX12_tellsHere_2 (fun u hu => ?_)
  obtain ⟨v2_1, rfl⟩ : ∃ z, z = u := ⟨_, rfl⟩
  have g_2 : spl (tp f) e i (lenS i).toNat (ps v l) = ps v2_1 l ∧ kp v v2_1 := hu
  show V x cX12_tellsHere RX12 4 (rmU 5 107 0 0) [((ad 1), cn 0 936 (wrS f a l)), (h, co 12 (mO ad v2_1))] 5 [(0, ar h), (1, ai wh), (2, ar (lK (xg x) i))] [] 0 0
  have hn_3 : PN e (ps v l) (spl (tp f) e i (lenS i).toNat (ps v l)) := spl_k (t := tp f) (by omega) _ (by have := len_b (i := i) (by omega); omega) _ ⟨by show 0 ≤ (v 5); omega, by show (v 5) ≤ e; omega, by show (v 7) = 0 ∨ (v 7) = 1; omega⟩
  rw [g_2.1] at hn_3
  have hn_3a : (0 ≤ v2_1 5 ∧ v2_1 5 ≤ e ∧ (v2_1 7 = 0 ∨ v2_1 7 = 1)) ∧ (v 5) ≤ v2_1 5 ∧ (v 5) - ((l.length : Nat) : Int) ≤ v2_1 5 - ((l.length : Nat) : Int) := hn_3
  have hn_3k4 : v2_1 4 = a := (g_2.2 4 (by decide) (by decide)).trans (by show (v 4) = a; omega)
  have hn_3k6 : v2_1 6 = e := (g_2.2 6 (by decide) (by decide)).trans (by show (v 6) = e; omega)
  have hn_3k8 : v2_1 8 = (v 8) := (g_2.2 8 (by decide) (by decide)).trans (by show (v 8) = (v 8); omega)
  refine v_aload_n (pc := 5) 0 rfl dX12_tellsHere_5 ?_
  refine v_callV (pc := 6) [1] [0] [((ad 1), cn 0 936 (wrS f a l))] (As := []) (rest := []) (c_X12_figures ad v2_1 h f a e l (by first | omega | assumption) (by first | omega | assumption) (by exact hT) (by show (v2_1 4) = a; omega) (by show (v2_1 6) = e; omega) (by exact ⟨by show 0 ≤ (v2_1 5); omega, by show (v2_1 5) ≤ e; omega, by show (v2_1 7) = 0 ∨ (v2_1 7) = 1; omega⟩)) (c := 12) rfl (Or.inr ⟨1, rfl⟩) wl_X12_95 wi_X12_figures wv_X12_X12_figures_X12_figures wk_X12_figures wz_X12 md_X12_figures rfl (Nat.le_of_ble_eq_true rfl) ⟨Nat.le_of_ble_eq_true rfl, Nat.le_of_ble_eq_true rfl, Nat.le_of_ble_eq_true rfl, Nat.le_of_ble_eq_true rfl⟩ rfl rfl rfl rfl (by decide) (ro_cons (Or.inr ⟨0, rfl, by decide⟩) ro_nil) dX12_tellsHere_6 (fun u hu => ?_)
  obtain ⟨v2_4, rfl⟩ : ∃ z, z = u := ⟨_, rfl⟩
  have g_5 : (fig (tp f) e (ps v2_1 l)).2 = ps v2_4 l ∧ kp v2_1 v2_4 := hu
  show V x cX12_tellsHere RX12 4 (rmU 5 107 0 0) [((ad 1), cn 0 936 (wrS f a l)), (h, co 12 (mO ad v2_4))] 9 [(0, ar h), (1, ai wh), (2, ar (lK (xg x) i))] [ai ((fig (tp f) e (ps v2_1 l)).1)] 0 0
  have hn_6 : PN e (ps v2_1 l) ((fig (tp f) e (ps v2_1 l)).2) := fig_k (t := tp f) _ ⟨by show 0 ≤ (v2_1 5); omega, by show (v2_1 5) ≤ e; omega, by show (v2_1 7) = 0 ∨ (v2_1 7) = 1; omega⟩
  rw [g_5.1] at hn_6
  have hn_6a : (0 ≤ v2_4 5 ∧ v2_4 5 ≤ e ∧ (v2_4 7 = 0 ∨ v2_4 7 = 1)) ∧ (v2_1 5) ≤ v2_4 5 ∧ (v2_1 5) - ((l.length : Nat) : Int) ≤ v2_4 5 - ((l.length : Nat) : Int) := hn_6
  have hn_6k4 : v2_4 4 = a := (g_5.2 4 (by decide) (by decide)).trans (by show (v2_1 4) = a; omega)
  have hn_6k6 : v2_4 6 = e := (g_5.2 6 (by decide) (by decide)).trans (by show (v2_1 6) = e; omega)
  have hn_6k8 : v2_4 8 = (v2_1 8) := (g_5.2 8 (by decide) (by decide)).trans (by show (v2_1 8) = (v2_1 8); omega)
  refine v_istore_n (pc := 9) (L2 := [(3, ai ((fig (tp f) e (ps v2_1 l)).1)), (0, ar h), (1, ai wh), (2, ar (lK (xg x) i))]) rfl (by decide) dX12_tellsHere_9 ?_
  refine v_aload_n (pc := 10) 1 rfl dX12_tellsHere_10 ?_
  refine v_get (pc := 11) (v := ai (v2_4 7)) 7 (Or.inr ⟨1, rfl⟩) fl_12_51_12 rfl dX12_tellsHere_11 ?_
  refine v_if_ne (pc := 14) 29 dX12_tellsHere_14 (by decide) (by unfold iB; omega) (fun c_7 => ?_) (fun c_7 => ?_)
  · skip
    refine v_ws (ws2 := [((ad 1), cn 0 936 (wrS (tpu f (wh + a) (thS (tp f) e i (ps v l)).1 (v2_4 7)) a l)), (h, co 12 (mO ad v2_4))]) (by have q : ¬ v2_4 7 = 0 := (by omega); rw [show tpu f (wh + a) (thS (tp f) e i (ps v l)).1 (v2_4 7) = f from if_neg q]) ?_
    refine v_wsub (ws2 := [(h, co 12 (mO ad v2_4)), ((ad 1), cn 0 936 (wrS (tpu f (wh + a) (thS (tp f) e i (ps v l)).1 (v2_4 7)) a l))]) [1, 0] rfl rfl ?_
    exact hret (v2_4) _ _ _ _ _ (by exact ⟨by unfold thS; rw [g_2.1]; exact g_5.1, kp_tr g_2.2 g_5.2⟩) rfl rfl (Nat.le_of_ble_eq_true rfl) (Nat.le_of_ble_eq_true rfl) dX12_tellsHere_29
  · skip
    refine v_aload_n (pc := 17) 1 rfl dX12_tellsHere_17 ?_
    refine v_get (pc := 18) (v := ar (ad 1)) 1 (Or.inr ⟨1, rfl⟩) fl_12_9_12 rfl dX12_tellsHere_18 ?_
    refine v_iload_n (pc := 21) 2 rfl dX12_tellsHere_21 ?_
    refine v_aload_n (pc := 22) 1 rfl dX12_tellsHere_22 ?_
    refine v_get (pc := 23) (v := ai (v2_4 4)) 4 (Or.inr ⟨1, rfl⟩) fl_12_72_12 rfl dX12_tellsHere_23 ?_
    refine v_iadd (pc := 26) dX12_tellsHere_26 ?_
    refine v_iload_n (pc := 27) 0 rfl dX12_tellsHere_27 ?_
    refine v_iast (pc := 28) 0 rfl (by omega) (by omega) (by decide) (ws2 := [((ad 1), cn 0 936 (aup (wrS f a l) (wh + (v2_4 4)) ((fig (tp f) e (ps v2_1 l)).1))), (h, co 12 (mO ad v2_4))]) rfl dX12_tellsHere_28 ?_
    refine v_ws (ws2 := [((ad 1), cn 0 936 (wrS (tpu f (wh + a) (thS (tp f) e i (ps v l)).1 (v2_4 7)) a l)), (h, co 12 (mO ad v2_4))]) (by have q : v2_4 7 = 0 := (by omega); rw [show tpu f (wh + a) (thS (tp f) e i (ps v l)).1 (v2_4 7) = aup f (wh + a) (thS (tp f) e i (ps v l)).1 from if_pos q, ← wrS_up ha.1 (by omega)]; unfold thS; rw [g_2.1, show v2_4 4 = a by omega]) ?_
    refine v_wsub (ws2 := [(h, co 12 (mO ad v2_4)), ((ad 1), cn 0 936 (wrS (tpu f (wh + a) (thS (tp f) e i (ps v l)).1 (v2_4 7)) a l))]) [1, 0] rfl rfl ?_
    exact hret (v2_4) _ _ _ _ _ (by exact ⟨by unfold thS; rw [g_2.1]; exact g_5.1, kp_tr g_2.2 g_5.2⟩) rfl rfl (Nat.le_of_ble_eq_true rfl) (Nat.le_of_ble_eq_true rfl) dX12_tellsHere_29
set_option maxHeartbeats 4000000 in
set_option maxRecDepth 100000 in
theorem c_X12_clauseHere {gS : sG} (ad : Nat → Nat) (v : Nat → Int) (h : Nat) (f : Int → Int) (a : Int) (e : Int) (l : List Int) (ha : 0 ≤ a ∧ a ≤ 4) (he : 0 ≤ e ∧ e ≤ 100) (hT : ∀ j : Int, 0 ≤ j → j < e → 0 ≤ f (121 + j) ∧ f (121 + j) ≤ 127) (h4 : v 4 = a) (h6 : v 6 = e) (hB : PB e (ps v l)) (hl : (l.length : Int) ≤ v 5) (h8 : v 8 = 0) : Ct gS (S := (Nat → Int) × List Int × (Int → Int)) yX12_clauseHere cX12_clauseHere 1 none 24 514 0 0 [ar h] [(h, co 12 (mO ad v)), ((ad 1), cn 0 936 (wrS f a l))] (fun q => q ∈ ([] : aW)) (fun u => cls (tp f) e (ps v l, f (221 + a), f (226 + a)) = (ps u.1 u.2.1, u.2.2 (221 + a), u.2.2 (226 + a)) ∧ kp v u.1 ∧ tp u.2.2 = tp f ∧ ∀ j : Int, j ≠ 221 + a → j ≠ 226 + a → u.2.2 j = f j) (fun u => none) (fun u => [(h, co 12 (mO ad u.1)), ((ad 1), cn 0 936 (wrS u.2.2 a u.2.1))]) := by
  refine ct_V RX12 [(0, ar h)] (by decide) rfl (Nat.le_of_ble_eq_true rfl) rfl (fun x hgS hnm hro hret => ?_)
  subst hgS
  have hB1 : 0 ≤ v 5 := hB.1
  have hB2 : v 5 ≤ e := hB.2.1
  have hB3 : v 7 = 0 ∨ v 7 = 1 := hB.2.2
  show V x cX12_clauseHere RX12 1 (rmU 24 514 0 0) [(h, co 12 (mO ad v)), ((ad 1), cn 0 936 (wrS f a l))] 0 [(0, ar h)] [] 0 0
  refine v_aload_n (pc := 0) 0 rfl dX12_clauseHere_0 ?_
  refine v_callV (pc := 1) [] [0, 1] [(h, co 12 (mO ad v)), ((ad 1), cn 0 936 (wrS f a l))] (As := []) (rest := []) (c_X12_here ad v h f a e l (v 5) (by first | omega | assumption) (by first | omega | assumption) (by show (v 6) = e; omega) (by rfl) (by first | omega | assumption)) (c := 12) rfl (Or.inr ⟨0, rfl⟩) wl_X12_55 wi_X12_here wv_X12_X12_here_X12_here wk_X12_here wz_X12 md_X12_here rfl (Nat.le_of_ble_eq_true rfl) ⟨Nat.le_of_ble_eq_true rfl, Nat.le_of_ble_eq_true rfl, Nat.le_of_ble_eq_true rfl, Nat.le_of_ble_eq_true rfl⟩ rfl rfl rfl rfl (by decide) (ro_cons (Or.inr ⟨0, rfl, by decide⟩) (ro_cons (Or.inr ⟨1, rfl, by decide⟩) ro_nil)) dX12_clauseHere_1 (fun u hu => ?_)
  show V x cX12_clauseHere RX12 1 (rmU 24 514 0 0) [(h, co 12 (mO ad v)), ((ad 1), cn 0 936 (wrS f a l))] 4 [(0, ar h)] [ai (hrp (tp f) e (v 5))] 0 0
  have hb_1 := hrp_b (p := (v 5)) hT (by omega)
  rcases (show (hrp (tp f) e (v 5)) = 103 ∨ (hrp (tp f) e (v 5)) = 112 ∨ (hrp (tp f) e (v 5)) = 115 ∨ (hrp (tp f) e (v 5)) = 119 ∨ (¬ (hrp (tp f) e (v 5)) = 103 ∧ ¬ (hrp (tp f) e (v 5)) = 112 ∧ ¬ (hrp (tp f) e (v 5)) = 115 ∧ ¬ (hrp (tp f) e (v 5)) = 119) by omega) with c_2 | c_2 | c_2 | c_2 | c_2
  · refine v_lsw (pc := 4) (off := 79) 83 dX12_clauseHere_4 (by decide) (by unfold iB; omega) (by rw [c_2]; rfl) (by decide) ?_
    refine v_aload_n (pc := 83) 0 rfl dX12_clauseHere_83 ?_
    refine v_sipush (pc := 84) dX12_clauseHere_84 (by decide) ?_
    refine v_ldcS (pc := 87) (q := ("MatFlipModel", 118, "glue ", 12)) (List.mem_of_getElem? (i := 14) rfl) rfl dX12_clauseHere_87 ?_
    refine v_callV (pc := 89) [0, 1] [] [] (As := [ai (-200), ar (lK (xg x) 12)]) (rest := []) (c_X12_much ad v h f a e l (-200) 12 (by first | omega | assumption) (by first | omega | assumption) (by exact hT) (by show (v 4) = a; omega) (by show (v 6) = e; omega) (by exact ⟨by show 0 ≤ (v 5); omega, by show (v 5) ≤ e; omega, by show (v 7) = 0 ∨ (v 7) = 1; omega⟩) (by show ((l.length : Nat) : Int) ≤ (v 5); omega) (by show (v 8) = _; omega) (by first | omega | assumption)) (c := 12) rfl (Or.inr ⟨0, rfl⟩) wl_X12_115 wi_X12_much wv_X12_X12_much_X12_much wk_X12_much wz_X12 md_X12_much rfl (Nat.le_of_ble_eq_true rfl) ⟨Nat.le_of_ble_eq_true rfl, Nat.le_of_ble_eq_true rfl, Nat.le_of_ble_eq_true rfl, Nat.le_of_ble_eq_true rfl⟩ rfl rfl rfl rfl (by decide) ro_nil dX12_clauseHere_89 (fun u hu => ?_)
    obtain ⟨v2_3, l2_4⟩ := u
    have g_5 : muP (tp f) e (-200) 12 (ps v l) = ps v2_3 l2_4 ∧ kp v v2_3 := hu
    show V x cX12_clauseHere RX12 1 (rmU 24 514 0 0) [(h, co 12 (mO ad v2_3)), ((ad 1), cn 0 936 (wrS f a l2_4))] 92 [(0, ar h)] [] 0 0
    have hn_6 : PN e (ps v l) (muP (tp f) e (-200) 12 (ps v l)) := muP_k (t := tp f) (by omega) _ ⟨by show 0 ≤ (v 5); omega, by show (v 5) ≤ e; omega, by show (v 7) = 0 ∨ (v 7) = 1; omega⟩
    rw [g_5.1] at hn_6
    have hn_6a : (0 ≤ v2_3 5 ∧ v2_3 5 ≤ e ∧ (v2_3 7 = 0 ∨ v2_3 7 = 1)) ∧ (v 5) ≤ v2_3 5 ∧ (v 5) - ((l.length : Nat) : Int) ≤ v2_3 5 - ((l2_4.length : Nat) : Int) := hn_6
    have hn_6k4 : v2_3 4 = a := (g_5.2 4 (by decide) (by decide)).trans (by show (v 4) = a; omega)
    have hn_6k6 : v2_3 6 = e := (g_5.2 6 (by decide) (by decide)).trans (by show (v 6) = e; omega)
    have hn_6k8 : v2_3 8 = (v 8) := (g_5.2 8 (by decide) (by decide)).trans (by show (v 8) = (v 8); omega)
    refine v_goto (pc := 92) 100 dX12_clauseHere_92 (by decide) ?_
    exact hret (v2_3, l2_4, f) _ _ _ _ _ (by exact ⟨cls_g (by omega) g_5.1, g_5.2, rfl, fun _ _ _ => rfl⟩) rfl rfl (Nat.le_of_ble_eq_true rfl) (Nat.le_of_ble_eq_true rfl) dX12_clauseHere_100
  · refine v_lsw (pc := 4) (off := 56) 60 dX12_clauseHere_4 (by decide) (by unfold iB; omega) (by rw [c_2]; rfl) (by decide) ?_
    refine v_aload_n (pc := 60) 0 rfl dX12_clauseHere_60 ?_
    refine v_sipush (pc := 61) dX12_clauseHere_61 (by decide) ?_
    refine v_ldcS (pc := 64) (q := ("MatFlipModel", 111, "pay ", 10)) (List.mem_of_getElem? (i := 10) rfl) rfl dX12_clauseHere_64 ?_
    refine v_callV (pc := 66) [0, 1] [] [] (As := [ai 226, ar (lK (xg x) 10)]) (rest := []) (c_X12_tellsHere ad v h f a e l 226 10 (by first | omega | assumption) (by first | omega | assumption) (by exact hT) (by show (v 4) = a; omega) (by show (v 6) = e; omega) (by exact ⟨by show 0 ≤ (v 5); omega, by show (v 5) ≤ e; omega, by show (v 7) = 0 ∨ (v 7) = 1; omega⟩) (by first | omega | assumption) (by first | omega | assumption)) (c := 12) rfl (Or.inr ⟨0, rfl⟩) wl_X12_107 wi_X12_tellsHere wv_X12_X12_tellsHere_X12_tellsHere wk_X12_tellsHere wz_X12 md_X12_tellsHere rfl (Nat.le_of_ble_eq_true rfl) ⟨Nat.le_of_ble_eq_true rfl, Nat.le_of_ble_eq_true rfl, Nat.le_of_ble_eq_true rfl, Nat.le_of_ble_eq_true rfl⟩ rfl rfl rfl rfl (by decide) ro_nil dX12_clauseHere_66 (fun u hu => ?_)
    obtain ⟨v2_7, rfl⟩ : ∃ z, z = u := ⟨_, rfl⟩
    have g_8 : (thS (tp f) e 10 (ps v l)).2 = ps v2_7 l ∧ kp v v2_7 := hu
    show V x cX12_clauseHere RX12 1 (rmU 24 514 0 0) [(h, co 12 (mO ad v2_7)), ((ad 1), cn 0 936 (wrS (tpu f (226 + a) (thS (tp f) e 10 (ps v l)).1 (v2_7 7)) a l))] 69 [(0, ar h)] [] 0 0
    have hn_9 : PN e (ps v l) ((thS (tp f) e 10 (ps v l)).2) := thS_k (t := tp f) (by omega) _ ⟨by show 0 ≤ (v 5); omega, by show (v 5) ≤ e; omega, by show (v 7) = 0 ∨ (v 7) = 1; omega⟩
    rw [g_8.1] at hn_9
    have hn_9a : (0 ≤ v2_7 5 ∧ v2_7 5 ≤ e ∧ (v2_7 7 = 0 ∨ v2_7 7 = 1)) ∧ (v 5) ≤ v2_7 5 ∧ (v 5) - ((l.length : Nat) : Int) ≤ v2_7 5 - ((l.length : Nat) : Int) := hn_9
    have hn_9k4 : v2_7 4 = a := (g_8.2 4 (by decide) (by decide)).trans (by show (v 4) = a; omega)
    have hn_9k6 : v2_7 6 = e := (g_8.2 6 (by decide) (by decide)).trans (by show (v 6) = e; omega)
    have hn_9k8 : v2_7 8 = (v 8) := (g_8.2 8 (by decide) (by decide)).trans (by show (v 8) = (v 8); omega)
    refine v_goto (pc := 69) 100 dX12_clauseHere_69 (by decide) ?_
    exact hret (v2_7, l, (tpu f (226 + a) (thS (tp f) e 10 (ps v l)).1 (v2_7 7))) _ _ _ _ _ (by exact ⟨cls_p (a := a) (by omega) g_8.1, g_8.2, tpu_tp (by omega), fun j j1 j2 => tpu_n (by omega)⟩) rfl rfl (Nat.le_of_ble_eq_true rfl) (Nat.le_of_ble_eq_true rfl) dX12_clauseHere_100
  · refine v_lsw (pc := 4) (off := 68) 72 dX12_clauseHere_4 (by decide) (by unfold iB; omega) (by rw [c_2]; rfl) (by decide) ?_
    refine v_aload_n (pc := 72) 0 rfl dX12_clauseHere_72 ?_
    refine v_bipush (pc := 73) dX12_clauseHere_73 (by decide) ?_
    refine v_ldcS (pc := 75) (q := ("MatFlipModel", 113, "slip ", 11)) (List.mem_of_getElem? (i := 11) rfl) rfl dX12_clauseHere_75 ?_
    refine v_callV (pc := 77) [0, 1] [] [] (As := [ai (-10), ar (lK (xg x) 11)]) (rest := []) (c_X12_much ad v h f a e l (-10) 11 (by first | omega | assumption) (by first | omega | assumption) (by exact hT) (by show (v 4) = a; omega) (by show (v 6) = e; omega) (by exact ⟨by show 0 ≤ (v 5); omega, by show (v 5) ≤ e; omega, by show (v 7) = 0 ∨ (v 7) = 1; omega⟩) (by show ((l.length : Nat) : Int) ≤ (v 5); omega) (by show (v 8) = _; omega) (by first | omega | assumption)) (c := 12) rfl (Or.inr ⟨0, rfl⟩) wl_X12_115 wi_X12_much wv_X12_X12_much_X12_much wk_X12_much wz_X12 md_X12_much rfl (Nat.le_of_ble_eq_true rfl) ⟨Nat.le_of_ble_eq_true rfl, Nat.le_of_ble_eq_true rfl, Nat.le_of_ble_eq_true rfl, Nat.le_of_ble_eq_true rfl⟩ rfl rfl rfl rfl (by decide) ro_nil dX12_clauseHere_77 (fun u hu => ?_)
    obtain ⟨v2_10, l2_11⟩ := u
    have g_12 : muP (tp f) e (-10) 11 (ps v l) = ps v2_10 l2_11 ∧ kp v v2_10 := hu
    show V x cX12_clauseHere RX12 1 (rmU 24 514 0 0) [(h, co 12 (mO ad v2_10)), ((ad 1), cn 0 936 (wrS f a l2_11))] 80 [(0, ar h)] [] 0 0
    have hn_13 : PN e (ps v l) (muP (tp f) e (-10) 11 (ps v l)) := muP_k (t := tp f) (by omega) _ ⟨by show 0 ≤ (v 5); omega, by show (v 5) ≤ e; omega, by show (v 7) = 0 ∨ (v 7) = 1; omega⟩
    rw [g_12.1] at hn_13
    have hn_13a : (0 ≤ v2_10 5 ∧ v2_10 5 ≤ e ∧ (v2_10 7 = 0 ∨ v2_10 7 = 1)) ∧ (v 5) ≤ v2_10 5 ∧ (v 5) - ((l.length : Nat) : Int) ≤ v2_10 5 - ((l2_11.length : Nat) : Int) := hn_13
    have hn_13k4 : v2_10 4 = a := (g_12.2 4 (by decide) (by decide)).trans (by show (v 4) = a; omega)
    have hn_13k6 : v2_10 6 = e := (g_12.2 6 (by decide) (by decide)).trans (by show (v 6) = e; omega)
    have hn_13k8 : v2_10 8 = (v 8) := (g_12.2 8 (by decide) (by decide)).trans (by show (v 8) = (v 8); omega)
    refine v_goto (pc := 80) 100 dX12_clauseHere_80 (by decide) ?_
    exact hret (v2_10, l2_11, f) _ _ _ _ _ (by exact ⟨cls_s (by omega) g_12.1, g_12.2, rfl, fun _ _ _ => rfl⟩) rfl rfl (Nat.le_of_ble_eq_true rfl) (Nat.le_of_ble_eq_true rfl) dX12_clauseHere_100
  · refine v_lsw (pc := 4) (off := 44) 48 dX12_clauseHere_4 (by decide) (by unfold iB; omega) (by rw [c_2]; rfl) (by decide) ?_
    refine v_aload_n (pc := 48) 0 rfl dX12_clauseHere_48 ?_
    refine v_sipush (pc := 49) dX12_clauseHere_49 (by decide) ?_
    refine v_ldcS (pc := 52) (q := ("MatFlipModel", 105, "wide ", 9)) (List.mem_of_getElem? (i := 9) rfl) rfl dX12_clauseHere_52 ?_
    refine v_callV (pc := 54) [0, 1] [] [] (As := [ai 221, ar (lK (xg x) 9)]) (rest := []) (c_X12_tellsHere ad v h f a e l 221 9 (by first | omega | assumption) (by first | omega | assumption) (by exact hT) (by show (v 4) = a; omega) (by show (v 6) = e; omega) (by exact ⟨by show 0 ≤ (v 5); omega, by show (v 5) ≤ e; omega, by show (v 7) = 0 ∨ (v 7) = 1; omega⟩) (by first | omega | assumption) (by first | omega | assumption)) (c := 12) rfl (Or.inr ⟨0, rfl⟩) wl_X12_107 wi_X12_tellsHere wv_X12_X12_tellsHere_X12_tellsHere wk_X12_tellsHere wz_X12 md_X12_tellsHere rfl (Nat.le_of_ble_eq_true rfl) ⟨Nat.le_of_ble_eq_true rfl, Nat.le_of_ble_eq_true rfl, Nat.le_of_ble_eq_true rfl, Nat.le_of_ble_eq_true rfl⟩ rfl rfl rfl rfl (by decide) ro_nil dX12_clauseHere_54 (fun u hu => ?_)
    obtain ⟨v2_14, rfl⟩ : ∃ z, z = u := ⟨_, rfl⟩
    have g_15 : (thS (tp f) e 9 (ps v l)).2 = ps v2_14 l ∧ kp v v2_14 := hu
    show V x cX12_clauseHere RX12 1 (rmU 24 514 0 0) [(h, co 12 (mO ad v2_14)), ((ad 1), cn 0 936 (wrS (tpu f (221 + a) (thS (tp f) e 9 (ps v l)).1 (v2_14 7)) a l))] 57 [(0, ar h)] [] 0 0
    have hn_16 : PN e (ps v l) ((thS (tp f) e 9 (ps v l)).2) := thS_k (t := tp f) (by omega) _ ⟨by show 0 ≤ (v 5); omega, by show (v 5) ≤ e; omega, by show (v 7) = 0 ∨ (v 7) = 1; omega⟩
    rw [g_15.1] at hn_16
    have hn_16a : (0 ≤ v2_14 5 ∧ v2_14 5 ≤ e ∧ (v2_14 7 = 0 ∨ v2_14 7 = 1)) ∧ (v 5) ≤ v2_14 5 ∧ (v 5) - ((l.length : Nat) : Int) ≤ v2_14 5 - ((l.length : Nat) : Int) := hn_16
    have hn_16k4 : v2_14 4 = a := (g_15.2 4 (by decide) (by decide)).trans (by show (v 4) = a; omega)
    have hn_16k6 : v2_14 6 = e := (g_15.2 6 (by decide) (by decide)).trans (by show (v 6) = e; omega)
    have hn_16k8 : v2_14 8 = (v 8) := (g_15.2 8 (by decide) (by decide)).trans (by show (v 8) = (v 8); omega)
    refine v_goto (pc := 57) 100 dX12_clauseHere_57 (by decide) ?_
    exact hret (v2_14, l, (tpu f (221 + a) (thS (tp f) e 9 (ps v l)).1 (v2_14 7))) _ _ _ _ _ (by exact ⟨cls_w (a := a) (by omega) g_15.1, g_15.2, tpu_tp (by omega), fun j j1 j2 => tpu_n (by omega)⟩) rfl rfl (Nat.le_of_ble_eq_true rfl) (Nat.le_of_ble_eq_true rfl) dX12_clauseHere_100
  · refine v_lsw (pc := 4) (off := 91) 95 dX12_clauseHere_4 (by decide) (by unfold iB; omega) (by show Op.lookupswitch.offset [(103, 79), (112, 56), (115, 68), (119, 44)] _ _ = _; rw [Op.lookupswitch.offset_cons, if_neg (by omega), Op.lookupswitch.offset_cons, if_neg (by omega), Op.lookupswitch.offset_cons, if_neg (by omega), Op.lookupswitch.offset_cons, if_neg (by omega)]; rfl) (by decide) ?_
    refine v_aload_n (pc := 95) 0 rfl dX12_clauseHere_95 ?_
    refine v_iconst (pc := 96) dX12_clauseHere_96 ?_
    refine v_put (pc := 97) 7 0 rfl fl_12_51_12 ck_12 ft_12_7 okV_z1 (Nat.le_of_ble_eq_true rfl) (ws2 := [(h, co 12 (mO ad (nup v 7 1))), ((ad 1), cn 0 936 (wrS f a l))]) rfl dX12_clauseHere_97 ?_
    exact hret ((nup v 7 1), l, f) _ _ _ _ _ (by exact ⟨cls_d (by omega) (by omega) (by omega) (by omega), kp_7 (kp_rf v), rfl, fun _ _ _ => rfl⟩) rfl rfl (Nat.le_of_ble_eq_true rfl) (Nat.le_of_ble_eq_true rfl) dX12_clauseHere_100
