set_option maxHeartbeats 4000000 in
set_option maxRecDepth 100000 in
theorem c_X12_spells {gS : sG} (ad : Nat → Nat) (v : Nat → Int) (h : Nat) (f : Int → Int) (a : Int) (e : Int) (l : List Int) (i : Nat) (ha : 0 ≤ a ∧ a ≤ 4) (he : 0 ≤ e ∧ e ≤ 100) (hT : ∀ j : Int, 0 ≤ j → j < e → 0 ≤ f (121 + j) ∧ f (121 + j) ≤ 127) (h4 : v 4 = a) (h6 : v 6 = e) (hB : PB e (ps v l)) (hi : i < 13) : Ct gS (S := Nat → Int) yX12_spells cX12_spells 3 none 4 85 0 0 [ar h, ar (lK gS i)] [(h, co 12 (mO ad v))] (fun q => q ∈ ([((ad 1), cn 0 936 (wrS f a l))] : aW)) (fun u => spl (tp f) e i (lenS i).toNat (ps v l) = ps u l ∧ kp v u) (fun u => none) (fun u => [(h, co 12 (mO ad u))]) := by
  refine ct_V RX12 [(0, ar h), (1, ar (lK gS i))] (by decide) rfl (Nat.le_of_ble_eq_true rfl) rfl (fun x hgS hnm hro hret => ?_)
  subst hgS
  have r0 := hro _ (mem_at 0 rfl)
  have hB1 : 0 ≤ v 5 := hB.1
  have hB2 : v 5 ≤ e := hB.2.1
  have hB3 : v 7 = 0 ∨ v 7 = 1 := hB.2.2
  have hlb := len_b hi
  show V x cX12_spells RX12 3 (rmU 4 85 0 0) [(h, co 12 (mO ad v))] 0 [(0, ar h), (1, ar (lK (xg x) i))] [] 0 0
  refine v_iconst (pc := 0) dX12_spells_0 ?_
  refine v_istore_n (pc := 1) (L2 := [(2, ai 0), (0, ar h), (1, ar (lK (xg x) i))]) rfl (by decide) dX12_spells_1 ?_
  have lp2 : ∀ (mm : Nat) (k : Int) (v1 : Nat → Int), (lenS i - k).toNat = mm → (0 ≤ k ∧ k ≤ lenS i) → (spl (tp f) e i k.toNat (ps v l) = ps v1 l) → (kp v v1) → V x cX12_spells RX12 3 (rmU 4 85 0 0) [(h, co 12 (mO ad v1))] 2 [(0, ar h), (1, ar (lK (xg x) i)), (2, ai k)] [] 0 0 := by
    intro mm
    induction mm using Nat.strongRecOn with
    | _ mm ih =>
      intro k v1 hmm hk hs hkp
      have hn := spl_k (t := tp f) (e := e) hi k.toNat (by omega) (ps v l) hB
      rw [hs] at hn
      have hn1 : (0 ≤ v1 5 ∧ v1 5 ≤ e ∧ (v1 7 = 0 ∨ v1 7 = 1)) ∧ v 5 ≤ v1 5 ∧ v 5 - (l.length : Int) ≤ v1 5 - (l.length : Int) := hn
      have hk4 : v1 4 = a := (hkp 4 (by decide) (by decide)).trans h4
      have hk6 : v1 6 = e := (hkp 6 (by decide) (by decide)).trans h6
      have hk8 : v1 8 = v 8 := hkp 8 (by decide) (by decide)
      refine v_iload_n (pc := 2) 2 rfl dX12_spells_2 ?_
      refine v_aload_n (pc := 3) 1 rfl dX12_spells_3 ?_
      refine v_callT (pc := 4) [] [0] [(h, co 12 (mO ad v1))] (As := []) (rest := [ai k]) (c_J0_length_8abf5 i (by first | omega | assumption)) (by first | omega | assumption) wl_X12_59 wi_J0_length_8abf5 wv_J0_length_8abf5 wk_J0_length_8abf5 wz_J0 md_J0_length_8abf5 rfl (Nat.le_of_ble_eq_true rfl) ⟨Nat.le_of_ble_eq_true rfl, Nat.le_of_ble_eq_true rfl, Nat.le_of_ble_eq_true rfl, Nat.le_of_ble_eq_true rfl⟩ rfl rfl rfl rfl (by decide) ro_nil dX12_spells_4 (fun u hu => ?_)
      show V x cX12_spells RX12 3 (rmU 4 85 0 0) [(h, co 12 (mO ad v1))] 7 [(0, ar h), (1, ar (lK (xg x) i)), (2, ai k)] [ai (lenS i), ai k] 0 0
      refine v_icmp_ge (pc := 7) 25 dX12_spells_7 (by decide) (by unfold iB; omega) (by unfold iB; omega) (fun c_1 => ?_) (fun c_1 => ?_)
      · skip
        exact hret v1 _ _ _ _ _ (by exact ⟨by rw [show (lenS i).toNat = k.toNat by omega]; exact hs, hkp⟩) rfl rfl (Nat.le_of_ble_eq_true rfl) (Nat.le_of_ble_eq_true rfl) dX12_spells_25
      · skip
        refine v_aload_n (pc := 10) 0 rfl dX12_spells_10 ?_
        refine v_aload_n (pc := 11) 1 rfl dX12_spells_11 ?_
        refine v_iload_n (pc := 12) 2 rfl dX12_spells_12 ?_
        refine v_callT (pc := 13) [] [0] [(h, co 12 (mO ad v1))] (As := [ai k]) (rest := [ar h]) (c_J0_charAt_5068e i k (by first | omega | assumption) (by first | omega | assumption)) (by first | omega | assumption) wl_X12_64 wi_J0_charAt_5068e wv_J0_charAt_5068e wk_J0_charAt_5068e wz_J0 md_J0_charAt_5068e rfl (Nat.le_of_ble_eq_true rfl) ⟨Nat.le_of_ble_eq_true rfl, Nat.le_of_ble_eq_true rfl, Nat.le_of_ble_eq_true rfl, Nat.le_of_ble_eq_true rfl⟩ rfl rfl rfl rfl (by decide) ro_nil dX12_spells_13 (fun u hu => ?_)
        show V x cX12_spells RX12 3 (rmU 4 85 0 0) [(h, co 12 (mO ad v1))] 16 [(0, ar h), (1, ar (lK (xg x) i)), (2, ai k)] [ai (chS i k), ar h] 0 0
        have hcb := ch_b hi (k := k) (by omega)
        refine v_callV (pc := 16) [0] [] [] (As := [ai (chS i k)]) (rest := []) (c_X12_must ad v1 h f a e l (chS i k) (by first | omega | assumption) (by first | omega | assumption) (by exact hT) (by show (v1 4) = a; omega) (by show (v1 6) = e; omega) (by exact ⟨by show 0 ≤ (v1 5); omega, by show (v1 5) ≤ e; omega, by show (v1 7) = 0 ∨ (v1 7) = 1; omega⟩) (by first | omega | assumption)) (c := 12) rfl (Or.inr ⟨0, rfl⟩) wl_X12_68 wi_X12_must wv_X12_X12_must_X12_must wk_X12_must wz_X12 md_X12_must rfl (Nat.le_of_ble_eq_true rfl) ⟨Nat.le_of_ble_eq_true rfl, Nat.le_of_ble_eq_true rfl, Nat.le_of_ble_eq_true rfl, Nat.le_of_ble_eq_true rfl⟩ rfl rfl rfl rfl (by decide) (ro_cons (Or.inl r0) ro_nil) dX12_spells_16 (fun u hu => ?_)
        obtain ⟨v2_2, rfl⟩ : ∃ z, z = u := ⟨_, rfl⟩
        have g_3 : mstP (tp f) e (chS i k) (ps v1 l) = ps v2_2 l ∧ kp v1 v2_2 := hu
        show V x cX12_spells RX12 3 (rmU 4 85 0 0) [(h, co 12 (mO ad v2_2))] 19 [(0, ar h), (1, ar (lK (xg x) i)), (2, ai k)] [] 0 0
        have hn_4 : PN e (ps v1 l) (mstP (tp f) e (chS i k) (ps v1 l)) := mstP_k (t := tp f) (by omega) _ ⟨by show 0 ≤ (v1 5); omega, by show (v1 5) ≤ e; omega, by show (v1 7) = 0 ∨ (v1 7) = 1; omega⟩
        rw [g_3.1] at hn_4
        have hn_4a : (0 ≤ v2_2 5 ∧ v2_2 5 ≤ e ∧ (v2_2 7 = 0 ∨ v2_2 7 = 1)) ∧ (v1 5) ≤ v2_2 5 ∧ (v1 5) - ((l.length : Nat) : Int) ≤ v2_2 5 - ((l.length : Nat) : Int) := hn_4
        have hn_4k4 : v2_2 4 = a := (g_3.2 4 (by decide) (by decide)).trans (by show (v1 4) = a; omega)
        have hn_4k6 : v2_2 6 = e := (g_3.2 6 (by decide) (by decide)).trans (by show (v1 6) = e; omega)
        have hn_4k8 : v2_2 8 = (v1 8) := (g_3.2 8 (by decide) (by decide)).trans (by show (v1 8) = (v1 8); omega)
        refine v_iinc (pc := 19) 2 (L2 := [(2, ai (k + 1)), (0, ar h), (1, ar (lK (xg x) i))]) rfl rfl (by decide) dX12_spells_19 ?_
        refine v_goto (pc := 22) 2 dX12_spells_22 (by decide) ?_
        refine v_sub (L2 := [(0, ar h), (1, ar (lK (xg x) i)), (2, ai (k + 1))]) [1, 2, 0] rfl ?_
        exact ih _ (by omega) (k + 1) v2_2 rfl (by omega) (by rw [show (k + 1).toNat = k.toNat + 1 by omega]; show mstP _ _ (chS i ((k.toNat : Nat) : Int)) (spl _ _ _ _ _) = _; rw [hs, show ((k.toNat : Nat) : Int) = k by omega]; exact g_3.1) (by exact kp_tr hkp g_3.2)
  refine v_sub (L2 := [(0, ar h), (1, ar (lK (xg x) i)), (2, ai 0)]) [1, 2, 0] rfl ?_
  exact lp2 _ 0 v rfl (by omega) (by rfl) (by exact kp_rf v)
set_option maxHeartbeats 4000000 in
set_option maxRecDepth 100000 in
theorem c_factor_w {gS : sG} (ad : Nat → Nat) (v : Nat → Int) (h : Nat) (f : Int → Int) (a : Int) (e : Int) (l : List Int) (h7 : v 7 = 1) : Ct gS (S := Unit) yX12_factor cX12_factor 5 none 0 0 0 0 [ar h] [(h, co 12 (mO ad v)), ((ad 1), cn 0 936 (wrS f a l))] (fun q => q ∈ ([] : aW)) (fun _ => True) (fun _ => none) (fun _ => [(h, co 12 (mO ad v)), ((ad 1), cn 0 936 (wrS f a l))]) := by
  refine ct_V RX12 [(0, ar h)] (by decide) rfl (Nat.le_of_ble_eq_true rfl) rfl (fun x hgS hnm hro hret => ?_)
  subst hgS
  show V x cX12_factor RX12 5 (rmU 0 0 0 0) [(h, co 12 (mO ad v)), ((ad 1), cn 0 936 (wrS f a l))] 0 [(0, ar h)] [] 0 0
  refine v_aload_n (pc := 0) 0 rfl dX12_factor_0 ?_
  refine v_get (pc := 1) (v := ai (v 7)) 7 (Or.inr ⟨0, rfl⟩) fl_12_51_12 rfl dX12_factor_1 ?_
  refine v_if_eq (pc := 4) 8 dX12_factor_4 (by decide) (by unfold iB; omega) (fun c_1 => ?_) (fun c_1 => ?_)
  · skip
    exfalso; omega
  · skip
    exact hret () _ _ _ _ _ trivial rfl rfl (Nat.le_of_ble_eq_true rfl) (Nat.le_of_ble_eq_true rfl) dX12_factor_7
set_option maxHeartbeats 4000000 in
set_option maxRecDepth 100000 in
theorem c_every_w {gS : sG} (ad : Nat → Nat) (v : Nat → Int) (h : Nat) (f : Int → Int) (a : Int) (e : Int) (l : List Int) (h7 : v 7 = 1) : Ct gS (S := Unit) yX12_every cX12_every 1 none 1 24 0 0 [ar h] [(h, co 12 (mO ad v)), ((ad 1), cn 0 936 (wrS f a l))] (fun q => q ∈ ([] : aW)) (fun _ => True) (fun _ => none) (fun _ => [(h, co 12 (mO ad v)), ((ad 1), cn 0 936 (wrS f a l))]) := by
  refine ct_V RX12 [(0, ar h)] (by decide) rfl (Nat.le_of_ble_eq_true rfl) rfl (fun x hgS hnm hro hret => ?_)
  subst hgS
  show V x cX12_every RX12 1 (rmU 1 24 0 0) [(h, co 12 (mO ad v)), ((ad 1), cn 0 936 (wrS f a l))] 0 [(0, ar h)] [] 0 0
  refine v_aload_n (pc := 0) 0 rfl dX12_every_0 ?_
  refine v_callV (pc := 1) [0, 1] [] [] (As := []) (rest := []) (c_factor_w ad v h f a e l (by show (v 7) = 1; omega)) (c := 12) rfl (Or.inr ⟨0, rfl⟩) wl_X12_78 wi_X12_factor wv_X12_X12_factor_X12_factor wk_X12_factor wz_X12 md_X12_factor rfl (Nat.le_of_ble_eq_true rfl) ⟨Nat.le_of_ble_eq_true rfl, Nat.le_of_ble_eq_true rfl, Nat.le_of_ble_eq_true rfl, Nat.le_of_ble_eq_true rfl⟩ rfl rfl rfl rfl (by decide) ro_nil dX12_every_1 (fun u hu => ?_)
  show V x cX12_every RX12 1 (rmU 1 24 0 0) [(h, co 12 (mO ad v)), ((ad 1), cn 0 936 (wrS f a l))] 4 [(0, ar h)] [] 0 0
  refine v_aload_n (pc := 4) 0 rfl dX12_every_4 ?_
  refine v_get (pc := 5) (v := ai (v 7)) 7 (Or.inr ⟨0, rfl⟩) fl_12_51_12 rfl dX12_every_5 ?_
  refine v_if_ne (pc := 8) 43 dX12_every_8 (by decide) (by unfold iB; omega) (fun c_1 => ?_) (fun c_1 => ?_)
  · skip
    exact hret () _ _ _ _ _ trivial rfl rfl (Nat.le_of_ble_eq_true rfl) (Nat.le_of_ble_eq_true rfl) dX12_every_43
  · skip
    exfalso; omega
set_option maxHeartbeats 4000000 in
set_option maxRecDepth 100000 in
theorem c_some_w {gS : sG} (ad : Nat → Nat) (v : Nat → Int) (h : Nat) (f : Int → Int) (a : Int) (e : Int) (l : List Int) (h7 : v 7 = 1) : Ct gS (S := Unit) yX12_some cX12_some 1 none 2 44 0 0 [ar h] [(h, co 12 (mO ad v)), ((ad 1), cn 0 936 (wrS f a l))] (fun q => q ∈ ([] : aW)) (fun _ => True) (fun _ => none) (fun _ => [(h, co 12 (mO ad v)), ((ad 1), cn 0 936 (wrS f a l))]) := by
  refine ct_V RX12 [(0, ar h)] (by decide) rfl (Nat.le_of_ble_eq_true rfl) rfl (fun x hgS hnm hro hret => ?_)
  subst hgS
  show V x cX12_some RX12 1 (rmU 2 44 0 0) [(h, co 12 (mO ad v)), ((ad 1), cn 0 936 (wrS f a l))] 0 [(0, ar h)] [] 0 0
  refine v_aload_n (pc := 0) 0 rfl dX12_some_0 ?_
  refine v_callV (pc := 1) [0, 1] [] [] (As := []) (rest := []) (c_every_w ad v h f a e l (by show (v 7) = 1; omega)) (c := 12) rfl (Or.inr ⟨0, rfl⟩) wl_X12_98 wi_X12_every wv_X12_X12_every_X12_every wk_X12_every wz_X12 md_X12_every rfl (Nat.le_of_ble_eq_true rfl) ⟨Nat.le_of_ble_eq_true rfl, Nat.le_of_ble_eq_true rfl, Nat.le_of_ble_eq_true rfl, Nat.le_of_ble_eq_true rfl⟩ rfl rfl rfl rfl (by decide) ro_nil dX12_some_1 (fun u hu => ?_)
  show V x cX12_some RX12 1 (rmU 2 44 0 0) [(h, co 12 (mO ad v)), ((ad 1), cn 0 936 (wrS f a l))] 4 [(0, ar h)] [] 0 0
  refine v_aload_n (pc := 4) 0 rfl dX12_some_4 ?_
  refine v_get (pc := 5) (v := ai (v 7)) 7 (Or.inr ⟨0, rfl⟩) fl_12_51_12 rfl dX12_some_5 ?_
  refine v_if_ne (pc := 8) 43 dX12_some_8 (by decide) (by unfold iB; omega) (fun c_1 => ?_) (fun c_1 => ?_)
  · skip
    exact hret () _ _ _ _ _ trivial rfl rfl (Nat.le_of_ble_eq_true rfl) (Nat.le_of_ble_eq_true rfl) dX12_some_43
  · skip
    exfalso; omega
set_option maxHeartbeats 4000000 in
set_option maxRecDepth 100000 in
theorem c_factor_0 {gS : sG} (ad : Nat → Nat) (v : Nat → Int) (h : Nat) (f : Int → Int) (a : Int) (e : Int) (l : List Int) (ha : 0 ≤ a ∧ a ≤ 4) (he : 0 ≤ e ∧ e ≤ 100) (hT : ∀ j : Int, 0 ≤ j → j < e → 0 ≤ f (121 + j) ∧ f (121 + j) ≤ 127) (h4 : v 4 = a) (h6 : v 6 = e) (hB : PB e (ps v l)) (hl : (l.length : Int) ≤ v 5) (h8 : v 8 = 5) : Ct gS (S := (Nat → Int) × List Int) yX12_factor cX12_factor 5 none 5 107 0 0 [ar h] [(h, co 12 (mO ad v)), ((ad 1), cn 0 936 (wrS f a l))] (fun q => q ∈ ([] : aW)) (fun u => fac (tp f) e 0 (ps v l) = ps u.1 u.2 ∧ kp v u.1) (fun u => none) (fun u => [(h, co 12 (mO ad u.1)), ((ad 1), cn 0 936 (wrS f a u.2))]) := by
  refine ct_V RX12 [(0, ar h)] (by decide) rfl (Nat.le_of_ble_eq_true rfl) rfl (fun x hgS hnm hro hret => ?_)
  subst hgS
  have hB1 : 0 ≤ v 5 := hB.1
  have hB2 : v 5 ≤ e := hB.2.1
  have hB3 : v 7 = 0 ∨ v 7 = 1 := hB.2.2
  show V x cX12_factor RX12 5 (rmU 5 107 0 0) [(h, co 12 (mO ad v)), ((ad 1), cn 0 936 (wrS f a l))] 0 [(0, ar h)] [] 0 0
  refine v_aload_n (pc := 0) 0 rfl dX12_factor_0 ?_
  refine v_get (pc := 1) (v := ai (v 7)) 7 (Or.inr ⟨0, rfl⟩) fl_12_51_12 rfl dX12_factor_1 ?_
  refine v_if_eq (pc := 4) 8 dX12_factor_4 (by decide) (by unfold iB; omega) (fun c_1 => ?_) (fun c_1 => ?_)
  · skip
    refine v_aload_n (pc := 8) 0 rfl dX12_factor_8 ?_
    refine v_callV (pc := 9) [] [0, 1] [(h, co 12 (mO ad v)), ((ad 1), cn 0 936 (wrS f a l))] (As := []) (rest := []) (c_X12_here ad v h f a e l (v 5) (by first | omega | assumption) (by first | omega | assumption) (by show (v 6) = e; omega) (by rfl) (by first | omega | assumption)) (c := 12) rfl (Or.inr ⟨0, rfl⟩) wl_X12_55 wi_X12_here wv_X12_X12_here_X12_here wk_X12_here wz_X12 md_X12_here rfl (Nat.le_of_ble_eq_true rfl) ⟨Nat.le_of_ble_eq_true rfl, Nat.le_of_ble_eq_true rfl, Nat.le_of_ble_eq_true rfl, Nat.le_of_ble_eq_true rfl⟩ rfl rfl rfl rfl (by decide) (ro_cons (Or.inr ⟨0, rfl, by decide⟩) (ro_cons (Or.inr ⟨1, rfl, by decide⟩) ro_nil)) dX12_factor_9 (fun u hu => ?_)
    show V x cX12_factor RX12 5 (rmU 5 107 0 0) [(h, co 12 (mO ad v)), ((ad 1), cn 0 936 (wrS f a l))] 12 [(0, ar h)] [ai (hrp (tp f) e (v 5))] 0 0
    have hb_2 := hrp_b (p := (v 5)) hT (by omega)
    refine v_istore_n (pc := 12) (L2 := [(1, ai (hrp (tp f) e (v 5))), (0, ar h)]) rfl (by decide) dX12_factor_12 ?_
    refine v_iload_n (pc := 13) 0 rfl dX12_factor_13 ?_
    refine v_bipush (pc := 14) dX12_factor_14 (by decide) ?_
    refine v_icmp_eq (pc := 16) 25 dX12_factor_16 (by decide) (by unfold iB; omega) (by unfold iB; omega) (fun c_3 => ?_) (fun c_3 => ?_)
    · skip
      refine v_aload_n (pc := 25) 1 rfl dX12_factor_25 ?_
      refine v_aload_n (pc := 26) 1 rfl dX12_factor_26 ?_
      refine v_get (pc := 27) (v := ai (v 8)) 8 (Or.inr ⟨0, rfl⟩) fl_12_75_12 rfl dX12_factor_27 ?_
      refine v_iconst (pc := 30) dX12_factor_30 ?_
      refine v_icmp_ne (pc := 31) 38 dX12_factor_31 (by decide) (by unfold iB; omega) (by unfold iB; omega) (fun c_4 => ?_) (fun c_4 => ?_)
      · skip
        exfalso; omega
      · skip
        refine v_iconst (pc := 34) dX12_factor_34 ?_
        refine v_goto (pc := 35) 39 dX12_factor_35 (by decide) ?_
        refine v_put (pc := 39) 7 0 rfl fl_12_51_12 ck_12 ft_12_7 okV_z1 (Nat.le_of_ble_eq_true rfl) (ws2 := [(h, co 12 (mO ad (nup v 7 1))), ((ad 1), cn 0 936 (wrS f a l))]) rfl dX12_factor_39 ?_
        refine v_aload_n (pc := 42) 1 rfl dX12_factor_42 ?_
        refine v_dup (pc := 43) rfl dX12_factor_43 ?_
        refine v_get (pc := 44) (v := ai (v 8)) 8 (Or.inr ⟨0, rfl⟩) fl_12_75_12 rfl dX12_factor_44 ?_
        refine v_iconst (pc := 47) dX12_factor_47 ?_
        refine v_iadd (pc := 48) dX12_factor_48 ?_
        refine v_put (pc := 49) 8 0 rfl fl_12_75_12 ck_12 ft_12_8 (okV_i _) (Nat.le_of_ble_eq_true rfl) (ws2 := [(h, co 12 (mO ad (nup (nup v 7 1) 8 ((v 8) + 1)))), ((ad 1), cn 0 936 (wrS f a l))]) rfl dX12_factor_49 ?_
        refine v_aload_n (pc := 52) 1 rfl dX12_factor_52 ?_
        refine v_dup (pc := 53) rfl dX12_factor_53 ?_
        refine v_get (pc := 54) (v := ai (v 5)) 5 (Or.inr ⟨0, rfl⟩) fl_12_45_12 rfl dX12_factor_54 ?_
        refine v_aload_n (pc := 57) 1 rfl dX12_factor_57 ?_
        refine v_get (pc := 58) (v := ai 1) 7 (Or.inr ⟨0, rfl⟩) fl_12_51_12 rfl dX12_factor_58 ?_
        refine v_if_eq (pc := 61) 68 dX12_factor_61 (by decide) (by unfold iB; omega) (fun c_5 => by exfalso; omega) (fun c_5 => ?_)
        refine v_iconst (pc := 64) dX12_factor_64 ?_
        refine v_goto (pc := 65) 69 dX12_factor_65 (by decide) ?_
        refine v_iadd (pc := 69) dX12_factor_69 ?_
        refine v_put (pc := 70) 5 0 rfl fl_12_45_12 ck_12 ft_12_5 (okV_i _) (Nat.le_of_ble_eq_true rfl) (ws2 := [(h, co 12 (mO ad (nup (nup (nup v 7 1) 8 ((v 8) + 1)) 5 ((v 5) + 0)))), ((ad 1), cn 0 936 (wrS f a l))]) rfl dX12_factor_70 ?_
        refine v_iload_n (pc := 73) 0 rfl dX12_factor_73 ?_
        refine v_bipush (pc := 74) dX12_factor_74 (by decide) ?_
        refine v_icmp_ne (pc := 76) 91 dX12_factor_76 (by decide) (by unfold iB; omega) (by unfold iB; omega) (fun c_6 => ?_) (fun c_6 => ?_)
        · skip
          exfalso; omega
        · skip
          refine v_aload_n (pc := 79) 1 rfl dX12_factor_79 ?_
          refine v_callV (pc := 80) [0, 1] [] [] (As := []) (rest := []) (c_factor_w ad (nup (nup (nup v 7 1) 8 ((v 8) + 1)) 5 ((v 5) + 0)) h f a e l (by show 1 = 1; omega)) (c := 12) rfl (Or.inr ⟨0, rfl⟩) wl_X12_78 wi_X12_factor wv_X12_X12_factor_X12_factor wk_X12_factor wz_X12 md_X12_factor rfl (Nat.le_of_ble_eq_true rfl) ⟨Nat.le_of_ble_eq_true rfl, Nat.le_of_ble_eq_true rfl, Nat.le_of_ble_eq_true rfl, Nat.le_of_ble_eq_true rfl⟩ rfl rfl rfl rfl (by decide) ro_nil dX12_factor_80 (fun u hu => ?_)
          show V x cX12_factor RX12 5 (rmU 5 107 0 0) [(h, co 12 (mO ad (nup (nup (nup v 7 1) 8 ((v 8) + 1)) 5 ((v 5) + 0)))), ((ad 1), cn 0 936 (wrS f a l))] 83 [(1, ai (hrp (tp f) e (v 5))), (0, ar h)] [] 0 0
          refine v_aload_n (pc := 83) 1 rfl dX12_factor_83 ?_
          refine v_iconst (pc := 84) dX12_factor_84 ?_
          refine v_callV (pc := 85) [1] [0] [(h, co 12 (mO ad (nup (nup (nup v 7 1) 8 ((v 8) + 1)) 5 ((v 5) + 0))))] (As := [ai (-1)]) (rest := []) (c_X12_emits ad (nup (nup (nup v 7 1) 8 ((v 8) + 1)) 5 ((v 5) + 0)) h f a e l (-1) (by first | omega | assumption) (by first | omega | assumption) (by exact hT) (by show (v 4) = a; omega) (by show (v 6) = e; omega) (by exact ⟨by show 0 ≤ ((v 5) + 0); omega, by show ((v 5) + 0) ≤ e; omega, by show 1 = 0 ∨ 1 = 1; omega⟩) (by show ((l.length : Nat) : Int) ≤ 139; omega)) (c := 12) rfl (Or.inr ⟨0, rfl⟩) wl_X12_81 wi_X12_emits wv_X12_X12_emits_X12_emits wk_X12_emits wz_X12 md_X12_emits rfl (Nat.le_of_ble_eq_true rfl) ⟨Nat.le_of_ble_eq_true rfl, Nat.le_of_ble_eq_true rfl, Nat.le_of_ble_eq_true rfl, Nat.le_of_ble_eq_true rfl⟩ rfl rfl rfl rfl (by decide) (ro_cons (Or.inr ⟨0, rfl, by decide⟩) ro_nil) dX12_factor_85 (fun u hu => ?_)
          obtain ⟨l2_7, rfl⟩ : ∃ z, z = u := ⟨_, rfl⟩
          have g_8 : emi (-1) (ps (nup (nup (nup v 7 1) 8 ((v 8) + 1)) 5 ((v 5) + 0)) l) = ps (nup (nup (nup v 7 1) 8 ((v 8) + 1)) 5 ((v 5) + 0)) l2_7 := hu
          show V x cX12_factor RX12 5 (rmU 5 107 0 0) [(h, co 12 (mO ad (nup (nup (nup v 7 1) 8 ((v 8) + 1)) 5 ((v 5) + 0)))), ((ad 1), cn 0 936 (wrS f a l2_7))] 88 [(1, ai (hrp (tp f) e (v 5))), (0, ar h)] [] 0 0
          refine v_goto (pc := 88) 101 dX12_factor_88 (by decide) ?_
          refine v_aload_n (pc := 101) 1 rfl dX12_factor_101 ?_
          refine v_dup (pc := 102) rfl dX12_factor_102 ?_
          refine v_get (pc := 103) (v := ai ((v 8) + 1)) 8 (Or.inr ⟨0, rfl⟩) fl_12_75_12 rfl dX12_factor_103 ?_
          refine v_iconst (pc := 106) dX12_factor_106 ?_
          refine v_isub (pc := 107) dX12_factor_107 ?_
          refine v_put (pc := 108) 8 0 rfl fl_12_75_12 ck_12 ft_12_8 (okV_i _) (Nat.le_of_ble_eq_true rfl) (ws2 := [(h, co 12 (mO ad (nup (nup (nup (nup v 7 1) 8 ((v 8) + 1)) 5 ((v 5) + 0)) 8 (((v 8) + 1) - 1)))), ((ad 1), cn 0 936 (wrS f a l2_7))]) rfl dX12_factor_108 ?_
          exact hret ((nup (nup (nup (nup v 7 1) 8 ((v 8) + 1)) 5 ((v 5) + 0)) 8 (((v 8) + 1) - 1)), l2_7) _ _ _ _ _ (by exact ⟨by rw [emi_w (by show ¬ (1 : Int) = 0; decide) g_8]; exact fac_bad (by omega) (by omega) (by show v 5 + 0 = v 5; omega) rfl, kp_80⟩) rfl rfl (Nat.le_of_ble_eq_true rfl) (Nat.le_of_ble_eq_true rfl) dX12_factor_111
    · skip
      refine v_iload_n (pc := 19) 0 rfl dX12_factor_19 ?_
      refine v_bipush (pc := 20) dX12_factor_20 (by decide) ?_
      refine v_icmp_ne (pc := 22) 112 dX12_factor_22 (by decide) (by unfold iB; omega) (by unfold iB; omega) (fun c_9 => ?_) (fun c_9 => ?_)
      · skip
        refine v_aload_n (pc := 112) 1 rfl dX12_factor_112 ?_
        refine v_ldcS (pc := 113) (q := ("MatFlipModel", 87, "pkngsy", 7)) (List.mem_of_getElem? (i := 12) rfl) rfl dX12_factor_113 ?_
        refine v_callV (pc := 115) [0] [1] [((ad 1), cn 0 936 (wrS f a l))] (As := [ar (lK (xg x) 7)]) (rest := []) (c_X12_among ad v h f a e l 7 (by first | omega | assumption) (by first | omega | assumption) (by exact hT) (by show (v 4) = a; omega) (by show (v 6) = e; omega) (by exact ⟨by show 0 ≤ (v 5); omega, by show (v 5) ≤ e; omega, by show (v 7) = 0 ∨ (v 7) = 1; omega⟩) (by first | omega | assumption)) (c := 12) rfl (Or.inr ⟨0, rfl⟩) wl_X12_89 wi_X12_among wv_X12_X12_among_X12_among wk_X12_among wz_X12 md_X12_among rfl (Nat.le_of_ble_eq_true rfl) ⟨Nat.le_of_ble_eq_true rfl, Nat.le_of_ble_eq_true rfl, Nat.le_of_ble_eq_true rfl, Nat.le_of_ble_eq_true rfl⟩ rfl rfl rfl rfl (by decide) (ro_cons (Or.inr ⟨1, rfl, by decide⟩) ro_nil) dX12_factor_115 (fun u hu => ?_)
        obtain ⟨v2_10, rfl⟩ : ∃ z, z = u := ⟨_, rfl⟩
        have g_11 : (am (tp f) e 7 (ps v l)).2 = ps v2_10 l ∧ kp v v2_10 := hu
        show V x cX12_factor RX12 5 (rmU 5 107 0 0) [((ad 1), cn 0 936 (wrS f a l)), (h, co 12 (mO ad v2_10))] 118 [(1, ai (hrp (tp f) e (v 5))), (0, ar h)] [ai ((am (tp f) e 7 (ps v l)).1)] 0 0
        obtain ⟨hb7a, hb7b, -, -⟩ := am_b (t := tp f) (e := e) (i := 7) (s := ps v l) (by decide)
        have hl7 := len_b (i := 7) (by decide)
        have h77 : v2_10 7 = v 7 := by have q := am_7 (t := tp f) (e := e) (i := 7) (s := ps v l); rw [g_11.1] at q; exact congrArg Prod.fst q
        have hn_12 : PN e (ps v l) ((am (tp f) e 7 (ps v l)).2) := am_k (t := tp f) (by omega) _ ⟨by show 0 ≤ (v 5); omega, by show (v 5) ≤ e; omega, by show (v 7) = 0 ∨ (v 7) = 1; omega⟩
        rw [g_11.1] at hn_12
        have hn_12a : (0 ≤ v2_10 5 ∧ v2_10 5 ≤ e ∧ (v2_10 7 = 0 ∨ v2_10 7 = 1)) ∧ (v 5) ≤ v2_10 5 ∧ (v 5) - ((l.length : Nat) : Int) ≤ v2_10 5 - ((l.length : Nat) : Int) := hn_12
        have hn_12k4 : v2_10 4 = a := (g_11.2 4 (by decide) (by decide)).trans (by show (v 4) = a; omega)
        have hn_12k6 : v2_10 6 = e := (g_11.2 6 (by decide) (by decide)).trans (by show (v 6) = e; omega)
        have hn_12k8 : v2_10 8 = (v 8) := (g_11.2 8 (by decide) (by decide)).trans (by show (v 8) = (v 8); omega)
        refine v_istore_n (pc := 118) (L2 := [(2, ai ((am (tp f) e 7 (ps v l)).1)), (1, ai (hrp (tp f) e (v 5))), (0, ar h)]) rfl (by decide) dX12_factor_118 ?_
        refine v_aload_n (pc := 119) 2 rfl dX12_factor_119 ?_
        refine v_iload_n (pc := 120) 0 rfl dX12_factor_120 ?_
        refine v_iconst (pc := 121) dX12_factor_121 ?_
        refine v_icmp_ne (pc := 122) 129 dX12_factor_122 (by decide) (by unfold iB; omega) (by unfold iB; omega) (fun c_13 => ?_) (fun c_13 => ?_)
        · skip
          refine v_iconst (pc := 129) dX12_factor_129 ?_
          refine v_put (pc := 130) 7 1 rfl fl_12_51_12 ck_12 ft_12_7 okV_z0 (Nat.le_of_ble_eq_true rfl) (ws2 := [((ad 1), cn 0 936 (wrS f a l)), (h, co 12 (mO ad (nup v2_10 7 0)))]) rfl dX12_factor_130 ?_
          refine v_aload_n (pc := 133) 2 rfl dX12_factor_133 ?_
          refine v_get (pc := 134) (v := ai 0) 7 (Or.inr ⟨1, rfl⟩) fl_12_51_12 rfl dX12_factor_134 ?_
          refine v_if_eq (pc := 137) 144 dX12_factor_137 (by decide) (by unfold iB; omega) (fun c_14 => ?_) (fun c_14 => by exfalso; omega)
          refine v_aload_n (pc := 144) 2 rfl dX12_factor_144 ?_
          refine v_ldcS (pc := 145) (q := ("MatFlipModel", 93, "<=>", 8)) (List.mem_of_getElem? (i := 13) rfl) rfl dX12_factor_145 ?_
          refine v_callV (pc := 147) [1] [0] [((ad 1), cn 0 936 (wrS f a l))] (As := [ar (lK (xg x) 8)]) (rest := []) (c_X12_among ad (nup v2_10 7 0) h f a e l 8 (by first | omega | assumption) (by first | omega | assumption) (by exact hT) (by show (v2_10 4) = a; omega) (by show (v2_10 6) = e; omega) (by exact ⟨by show 0 ≤ (v2_10 5); omega, by show (v2_10 5) ≤ e; omega, by show 0 = 0 ∨ 0 = 1; omega⟩) (by first | omega | assumption)) (c := 12) rfl (Or.inr ⟨1, rfl⟩) wl_X12_89 wi_X12_among wv_X12_X12_among_X12_among wk_X12_among wz_X12 md_X12_among rfl (Nat.le_of_ble_eq_true rfl) ⟨Nat.le_of_ble_eq_true rfl, Nat.le_of_ble_eq_true rfl, Nat.le_of_ble_eq_true rfl, Nat.le_of_ble_eq_true rfl⟩ rfl rfl rfl rfl (by decide) (ro_cons (Or.inr ⟨0, rfl, by decide⟩) ro_nil) dX12_factor_147 (fun u hu => ?_)
          obtain ⟨v2_15, rfl⟩ : ∃ z, z = u := ⟨_, rfl⟩
          have g_16 : (am (tp f) e 8 (ps (nup v2_10 7 0) l)).2 = ps v2_15 l ∧ kp (nup v2_10 7 0) v2_15 := hu
          show V x cX12_factor RX12 5 (rmU 5 107 0 0) [((ad 1), cn 0 936 (wrS f a l)), (h, co 12 (mO ad v2_15))] 150 [(2, ai ((am (tp f) e 7 (ps v l)).1)), (1, ai (hrp (tp f) e (v 5))), (0, ar h)] [ai ((am (tp f) e 8 (ps (nup v2_10 7 0) l)).1)] 0 0
          obtain ⟨hb8a, hb8b, -, -⟩ := am_b (t := tp f) (e := e) (i := 8) (s := (ps (nup v2_10 7 0) l)) (by decide)
          have hl8 := len_b (i := 8) (by decide)
          have h87 : v2_15 7 = 0 := by have q := am_7 (t := tp f) (e := e) (i := 8) (s := (ps (nup v2_10 7 0) l)); rw [g_16.1] at q; exact congrArg Prod.fst q
          have hn_17 : PN e (ps (nup v2_10 7 0) l) ((am (tp f) e 8 (ps (nup v2_10 7 0) l)).2) := am_k (t := tp f) (by omega) _ ⟨by show 0 ≤ (v2_10 5); omega, by show (v2_10 5) ≤ e; omega, by show 0 = 0 ∨ 0 = 1; omega⟩
          rw [g_16.1] at hn_17
          have hn_17a : (0 ≤ v2_15 5 ∧ v2_15 5 ≤ e ∧ (v2_15 7 = 0 ∨ v2_15 7 = 1)) ∧ (v2_10 5) ≤ v2_15 5 ∧ (v2_10 5) - ((l.length : Nat) : Int) ≤ v2_15 5 - ((l.length : Nat) : Int) := hn_17
          have hn_17k4 : v2_15 4 = a := (g_16.2 4 (by decide) (by decide)).trans (by show (v2_10 4) = a; omega)
          have hn_17k6 : v2_15 6 = e := (g_16.2 6 (by decide) (by decide)).trans (by show (v2_10 6) = e; omega)
          have hn_17k8 : v2_15 8 = (v2_10 8) := (g_16.2 8 (by decide) (by decide)).trans (by show (v2_10 8) = (v2_10 8); omega)
          refine v_istore_n (pc := 150) (L2 := [(3, ai ((am (tp f) e 8 (ps (nup v2_10 7 0) l)).1)), (2, ai ((am (tp f) e 7 (ps v l)).1)), (1, ai (hrp (tp f) e (v 5))), (0, ar h)]) rfl (by decide) dX12_factor_150 ?_
          refine v_aload_n (pc := 151) 3 rfl dX12_factor_151 ?_
          refine v_aload_n (pc := 152) 3 rfl dX12_factor_152 ?_
          refine v_get (pc := 153) (v := ai (v2_15 7)) 7 (Or.inr ⟨1, rfl⟩) fl_12_51_12 rfl dX12_factor_153 ?_
          refine v_if_ne (pc := 156) 164 dX12_factor_156 (by decide) (by unfold iB; omega) (fun c_18 => ?_) (fun c_18 => ?_)
          · skip
            exfalso; omega
          · skip
            refine v_iload_n (pc := 159) 0 rfl dX12_factor_159 ?_
            refine v_iconst (pc := 160) dX12_factor_160 ?_
            refine v_icmp_ne (pc := 161) 168 dX12_factor_161 (by decide) (by unfold iB; omega) (by unfold iB; omega) (fun c_19 => ?_) (fun c_19 => ?_)
            · skip
              refine v_iconst (pc := 168) dX12_factor_168 ?_
              refine v_put (pc := 169) 7 1 rfl fl_12_51_12 ck_12 ft_12_7 okV_z0 (Nat.le_of_ble_eq_true rfl) (ws2 := [((ad 1), cn 0 936 (wrS f a l)), (h, co 12 (mO ad (nup v2_15 7 0)))]) rfl dX12_factor_169 ?_
              refine v_aload_n (pc := 172) 3 rfl dX12_factor_172 ?_
              refine v_callV (pc := 173) [1] [0] [((ad 1), cn 0 936 (wrS f a l))] (As := []) (rest := []) (c_X12_figures ad (nup v2_15 7 0) h f a e l (by first | omega | assumption) (by first | omega | assumption) (by exact hT) (by show (v2_15 4) = a; omega) (by show (v2_15 6) = e; omega) (by exact ⟨by show 0 ≤ (v2_15 5); omega, by show (v2_15 5) ≤ e; omega, by show 0 = 0 ∨ 0 = 1; omega⟩)) (c := 12) rfl (Or.inr ⟨1, rfl⟩) wl_X12_95 wi_X12_figures wv_X12_X12_figures_X12_figures wk_X12_figures wz_X12 md_X12_figures rfl (Nat.le_of_ble_eq_true rfl) ⟨Nat.le_of_ble_eq_true rfl, Nat.le_of_ble_eq_true rfl, Nat.le_of_ble_eq_true rfl, Nat.le_of_ble_eq_true rfl⟩ rfl rfl rfl rfl (by decide) (ro_cons (Or.inr ⟨0, rfl, by decide⟩) ro_nil) dX12_factor_173 (fun u hu => ?_)
              obtain ⟨v2_20, rfl⟩ : ∃ z, z = u := ⟨_, rfl⟩
              have g_21 : (fig (tp f) e (ps (nup v2_15 7 0) l)).2 = ps v2_20 l ∧ kp (nup v2_15 7 0) v2_20 := hu
              show V x cX12_factor RX12 5 (rmU 5 107 0 0) [((ad 1), cn 0 936 (wrS f a l)), (h, co 12 (mO ad v2_20))] 176 [(3, ai ((am (tp f) e 8 (ps (nup v2_10 7 0) l)).1)), (2, ai ((am (tp f) e 7 (ps v l)).1)), (1, ai (hrp (tp f) e (v 5))), (0, ar h)] [ai ((fig (tp f) e (ps (nup v2_15 7 0) l)).1)] 0 0
              have hn_22 : PN e (ps (nup v2_15 7 0) l) ((fig (tp f) e (ps (nup v2_15 7 0) l)).2) := fig_k (t := tp f) _ ⟨by show 0 ≤ (v2_15 5); omega, by show (v2_15 5) ≤ e; omega, by show 0 = 0 ∨ 0 = 1; omega⟩
              rw [g_21.1] at hn_22
              have hn_22a : (0 ≤ v2_20 5 ∧ v2_20 5 ≤ e ∧ (v2_20 7 = 0 ∨ v2_20 7 = 1)) ∧ (v2_15 5) ≤ v2_20 5 ∧ (v2_15 5) - ((l.length : Nat) : Int) ≤ v2_20 5 - ((l.length : Nat) : Int) := hn_22
              have hn_22k4 : v2_20 4 = a := (g_21.2 4 (by decide) (by decide)).trans (by show (v2_15 4) = a; omega)
              have hn_22k6 : v2_20 6 = e := (g_21.2 6 (by decide) (by decide)).trans (by show (v2_15 6) = e; omega)
              have hn_22k8 : v2_20 8 = (v2_15 8) := (g_21.2 8 (by decide) (by decide)).trans (by show (v2_15 8) = (v2_15 8); omega)
              refine v_istore (pc := 176) (L2 := [(4, ai ((fig (tp f) e (ps (nup v2_15 7 0) l)).1)), (3, ai ((am (tp f) e 8 (ps (nup v2_10 7 0) l)).1)), (2, ai ((am (tp f) e 7 (ps v l)).1)), (1, ai (hrp (tp f) e (v 5))), (0, ar h)]) rfl (by decide) dX12_factor_176 ?_
              refine v_aload_n (pc := 178) 4 rfl dX12_factor_178 ?_
              refine v_iload_n (pc := 179) 2 rfl dX12_factor_179 ?_
              refine v_bipush (pc := 180) dX12_factor_180 (by decide) ?_
              refine v_iload_n (pc := 182) 1 rfl dX12_factor_182 ?_
              refine v_imul (pc := 183) dX12_factor_183 ?_
              refine v_iadd (pc := 184) dX12_factor_184 ?_
              refine v_bipush (pc := 185) dX12_factor_185 (by decide) ?_
              refine v_iload (pc := 187) 0 rfl dX12_factor_187 ?_
              refine v_imul (pc := 189) dX12_factor_189 ?_
              refine v_iadd (pc := 190) dX12_factor_190 ?_
              refine v_callV (pc := 191) [0] [1] [(h, co 12 (mO ad v2_20))] (As := [ai (((am (tp f) e 7 (ps v l)).1 + (8 * (am (tp f) e 8 (ps (nup v2_10 7 0) l)).1)) + (32 * (fig (tp f) e (ps (nup v2_15 7 0) l)).1))]) (rest := []) (c_X12_emits ad v2_20 h f a e l (((am (tp f) e 7 (ps v l)).1 + (8 * (am (tp f) e 8 (ps (nup v2_10 7 0) l)).1)) + (32 * (fig (tp f) e (ps (nup v2_15 7 0) l)).1)) (by first | omega | assumption) (by first | omega | assumption) (by exact hT) (by show (v2_20 4) = a; omega) (by show (v2_20 6) = e; omega) (by exact ⟨by show 0 ≤ (v2_20 5); omega, by show (v2_20 5) ≤ e; omega, by show (v2_20 7) = 0 ∨ (v2_20 7) = 1; omega⟩) (by show ((l.length : Nat) : Int) ≤ 139; omega)) (c := 12) rfl (Or.inr ⟨1, rfl⟩) wl_X12_81 wi_X12_emits wv_X12_X12_emits_X12_emits wk_X12_emits wz_X12 md_X12_emits rfl (Nat.le_of_ble_eq_true rfl) ⟨Nat.le_of_ble_eq_true rfl, Nat.le_of_ble_eq_true rfl, Nat.le_of_ble_eq_true rfl, Nat.le_of_ble_eq_true rfl⟩ rfl rfl rfl rfl (by decide) (ro_cons (Or.inr ⟨1, rfl, by decide⟩) ro_nil) dX12_factor_191 (fun u hu => ?_)
              obtain ⟨l2_23, rfl⟩ : ∃ z, z = u := ⟨_, rfl⟩
              have g_24 : emi (((am (tp f) e 7 (ps v l)).1 + (8 * (am (tp f) e 8 (ps (nup v2_10 7 0) l)).1)) + (32 * (fig (tp f) e (ps (nup v2_15 7 0) l)).1)) (ps v2_20 l) = ps v2_20 l2_23 := hu
              show V x cX12_factor RX12 5 (rmU 5 107 0 0) [(h, co 12 (mO ad v2_20)), ((ad 1), cn 0 936 (wrS f a l2_23))] 194 [(4, ai ((fig (tp f) e (ps (nup v2_15 7 0) l)).1)), (3, ai ((am (tp f) e 8 (ps (nup v2_10 7 0) l)).1)), (2, ai ((am (tp f) e 7 (ps v l)).1)), (1, ai (hrp (tp f) e (v 5))), (0, ar h)] [] 0 0
              have ha1 : am (tp f) e 7 (ps v l) = ((am (tp f) e 7 (ps v l)).1, ps v2_10 l) := pr_of g_11.1
              have hb1 : (if (am (tp f) e 7 (ps v l)).1 = -1 then bad (ps v2_10 l) else ps v2_10 l) = ps (nup v2_10 7 0) l := by rw [if_neg (by omega)]; exact ps_70 (by omega)
              have ha2 : tsB (tp f) e (ps (nup v2_10 7 0) l) = ((am (tp f) e 8 (ps (nup v2_10 7 0) l)).1, ps v2_15 l) := (if_pos rfl).trans (pr_of g_16.1)
              have hb2 : (if (am (tp f) e 8 (ps (nup v2_10 7 0) l)).1 = -1 then bad (ps v2_15 l) else ps v2_15 l) = ps (nup v2_15 7 0) l := by first | (rw [if_pos (by omega)]; done) | (rw [if_pos (by omega)]; rfl) | (rw [if_neg (by omega)]; exact ps_70 (by omega))
              have ha3 : fig (tp f) e (ps (nup v2_15 7 0) l) = ((fig (tp f) e (ps (nup v2_15 7 0) l)).1, ps v2_20 l) := pr_of g_21.1
              exact hret (v2_20, l2_23) _ _ _ _ _ (by exact ⟨fac_tst (by omega) (by omega) (by omega) (tsp_of ha1 hb1 ha2 hb2 ha3 g_24), kp_tr (kp_7 (kp_tr (kp_7 g_11.2) g_16.2)) g_21.2⟩) rfl rfl (Nat.le_of_ble_eq_true rfl) (Nat.le_of_ble_eq_true rfl) dX12_factor_194
            · skip
              refine v_iconst (pc := 164) dX12_factor_164 ?_
              refine v_goto (pc := 165) 169 dX12_factor_165 (by decide) ?_
              refine v_put (pc := 169) 7 1 rfl fl_12_51_12 ck_12 ft_12_7 okV_z1 (Nat.le_of_ble_eq_true rfl) (ws2 := [((ad 1), cn 0 936 (wrS f a l)), (h, co 12 (mO ad (nup v2_15 7 1)))]) rfl dX12_factor_169 ?_
              refine v_aload_n (pc := 172) 3 rfl dX12_factor_172 ?_
              refine v_callV (pc := 173) [1] [0] [((ad 1), cn 0 936 (wrS f a l))] (As := []) (rest := []) (c_X12_figures ad (nup v2_15 7 1) h f a e l (by first | omega | assumption) (by first | omega | assumption) (by exact hT) (by show (v2_15 4) = a; omega) (by show (v2_15 6) = e; omega) (by exact ⟨by show 0 ≤ (v2_15 5); omega, by show (v2_15 5) ≤ e; omega, by show 1 = 0 ∨ 1 = 1; omega⟩)) (c := 12) rfl (Or.inr ⟨1, rfl⟩) wl_X12_95 wi_X12_figures wv_X12_X12_figures_X12_figures wk_X12_figures wz_X12 md_X12_figures rfl (Nat.le_of_ble_eq_true rfl) ⟨Nat.le_of_ble_eq_true rfl, Nat.le_of_ble_eq_true rfl, Nat.le_of_ble_eq_true rfl, Nat.le_of_ble_eq_true rfl⟩ rfl rfl rfl rfl (by decide) (ro_cons (Or.inr ⟨0, rfl, by decide⟩) ro_nil) dX12_factor_173 (fun u hu => ?_)
              obtain ⟨v2_25, rfl⟩ : ∃ z, z = u := ⟨_, rfl⟩
              have g_26 : (fig (tp f) e (ps (nup v2_15 7 1) l)).2 = ps v2_25 l ∧ kp (nup v2_15 7 1) v2_25 := hu
              show V x cX12_factor RX12 5 (rmU 5 107 0 0) [((ad 1), cn 0 936 (wrS f a l)), (h, co 12 (mO ad v2_25))] 176 [(3, ai ((am (tp f) e 8 (ps (nup v2_10 7 0) l)).1)), (2, ai ((am (tp f) e 7 (ps v l)).1)), (1, ai (hrp (tp f) e (v 5))), (0, ar h)] [ai ((fig (tp f) e (ps (nup v2_15 7 1) l)).1)] 0 0
              have hn_27 : PN e (ps (nup v2_15 7 1) l) ((fig (tp f) e (ps (nup v2_15 7 1) l)).2) := fig_k (t := tp f) _ ⟨by show 0 ≤ (v2_15 5); omega, by show (v2_15 5) ≤ e; omega, by show 1 = 0 ∨ 1 = 1; omega⟩
              rw [g_26.1] at hn_27
              have hn_27a : (0 ≤ v2_25 5 ∧ v2_25 5 ≤ e ∧ (v2_25 7 = 0 ∨ v2_25 7 = 1)) ∧ (v2_15 5) ≤ v2_25 5 ∧ (v2_15 5) - ((l.length : Nat) : Int) ≤ v2_25 5 - ((l.length : Nat) : Int) := hn_27
              have hn_27k4 : v2_25 4 = a := (g_26.2 4 (by decide) (by decide)).trans (by show (v2_15 4) = a; omega)
              have hn_27k6 : v2_25 6 = e := (g_26.2 6 (by decide) (by decide)).trans (by show (v2_15 6) = e; omega)
              have hn_27k8 : v2_25 8 = (v2_15 8) := (g_26.2 8 (by decide) (by decide)).trans (by show (v2_15 8) = (v2_15 8); omega)
              refine v_istore (pc := 176) (L2 := [(4, ai ((fig (tp f) e (ps (nup v2_15 7 1) l)).1)), (3, ai ((am (tp f) e 8 (ps (nup v2_10 7 0) l)).1)), (2, ai ((am (tp f) e 7 (ps v l)).1)), (1, ai (hrp (tp f) e (v 5))), (0, ar h)]) rfl (by decide) dX12_factor_176 ?_
              refine v_aload_n (pc := 178) 4 rfl dX12_factor_178 ?_
              refine v_iload_n (pc := 179) 2 rfl dX12_factor_179 ?_
              refine v_bipush (pc := 180) dX12_factor_180 (by decide) ?_
              refine v_iload_n (pc := 182) 1 rfl dX12_factor_182 ?_
              refine v_imul (pc := 183) dX12_factor_183 ?_
              refine v_iadd (pc := 184) dX12_factor_184 ?_
              refine v_bipush (pc := 185) dX12_factor_185 (by decide) ?_
              refine v_iload (pc := 187) 0 rfl dX12_factor_187 ?_
              refine v_imul (pc := 189) dX12_factor_189 ?_
              refine v_iadd (pc := 190) dX12_factor_190 ?_
              refine v_callV (pc := 191) [0] [1] [(h, co 12 (mO ad v2_25))] (As := [ai (((am (tp f) e 7 (ps v l)).1 + (8 * (am (tp f) e 8 (ps (nup v2_10 7 0) l)).1)) + (32 * (fig (tp f) e (ps (nup v2_15 7 1) l)).1))]) (rest := []) (c_X12_emits ad v2_25 h f a e l (((am (tp f) e 7 (ps v l)).1 + (8 * (am (tp f) e 8 (ps (nup v2_10 7 0) l)).1)) + (32 * (fig (tp f) e (ps (nup v2_15 7 1) l)).1)) (by first | omega | assumption) (by first | omega | assumption) (by exact hT) (by show (v2_25 4) = a; omega) (by show (v2_25 6) = e; omega) (by exact ⟨by show 0 ≤ (v2_25 5); omega, by show (v2_25 5) ≤ e; omega, by show (v2_25 7) = 0 ∨ (v2_25 7) = 1; omega⟩) (by show ((l.length : Nat) : Int) ≤ 139; omega)) (c := 12) rfl (Or.inr ⟨1, rfl⟩) wl_X12_81 wi_X12_emits wv_X12_X12_emits_X12_emits wk_X12_emits wz_X12 md_X12_emits rfl (Nat.le_of_ble_eq_true rfl) ⟨Nat.le_of_ble_eq_true rfl, Nat.le_of_ble_eq_true rfl, Nat.le_of_ble_eq_true rfl, Nat.le_of_ble_eq_true rfl⟩ rfl rfl rfl rfl (by decide) (ro_cons (Or.inr ⟨1, rfl, by decide⟩) ro_nil) dX12_factor_191 (fun u hu => ?_)
              obtain ⟨l2_28, rfl⟩ : ∃ z, z = u := ⟨_, rfl⟩
              have g_29 : emi (((am (tp f) e 7 (ps v l)).1 + (8 * (am (tp f) e 8 (ps (nup v2_10 7 0) l)).1)) + (32 * (fig (tp f) e (ps (nup v2_15 7 1) l)).1)) (ps v2_25 l) = ps v2_25 l2_28 := hu
              show V x cX12_factor RX12 5 (rmU 5 107 0 0) [(h, co 12 (mO ad v2_25)), ((ad 1), cn 0 936 (wrS f a l2_28))] 194 [(4, ai ((fig (tp f) e (ps (nup v2_15 7 1) l)).1)), (3, ai ((am (tp f) e 8 (ps (nup v2_10 7 0) l)).1)), (2, ai ((am (tp f) e 7 (ps v l)).1)), (1, ai (hrp (tp f) e (v 5))), (0, ar h)] [] 0 0
              have ha1 : am (tp f) e 7 (ps v l) = ((am (tp f) e 7 (ps v l)).1, ps v2_10 l) := pr_of g_11.1
              have hb1 : (if (am (tp f) e 7 (ps v l)).1 = -1 then bad (ps v2_10 l) else ps v2_10 l) = ps (nup v2_10 7 0) l := by rw [if_neg (by omega)]; exact ps_70 (by omega)
              have ha2 : tsB (tp f) e (ps (nup v2_10 7 0) l) = ((am (tp f) e 8 (ps (nup v2_10 7 0) l)).1, ps v2_15 l) := (if_pos rfl).trans (pr_of g_16.1)
              have hb2 : (if (am (tp f) e 8 (ps (nup v2_10 7 0) l)).1 = -1 then bad (ps v2_15 l) else ps v2_15 l) = ps (nup v2_15 7 1) l := by first | (rw [if_pos (by omega)]; done) | (rw [if_pos (by omega)]; rfl) | (rw [if_neg (by omega)]; exact ps_70 (by omega))
              have ha3 : fig (tp f) e (ps (nup v2_15 7 1) l) = ((fig (tp f) e (ps (nup v2_15 7 1) l)).1, ps v2_25 l) := pr_of g_26.1
              exact hret (v2_25, l2_28) _ _ _ _ _ (by exact ⟨fac_tst (by omega) (by omega) (by omega) (tsp_of ha1 hb1 ha2 hb2 ha3 g_29), kp_tr (kp_7 (kp_tr (kp_7 g_11.2) g_16.2)) g_26.2⟩) rfl rfl (Nat.le_of_ble_eq_true rfl) (Nat.le_of_ble_eq_true rfl) dX12_factor_194
        · skip
          refine v_iconst (pc := 125) dX12_factor_125 ?_
          refine v_goto (pc := 126) 130 dX12_factor_126 (by decide) ?_
          refine v_put (pc := 130) 7 1 rfl fl_12_51_12 ck_12 ft_12_7 okV_z1 (Nat.le_of_ble_eq_true rfl) (ws2 := [((ad 1), cn 0 936 (wrS f a l)), (h, co 12 (mO ad (nup v2_10 7 1)))]) rfl dX12_factor_130 ?_
          refine v_aload_n (pc := 133) 2 rfl dX12_factor_133 ?_
          refine v_get (pc := 134) (v := ai 1) 7 (Or.inr ⟨1, rfl⟩) fl_12_51_12 rfl dX12_factor_134 ?_
          refine v_if_eq (pc := 137) 144 dX12_factor_137 (by decide) (by unfold iB; omega) (fun c_30 => by exfalso; omega) (fun c_30 => ?_)
          refine v_iconst (pc := 140) dX12_factor_140 ?_
          refine v_goto (pc := 141) 150 dX12_factor_141 (by decide) ?_
          refine v_istore_n (pc := 150) (L2 := [(3, ai 0), (2, ai ((am (tp f) e 7 (ps v l)).1)), (1, ai (hrp (tp f) e (v 5))), (0, ar h)]) rfl (by decide) dX12_factor_150 ?_
          refine v_aload_n (pc := 151) 3 rfl dX12_factor_151 ?_
          refine v_aload_n (pc := 152) 3 rfl dX12_factor_152 ?_
          refine v_get (pc := 153) (v := ai 1) 7 (Or.inr ⟨1, rfl⟩) fl_12_51_12 rfl dX12_factor_153 ?_
          refine v_if_ne (pc := 156) 164 dX12_factor_156 (by decide) (by unfold iB; omega) (fun c_31 => ?_) (fun c_31 => by exfalso; omega)
          refine v_iconst (pc := 164) dX12_factor_164 ?_
          refine v_goto (pc := 165) 169 dX12_factor_165 (by decide) ?_
          refine v_put (pc := 169) 7 1 rfl fl_12_51_12 ck_12 ft_12_7 okV_z1 (Nat.le_of_ble_eq_true rfl) (ws2 := [((ad 1), cn 0 936 (wrS f a l)), (h, co 12 (mO ad (nup (nup v2_10 7 1) 7 1)))]) rfl dX12_factor_169 ?_
          refine v_aload_n (pc := 172) 3 rfl dX12_factor_172 ?_
          refine v_callV (pc := 173) [1] [0] [((ad 1), cn 0 936 (wrS f a l))] (As := []) (rest := []) (c_X12_figures ad (nup (nup v2_10 7 1) 7 1) h f a e l (by first | omega | assumption) (by first | omega | assumption) (by exact hT) (by show (v2_10 4) = a; omega) (by show (v2_10 6) = e; omega) (by exact ⟨by show 0 ≤ (v2_10 5); omega, by show (v2_10 5) ≤ e; omega, by show 1 = 0 ∨ 1 = 1; omega⟩)) (c := 12) rfl (Or.inr ⟨1, rfl⟩) wl_X12_95 wi_X12_figures wv_X12_X12_figures_X12_figures wk_X12_figures wz_X12 md_X12_figures rfl (Nat.le_of_ble_eq_true rfl) ⟨Nat.le_of_ble_eq_true rfl, Nat.le_of_ble_eq_true rfl, Nat.le_of_ble_eq_true rfl, Nat.le_of_ble_eq_true rfl⟩ rfl rfl rfl rfl (by decide) (ro_cons (Or.inr ⟨0, rfl, by decide⟩) ro_nil) dX12_factor_173 (fun u hu => ?_)
          obtain ⟨v2_32, rfl⟩ : ∃ z, z = u := ⟨_, rfl⟩
          have g_33 : (fig (tp f) e (ps (nup (nup v2_10 7 1) 7 1) l)).2 = ps v2_32 l ∧ kp (nup (nup v2_10 7 1) 7 1) v2_32 := hu
          show V x cX12_factor RX12 5 (rmU 5 107 0 0) [((ad 1), cn 0 936 (wrS f a l)), (h, co 12 (mO ad v2_32))] 176 [(3, ai 0), (2, ai ((am (tp f) e 7 (ps v l)).1)), (1, ai (hrp (tp f) e (v 5))), (0, ar h)] [ai ((fig (tp f) e (ps (nup (nup v2_10 7 1) 7 1) l)).1)] 0 0
          have hn_34 : PN e (ps (nup (nup v2_10 7 1) 7 1) l) ((fig (tp f) e (ps (nup (nup v2_10 7 1) 7 1) l)).2) := fig_k (t := tp f) _ ⟨by show 0 ≤ (v2_10 5); omega, by show (v2_10 5) ≤ e; omega, by show 1 = 0 ∨ 1 = 1; omega⟩
          rw [g_33.1] at hn_34
          have hn_34a : (0 ≤ v2_32 5 ∧ v2_32 5 ≤ e ∧ (v2_32 7 = 0 ∨ v2_32 7 = 1)) ∧ (v2_10 5) ≤ v2_32 5 ∧ (v2_10 5) - ((l.length : Nat) : Int) ≤ v2_32 5 - ((l.length : Nat) : Int) := hn_34
          have hn_34k4 : v2_32 4 = a := (g_33.2 4 (by decide) (by decide)).trans (by show (v2_10 4) = a; omega)
          have hn_34k6 : v2_32 6 = e := (g_33.2 6 (by decide) (by decide)).trans (by show (v2_10 6) = e; omega)
          have hn_34k8 : v2_32 8 = (v2_10 8) := (g_33.2 8 (by decide) (by decide)).trans (by show (v2_10 8) = (v2_10 8); omega)
          refine v_istore (pc := 176) (L2 := [(4, ai ((fig (tp f) e (ps (nup (nup v2_10 7 1) 7 1) l)).1)), (3, ai 0), (2, ai ((am (tp f) e 7 (ps v l)).1)), (1, ai (hrp (tp f) e (v 5))), (0, ar h)]) rfl (by decide) dX12_factor_176 ?_
          refine v_aload_n (pc := 178) 4 rfl dX12_factor_178 ?_
          refine v_iload_n (pc := 179) 2 rfl dX12_factor_179 ?_
          refine v_bipush (pc := 180) dX12_factor_180 (by decide) ?_
          refine v_iload_n (pc := 182) 1 rfl dX12_factor_182 ?_
          refine v_imul (pc := 183) dX12_factor_183 ?_
          refine v_iadd (pc := 184) dX12_factor_184 ?_
          refine v_bipush (pc := 185) dX12_factor_185 (by decide) ?_
          refine v_iload (pc := 187) 0 rfl dX12_factor_187 ?_
          refine v_imul (pc := 189) dX12_factor_189 ?_
          refine v_iadd (pc := 190) dX12_factor_190 ?_
          refine v_callV (pc := 191) [0] [1] [(h, co 12 (mO ad v2_32))] (As := [ai (((am (tp f) e 7 (ps v l)).1 + (8 * 0)) + (32 * (fig (tp f) e (ps (nup (nup v2_10 7 1) 7 1) l)).1))]) (rest := []) (c_X12_emits ad v2_32 h f a e l (((am (tp f) e 7 (ps v l)).1 + (8 * 0)) + (32 * (fig (tp f) e (ps (nup (nup v2_10 7 1) 7 1) l)).1)) (by first | omega | assumption) (by first | omega | assumption) (by exact hT) (by show (v2_32 4) = a; omega) (by show (v2_32 6) = e; omega) (by exact ⟨by show 0 ≤ (v2_32 5); omega, by show (v2_32 5) ≤ e; omega, by show (v2_32 7) = 0 ∨ (v2_32 7) = 1; omega⟩) (by show ((l.length : Nat) : Int) ≤ 139; omega)) (c := 12) rfl (Or.inr ⟨1, rfl⟩) wl_X12_81 wi_X12_emits wv_X12_X12_emits_X12_emits wk_X12_emits wz_X12 md_X12_emits rfl (Nat.le_of_ble_eq_true rfl) ⟨Nat.le_of_ble_eq_true rfl, Nat.le_of_ble_eq_true rfl, Nat.le_of_ble_eq_true rfl, Nat.le_of_ble_eq_true rfl⟩ rfl rfl rfl rfl (by decide) (ro_cons (Or.inr ⟨1, rfl, by decide⟩) ro_nil) dX12_factor_191 (fun u hu => ?_)
          obtain ⟨l2_35, rfl⟩ : ∃ z, z = u := ⟨_, rfl⟩
          have g_36 : emi (((am (tp f) e 7 (ps v l)).1 + (8 * 0)) + (32 * (fig (tp f) e (ps (nup (nup v2_10 7 1) 7 1) l)).1)) (ps v2_32 l) = ps v2_32 l2_35 := hu
          show V x cX12_factor RX12 5 (rmU 5 107 0 0) [(h, co 12 (mO ad v2_32)), ((ad 1), cn 0 936 (wrS f a l2_35))] 194 [(4, ai ((fig (tp f) e (ps (nup (nup v2_10 7 1) 7 1) l)).1)), (3, ai 0), (2, ai ((am (tp f) e 7 (ps v l)).1)), (1, ai (hrp (tp f) e (v 5))), (0, ar h)] [] 0 0
          have ha1 : am (tp f) e 7 (ps v l) = ((am (tp f) e 7 (ps v l)).1, ps v2_10 l) := pr_of g_11.1
          have hb1 : (if (am (tp f) e 7 (ps v l)).1 = -1 then bad (ps v2_10 l) else ps v2_10 l) = ps (nup v2_10 7 1) l := by rw [if_pos (by omega)]; rfl
          have ha2 : tsB (tp f) e (ps (nup v2_10 7 1) l) = (0, ps (nup v2_10 7 1) l) := if_neg (by show ¬ (1 : Int) = 0; decide)
          have hb2 : (if 0 = -1 then bad (ps (nup v2_10 7 1) l) else ps (nup v2_10 7 1) l) = ps (nup (nup v2_10 7 1) 7 1) l := by rw [if_neg (by decide)]; rfl
          have ha3 : fig (tp f) e (ps (nup (nup v2_10 7 1) 7 1) l) = ((fig (tp f) e (ps (nup (nup v2_10 7 1) 7 1) l)).1, ps v2_32 l) := pr_of g_33.1
          exact hret (v2_32, l2_35) _ _ _ _ _ (by exact ⟨fac_tst (by omega) (by omega) (by omega) (tsp_of ha1 hb1 ha2 hb2 ha3 g_36), kp_tr (kp_7 (kp_7 g_11.2)) g_33.2⟩) rfl rfl (Nat.le_of_ble_eq_true rfl) (Nat.le_of_ble_eq_true rfl) dX12_factor_194
      · skip
        refine v_aload_n (pc := 25) 1 rfl dX12_factor_25 ?_
        refine v_aload_n (pc := 26) 1 rfl dX12_factor_26 ?_
        refine v_get (pc := 27) (v := ai (v 8)) 8 (Or.inr ⟨0, rfl⟩) fl_12_75_12 rfl dX12_factor_27 ?_
        refine v_iconst (pc := 30) dX12_factor_30 ?_
        refine v_icmp_ne (pc := 31) 38 dX12_factor_31 (by decide) (by unfold iB; omega) (by unfold iB; omega) (fun c_37 => ?_) (fun c_37 => ?_)
        · skip
          exfalso; omega
        · skip
          refine v_iconst (pc := 34) dX12_factor_34 ?_
          refine v_goto (pc := 35) 39 dX12_factor_35 (by decide) ?_
          refine v_put (pc := 39) 7 0 rfl fl_12_51_12 ck_12 ft_12_7 okV_z1 (Nat.le_of_ble_eq_true rfl) (ws2 := [(h, co 12 (mO ad (nup v 7 1))), ((ad 1), cn 0 936 (wrS f a l))]) rfl dX12_factor_39 ?_
          refine v_aload_n (pc := 42) 1 rfl dX12_factor_42 ?_
          refine v_dup (pc := 43) rfl dX12_factor_43 ?_
          refine v_get (pc := 44) (v := ai (v 8)) 8 (Or.inr ⟨0, rfl⟩) fl_12_75_12 rfl dX12_factor_44 ?_
          refine v_iconst (pc := 47) dX12_factor_47 ?_
          refine v_iadd (pc := 48) dX12_factor_48 ?_
          refine v_put (pc := 49) 8 0 rfl fl_12_75_12 ck_12 ft_12_8 (okV_i _) (Nat.le_of_ble_eq_true rfl) (ws2 := [(h, co 12 (mO ad (nup (nup v 7 1) 8 ((v 8) + 1)))), ((ad 1), cn 0 936 (wrS f a l))]) rfl dX12_factor_49 ?_
          refine v_aload_n (pc := 52) 1 rfl dX12_factor_52 ?_
          refine v_dup (pc := 53) rfl dX12_factor_53 ?_
          refine v_get (pc := 54) (v := ai (v 5)) 5 (Or.inr ⟨0, rfl⟩) fl_12_45_12 rfl dX12_factor_54 ?_
          refine v_aload_n (pc := 57) 1 rfl dX12_factor_57 ?_
          refine v_get (pc := 58) (v := ai 1) 7 (Or.inr ⟨0, rfl⟩) fl_12_51_12 rfl dX12_factor_58 ?_
          refine v_if_eq (pc := 61) 68 dX12_factor_61 (by decide) (by unfold iB; omega) (fun c_38 => by exfalso; omega) (fun c_38 => ?_)
          refine v_iconst (pc := 64) dX12_factor_64 ?_
          refine v_goto (pc := 65) 69 dX12_factor_65 (by decide) ?_
          refine v_iadd (pc := 69) dX12_factor_69 ?_
          refine v_put (pc := 70) 5 0 rfl fl_12_45_12 ck_12 ft_12_5 (okV_i _) (Nat.le_of_ble_eq_true rfl) (ws2 := [(h, co 12 (mO ad (nup (nup (nup v 7 1) 8 ((v 8) + 1)) 5 ((v 5) + 0)))), ((ad 1), cn 0 936 (wrS f a l))]) rfl dX12_factor_70 ?_
          refine v_iload_n (pc := 73) 0 rfl dX12_factor_73 ?_
          refine v_bipush (pc := 74) dX12_factor_74 (by decide) ?_
          refine v_icmp_ne (pc := 76) 91 dX12_factor_76 (by decide) (by unfold iB; omega) (by unfold iB; omega) (fun c_39 => ?_) (fun c_39 => ?_)
          · skip
            refine v_aload_n (pc := 91) 1 rfl dX12_factor_91 ?_
            refine v_callV (pc := 92) [0, 1] [] [] (As := []) (rest := []) (c_some_w ad (nup (nup (nup v 7 1) 8 ((v 8) + 1)) 5 ((v 5) + 0)) h f a e l (by show 1 = 1; omega)) (c := 12) rfl (Or.inr ⟨0, rfl⟩) wl_X12_84 wi_X12_some wv_X12_X12_some_X12_some wk_X12_some wz_X12 md_X12_some rfl (Nat.le_of_ble_eq_true rfl) ⟨Nat.le_of_ble_eq_true rfl, Nat.le_of_ble_eq_true rfl, Nat.le_of_ble_eq_true rfl, Nat.le_of_ble_eq_true rfl⟩ rfl rfl rfl rfl (by decide) ro_nil dX12_factor_92 (fun u hu => ?_)
            show V x cX12_factor RX12 5 (rmU 5 107 0 0) [(h, co 12 (mO ad (nup (nup (nup v 7 1) 8 ((v 8) + 1)) 5 ((v 5) + 0)))), ((ad 1), cn 0 936 (wrS f a l))] 95 [(1, ai (hrp (tp f) e (v 5))), (0, ar h)] [] 0 0
            refine v_aload_n (pc := 95) 1 rfl dX12_factor_95 ?_
            refine v_bipush (pc := 96) dX12_factor_96 (by decide) ?_
            refine v_callV (pc := 98) [0] [1] [((ad 1), cn 0 936 (wrS f a l))] (As := [ai 41]) (rest := []) (c_X12_must ad (nup (nup (nup v 7 1) 8 ((v 8) + 1)) 5 ((v 5) + 0)) h f a e l 41 (by first | omega | assumption) (by first | omega | assumption) (by exact hT) (by show (v 4) = a; omega) (by show (v 6) = e; omega) (by exact ⟨by show 0 ≤ ((v 5) + 0); omega, by show ((v 5) + 0) ≤ e; omega, by show 1 = 0 ∨ 1 = 1; omega⟩) (by first | omega | assumption)) (c := 12) rfl (Or.inr ⟨0, rfl⟩) wl_X12_68 wi_X12_must wv_X12_X12_must_X12_must wk_X12_must wz_X12 md_X12_must rfl (Nat.le_of_ble_eq_true rfl) ⟨Nat.le_of_ble_eq_true rfl, Nat.le_of_ble_eq_true rfl, Nat.le_of_ble_eq_true rfl, Nat.le_of_ble_eq_true rfl⟩ rfl rfl rfl rfl (by decide) (ro_cons (Or.inr ⟨1, rfl, by decide⟩) ro_nil) dX12_factor_98 (fun u hu => ?_)
            obtain ⟨v2_40, rfl⟩ : ∃ z, z = u := ⟨_, rfl⟩
            have g_41 : mstP (tp f) e 41 (ps (nup (nup (nup v 7 1) 8 ((v 8) + 1)) 5 ((v 5) + 0)) l) = ps v2_40 l ∧ kp (nup (nup (nup v 7 1) 8 ((v 8) + 1)) 5 ((v 5) + 0)) v2_40 := hu
            show V x cX12_factor RX12 5 (rmU 5 107 0 0) [((ad 1), cn 0 936 (wrS f a l)), (h, co 12 (mO ad v2_40))] 101 [(1, ai (hrp (tp f) e (v 5))), (0, ar h)] [] 0 0
            have hn_42 : PN e (ps (nup (nup (nup v 7 1) 8 ((v 8) + 1)) 5 ((v 5) + 0)) l) (mstP (tp f) e 41 (ps (nup (nup (nup v 7 1) 8 ((v 8) + 1)) 5 ((v 5) + 0)) l)) := mstP_k (t := tp f) (by omega) _ ⟨by show 0 ≤ ((v 5) + 0); omega, by show ((v 5) + 0) ≤ e; omega, by show 1 = 0 ∨ 1 = 1; omega⟩
            rw [g_41.1] at hn_42
            have hn_42a : (0 ≤ v2_40 5 ∧ v2_40 5 ≤ e ∧ (v2_40 7 = 0 ∨ v2_40 7 = 1)) ∧ ((v 5) + 0) ≤ v2_40 5 ∧ ((v 5) + 0) - ((l.length : Nat) : Int) ≤ v2_40 5 - ((l.length : Nat) : Int) := hn_42
            have hn_42k4 : v2_40 4 = a := (g_41.2 4 (by decide) (by decide)).trans (by show (v 4) = a; omega)
            have hn_42k6 : v2_40 6 = e := (g_41.2 6 (by decide) (by decide)).trans (by show (v 6) = e; omega)
            have hn_42k8 : v2_40 8 = ((v 8) + 1) := (g_41.2 8 (by decide) (by decide)).trans (by show ((v 8) + 1) = ((v 8) + 1); omega)
            refine v_aload_n (pc := 101) 1 rfl dX12_factor_101 ?_
            refine v_dup (pc := 102) rfl dX12_factor_102 ?_
            refine v_get (pc := 103) (v := ai (v2_40 8)) 8 (Or.inr ⟨1, rfl⟩) fl_12_75_12 rfl dX12_factor_103 ?_
            refine v_iconst (pc := 106) dX12_factor_106 ?_
            refine v_isub (pc := 107) dX12_factor_107 ?_
            refine v_put (pc := 108) 8 1 rfl fl_12_75_12 ck_12 ft_12_8 (okV_i _) (Nat.le_of_ble_eq_true rfl) (ws2 := [((ad 1), cn 0 936 (wrS f a l)), (h, co 12 (mO ad (nup v2_40 8 ((v2_40 8) - 1))))]) rfl dX12_factor_108 ?_
            refine v_wsub (ws2 := [(h, co 12 (mO ad (nup v2_40 8 ((v2_40 8) - 1)))), ((ad 1), cn 0 936 (wrS f a l))]) [1, 0] rfl rfl ?_
            exact hret ((nup v2_40 8 ((v2_40 8) - 1)), l) _ _ _ _ _ (by exact ⟨fac_bad (by omega) (by omega) (by show v2_40 5 = v 5; rw [(mstP_w (by show ¬ (1 : Int) = 0; decide) g_41.1).1]; show v 5 + 0 = v 5; omega) (by show v2_40 7 = 1; exact (mstP_w (by show ¬ (1 : Int) = 0; decide) g_41.1).2), kp_8 g_41.2⟩) rfl rfl (Nat.le_of_ble_eq_true rfl) (Nat.le_of_ble_eq_true rfl) dX12_factor_111
          · skip
            exfalso; omega
  · skip
    exact hret (v, l) _ _ _ _ _ (by exact ⟨fac_w (by omega), kp_rf v⟩) rfl rfl (Nat.le_of_ble_eq_true rfl) (Nat.le_of_ble_eq_true rfl) dX12_factor_7
set_option maxHeartbeats 4000000 in
set_option maxRecDepth 100000 in
theorem c_every_0 {gS : sG} (ad : Nat → Nat) (v : Nat → Int) (h : Nat) (f : Int → Int) (a : Int) (e : Int) (l : List Int) (ha : 0 ≤ a ∧ a ≤ 4) (he : 0 ≤ e ∧ e ≤ 100) (hT : ∀ j : Int, 0 ≤ j → j < e → 0 ≤ f (121 + j) ∧ f (121 + j) ≤ 127) (h4 : v 4 = a) (h6 : v 6 = e) (hB : PB e (ps v l)) (hl : (l.length : Int) ≤ v 5) (h8 : v 8 = 5) : Ct gS (S := (Nat → Int) × List Int) yX12_every cX12_every 1 none 6 131 0 0 [ar h] [(h, co 12 (mO ad v)), ((ad 1), cn 0 936 (wrS f a l))] (fun q => q ∈ ([] : aW)) (fun u => evP (tp f) e (fac (tp f) e 0) (ps v l) = ps u.1 u.2 ∧ kp v u.1) (fun u => none) (fun u => [(h, co 12 (mO ad u.1)), ((ad 1), cn 0 936 (wrS f a u.2))]) := by
  refine ct_V RX12 [(0, ar h)] (by decide) rfl (Nat.le_of_ble_eq_true rfl) rfl (fun x hgS hnm hro hret => ?_)
  subst hgS
  have hB1 : 0 ≤ v 5 := hB.1
  have hB2 : v 5 ≤ e := hB.2.1
  have hB3 : v 7 = 0 ∨ v 7 = 1 := hB.2.2
  show V x cX12_every RX12 1 (rmU 6 131 0 0) [(h, co 12 (mO ad v)), ((ad 1), cn 0 936 (wrS f a l))] 0 [(0, ar h)] [] 0 0
  refine v_aload_n (pc := 0) 0 rfl dX12_every_0 ?_
  refine v_callV (pc := 1) [0, 1] [] [] (As := []) (rest := []) (c_factor_0 ad v h f a e l (by first | omega | assumption) (by first | omega | assumption) (by exact hT) (by show (v 4) = a; omega) (by show (v 6) = e; omega) (by exact ⟨by show 0 ≤ (v 5); omega, by show (v 5) ≤ e; omega, by show (v 7) = 0 ∨ (v 7) = 1; omega⟩) (by show ((l.length : Nat) : Int) ≤ (v 5); omega) (by show (v 8) = _; omega)) (c := 12) rfl (Or.inr ⟨0, rfl⟩) wl_X12_78 wi_X12_factor wv_X12_X12_factor_X12_factor wk_X12_factor wz_X12 md_X12_factor rfl (Nat.le_of_ble_eq_true rfl) ⟨Nat.le_of_ble_eq_true rfl, Nat.le_of_ble_eq_true rfl, Nat.le_of_ble_eq_true rfl, Nat.le_of_ble_eq_true rfl⟩ rfl rfl rfl rfl (by decide) ro_nil dX12_every_1 (fun u hu => ?_)
  obtain ⟨v2_1, l2_2⟩ := u
  have g_3 : fac (tp f) e 0 (ps v l) = ps v2_1 l2_2 ∧ kp v v2_1 := hu
  show V x cX12_every RX12 1 (rmU 6 131 0 0) [(h, co 12 (mO ad v2_1)), ((ad 1), cn 0 936 (wrS f a l2_2))] 4 [(0, ar h)] [] 0 0
  have hn_4 : PN e (ps v l) (fac (tp f) e 0 (ps v l)) := fac_k (t := tp f) 0 _ ⟨by show 0 ≤ (v 5); omega, by show (v 5) ≤ e; omega, by show (v 7) = 0 ∨ (v 7) = 1; omega⟩
  rw [g_3.1] at hn_4
  have hn_4a : (0 ≤ v2_1 5 ∧ v2_1 5 ≤ e ∧ (v2_1 7 = 0 ∨ v2_1 7 = 1)) ∧ (v 5) ≤ v2_1 5 ∧ (v 5) - ((l.length : Nat) : Int) ≤ v2_1 5 - ((l2_2.length : Nat) : Int) := hn_4
  have hn_4k4 : v2_1 4 = a := (g_3.2 4 (by decide) (by decide)).trans (by show (v 4) = a; omega)
  have hn_4k6 : v2_1 6 = e := (g_3.2 6 (by decide) (by decide)).trans (by show (v 6) = e; omega)
  have hn_4k8 : v2_1 8 = (v 8) := (g_3.2 8 (by decide) (by decide)).trans (by show (v 8) = (v 8); omega)
  have lp4 : ∀ (mm : Nat) (v1 : Nat → Int) (l1 : List Int), (e - v1 5).toNat = mm → (lpP (tp f) e 38 (-2) (fac (tp f) e 0) 101 (ps v1 l1) = evP (tp f) e (fac (tp f) e 0) (ps v l)) → (kp v v1) → (0 ≤ v1 5 ∧ v1 5 ≤ e ∧ (v1 7 = 0 ∨ v1 7 = 1) ∧ (l1.length : Int) ≤ v1 5) → V x cX12_every RX12 1 (rmU 6 131 0 0) [(h, co 12 (mO ad v1)), ((ad 1), cn 0 936 (wrS f a l1))] 4 [(0, ar h)] [] 0 0 := by
    intro mm
    induction mm using Nat.strongRecOn with
    | _ mm ih =>
      intro v1 l1 hmm hrr hkp hb1
      have hk4 : v1 4 = a := (hkp 4 (by decide) (by decide)).trans h4
      have hk6 : v1 6 = e := (hkp 6 (by decide) (by decide)).trans h6
      have hk8 : v1 8 = v 8 := hkp 8 (by decide) (by decide)
      refine v_aload_n (pc := 4) 0 rfl dX12_every_4 ?_
      refine v_get (pc := 5) (v := ai (v1 7)) 7 (Or.inr ⟨0, rfl⟩) fl_12_51_12 rfl dX12_every_5 ?_
      refine v_if_ne (pc := 8) 43 dX12_every_8 (by decide) (by unfold iB; omega) (fun c_5 => ?_) (fun c_5 => ?_)
      · skip
        exact hret (v1, l1) _ _ _ _ _ (by exact ⟨by rw [← hrr]; exact lpP_st (by show ¬ (v1 7 = 0 ∧ hrp (tp f) e (v1 5) = 38); omega), hkp⟩) rfl rfl (Nat.le_of_ble_eq_true rfl) (Nat.le_of_ble_eq_true rfl) dX12_every_43
      · skip
        refine v_aload_n (pc := 11) 0 rfl dX12_every_11 ?_
        refine v_callV (pc := 12) [] [0, 1] [(h, co 12 (mO ad v1)), ((ad 1), cn 0 936 (wrS f a l1))] (As := []) (rest := []) (c_X12_here ad v1 h f a e l1 (v1 5) (by first | omega | assumption) (by first | omega | assumption) (by show (v1 6) = e; omega) (by rfl) (by first | omega | assumption)) (c := 12) rfl (Or.inr ⟨0, rfl⟩) wl_X12_55 wi_X12_here wv_X12_X12_here_X12_here wk_X12_here wz_X12 md_X12_here rfl (Nat.le_of_ble_eq_true rfl) ⟨Nat.le_of_ble_eq_true rfl, Nat.le_of_ble_eq_true rfl, Nat.le_of_ble_eq_true rfl, Nat.le_of_ble_eq_true rfl⟩ rfl rfl rfl rfl (by decide) (ro_cons (Or.inr ⟨0, rfl, by decide⟩) (ro_cons (Or.inr ⟨1, rfl, by decide⟩) ro_nil)) dX12_every_12 (fun u hu => ?_)
        show V x cX12_every RX12 1 (rmU 6 131 0 0) [(h, co 12 (mO ad v1)), ((ad 1), cn 0 936 (wrS f a l1))] 15 [(0, ar h)] [ai (hrp (tp f) e (v1 5))] 0 0
        have hb_6 := hrp_b (p := (v1 5)) hT (by omega)
        refine v_bipush (pc := 15) dX12_every_15 (by decide) ?_
        refine v_icmp_ne (pc := 17) 43 dX12_every_17 (by decide) (by unfold iB; omega) (by unfold iB; omega) (fun c_7 => ?_) (fun c_7 => ?_)
        · skip
          exact hret (v1, l1) _ _ _ _ _ (by exact ⟨by rw [← hrr]; exact lpP_st (by show ¬ (v1 7 = 0 ∧ hrp (tp f) e (v1 5) = 38); omega), hkp⟩) rfl rfl (Nat.le_of_ble_eq_true rfl) (Nat.le_of_ble_eq_true rfl) dX12_every_43
        · skip
          refine v_aload_n (pc := 20) 0 rfl dX12_every_20 ?_
          refine v_dup (pc := 21) rfl dX12_every_21 ?_
          refine v_get (pc := 22) (v := ai (v1 5)) 5 (Or.inr ⟨0, rfl⟩) fl_12_45_12 rfl dX12_every_22 ?_
          refine v_iconst (pc := 25) dX12_every_25 ?_
          refine v_iadd (pc := 26) dX12_every_26 ?_
          refine v_put (pc := 27) 5 0 rfl fl_12_45_12 ck_12 ft_12_5 (okV_i _) (Nat.le_of_ble_eq_true rfl) (ws2 := [(h, co 12 (mO ad (nup v1 5 ((v1 5) + 1)))), ((ad 1), cn 0 936 (wrS f a l1))]) rfl dX12_every_27 ?_
          refine v_aload_n (pc := 30) 0 rfl dX12_every_30 ?_
          refine v_callV (pc := 31) [0, 1] [] [] (As := []) (rest := []) (c_factor_0 ad (nup v1 5 ((v1 5) + 1)) h f a e l1 (by first | omega | assumption) (by first | omega | assumption) (by exact hT) (by show (v1 4) = a; omega) (by show (v1 6) = e; omega) (by exact ⟨by show 0 ≤ ((v1 5) + 1); omega, by show ((v1 5) + 1) ≤ e; omega, by show (v1 7) = 0 ∨ (v1 7) = 1; omega⟩) (by show ((l1.length : Nat) : Int) ≤ ((v1 5) + 1); omega) (by show (v1 8) = _; omega)) (c := 12) rfl (Or.inr ⟨0, rfl⟩) wl_X12_78 wi_X12_factor wv_X12_X12_factor_X12_factor wk_X12_factor wz_X12 md_X12_factor rfl (Nat.le_of_ble_eq_true rfl) ⟨Nat.le_of_ble_eq_true rfl, Nat.le_of_ble_eq_true rfl, Nat.le_of_ble_eq_true rfl, Nat.le_of_ble_eq_true rfl⟩ rfl rfl rfl rfl (by decide) ro_nil dX12_every_31 (fun u hu => ?_)
          obtain ⟨v2_8, l2_9⟩ := u
          have g_10 : fac (tp f) e 0 (ps (nup v1 5 ((v1 5) + 1)) l1) = ps v2_8 l2_9 ∧ kp (nup v1 5 ((v1 5) + 1)) v2_8 := hu
          show V x cX12_every RX12 1 (rmU 6 131 0 0) [(h, co 12 (mO ad v2_8)), ((ad 1), cn 0 936 (wrS f a l2_9))] 34 [(0, ar h)] [] 0 0
          have hn_11 : PN e (ps (nup v1 5 ((v1 5) + 1)) l1) (fac (tp f) e 0 (ps (nup v1 5 ((v1 5) + 1)) l1)) := fac_k (t := tp f) 0 _ ⟨by show 0 ≤ ((v1 5) + 1); omega, by show ((v1 5) + 1) ≤ e; omega, by show (v1 7) = 0 ∨ (v1 7) = 1; omega⟩
          rw [g_10.1] at hn_11
          have hn_11a : (0 ≤ v2_8 5 ∧ v2_8 5 ≤ e ∧ (v2_8 7 = 0 ∨ v2_8 7 = 1)) ∧ ((v1 5) + 1) ≤ v2_8 5 ∧ ((v1 5) + 1) - ((l1.length : Nat) : Int) ≤ v2_8 5 - ((l2_9.length : Nat) : Int) := hn_11
          have hn_11k4 : v2_8 4 = a := (g_10.2 4 (by decide) (by decide)).trans (by show (v1 4) = a; omega)
          have hn_11k6 : v2_8 6 = e := (g_10.2 6 (by decide) (by decide)).trans (by show (v1 6) = e; omega)
          have hn_11k8 : v2_8 8 = (v1 8) := (g_10.2 8 (by decide) (by decide)).trans (by show (v1 8) = (v1 8); omega)
          refine v_aload_n (pc := 34) 0 rfl dX12_every_34 ?_
          refine v_bipush (pc := 35) dX12_every_35 (by decide) ?_
          refine v_callV (pc := 37) [1] [0] [(h, co 12 (mO ad v2_8))] (As := [ai (-2)]) (rest := []) (c_X12_emits ad v2_8 h f a e l2_9 (-2) (by first | omega | assumption) (by first | omega | assumption) (by exact hT) (by show (v2_8 4) = a; omega) (by show (v2_8 6) = e; omega) (by exact ⟨by show 0 ≤ (v2_8 5); omega, by show (v2_8 5) ≤ e; omega, by show (v2_8 7) = 0 ∨ (v2_8 7) = 1; omega⟩) (by show ((l2_9.length : Nat) : Int) ≤ 139; omega)) (c := 12) rfl (Or.inr ⟨0, rfl⟩) wl_X12_81 wi_X12_emits wv_X12_X12_emits_X12_emits wk_X12_emits wz_X12 md_X12_emits rfl (Nat.le_of_ble_eq_true rfl) ⟨Nat.le_of_ble_eq_true rfl, Nat.le_of_ble_eq_true rfl, Nat.le_of_ble_eq_true rfl, Nat.le_of_ble_eq_true rfl⟩ rfl rfl rfl rfl (by decide) (ro_cons (Or.inr ⟨0, rfl, by decide⟩) ro_nil) dX12_every_37 (fun u hu => ?_)
          obtain ⟨l2_12, rfl⟩ : ∃ z, z = u := ⟨_, rfl⟩
          have g_13 : emi (-2) (ps v2_8 l2_9) = ps v2_8 l2_12 := hu
          show V x cX12_every RX12 1 (rmU 6 131 0 0) [(h, co 12 (mO ad v2_8)), ((ad 1), cn 0 936 (wrS f a l2_12))] 40 [(0, ar h)] [] 0 0
          refine v_goto (pc := 40) 4 dX12_every_40 (by decide) ?_
          exact ih _ (by omega) v2_8 l2_12 rfl (by rw [← hrr, lpP_go (s := ps v1 l1) (by decide) (fac_k 0) he.2 ⟨hb1.1, hb1.2.1, hb1.2.2.1⟩ (by show v1 7 = 0; omega) (by show hrp (tp f) e (v1 5) = _; omega)]; congr 1; rw [show fac (tp f) e 0 (adv (ps v1 l1)) = _ from g_10.1]; exact g_13.symm) (by exact kp_tr (kp_5 hkp) g_10.2) (by have q := emi_len g_13; omega)
  exact lp4 _ v2_1 l2_2 rfl (by exact congrArg (lpP (tp f) e 38 (-2) (fac (tp f) e 0) 101) g_3.1.symm) (by exact g_3.2) (by omega)
set_option maxHeartbeats 4000000 in
set_option maxRecDepth 100000 in
theorem c_some_0 {gS : sG} (ad : Nat → Nat) (v : Nat → Int) (h : Nat) (f : Int → Int) (a : Int) (e : Int) (l : List Int) (ha : 0 ≤ a ∧ a ≤ 4) (he : 0 ≤ e ∧ e ≤ 100) (hT : ∀ j : Int, 0 ≤ j → j < e → 0 ≤ f (121 + j) ∧ f (121 + j) ≤ 127) (h4 : v 4 = a) (h6 : v 6 = e) (hB : PB e (ps v l)) (hl : (l.length : Int) ≤ v 5) (h8 : v 8 = 5) : Ct gS (S := (Nat → Int) × List Int) yX12_some cX12_some 1 none 7 151 0 0 [ar h] [(h, co 12 (mO ad v)), ((ad 1), cn 0 936 (wrS f a l))] (fun q => q ∈ ([] : aW)) (fun u => soP (tp f) e (fac (tp f) e 0) (ps v l) = ps u.1 u.2 ∧ kp v u.1) (fun u => none) (fun u => [(h, co 12 (mO ad u.1)), ((ad 1), cn 0 936 (wrS f a u.2))]) := by
  refine ct_V RX12 [(0, ar h)] (by decide) rfl (Nat.le_of_ble_eq_true rfl) rfl (fun x hgS hnm hro hret => ?_)
  subst hgS
  have hB1 : 0 ≤ v 5 := hB.1
  have hB2 : v 5 ≤ e := hB.2.1
  have hB3 : v 7 = 0 ∨ v 7 = 1 := hB.2.2
  show V x cX12_some RX12 1 (rmU 7 151 0 0) [(h, co 12 (mO ad v)), ((ad 1), cn 0 936 (wrS f a l))] 0 [(0, ar h)] [] 0 0
  refine v_aload_n (pc := 0) 0 rfl dX12_some_0 ?_
  refine v_callV (pc := 1) [0, 1] [] [] (As := []) (rest := []) (c_every_0 ad v h f a e l (by first | omega | assumption) (by first | omega | assumption) (by exact hT) (by show (v 4) = a; omega) (by show (v 6) = e; omega) (by exact ⟨by show 0 ≤ (v 5); omega, by show (v 5) ≤ e; omega, by show (v 7) = 0 ∨ (v 7) = 1; omega⟩) (by show ((l.length : Nat) : Int) ≤ (v 5); omega) (by show (v 8) = _; omega)) (c := 12) rfl (Or.inr ⟨0, rfl⟩) wl_X12_98 wi_X12_every wv_X12_X12_every_X12_every wk_X12_every wz_X12 md_X12_every rfl (Nat.le_of_ble_eq_true rfl) ⟨Nat.le_of_ble_eq_true rfl, Nat.le_of_ble_eq_true rfl, Nat.le_of_ble_eq_true rfl, Nat.le_of_ble_eq_true rfl⟩ rfl rfl rfl rfl (by decide) ro_nil dX12_some_1 (fun u hu => ?_)
  obtain ⟨v2_1, l2_2⟩ := u
  have g_3 : evP (tp f) e (fac (tp f) e 0) (ps v l) = ps v2_1 l2_2 ∧ kp v v2_1 := hu
  show V x cX12_some RX12 1 (rmU 7 151 0 0) [(h, co 12 (mO ad v2_1)), ((ad 1), cn 0 936 (wrS f a l2_2))] 4 [(0, ar h)] [] 0 0
  have hn_4 : PN e (ps v l) (evP (tp f) e (fac (tp f) e 0) (ps v l)) := evP_k (fac_k (t := tp f) 0) _ ⟨by show 0 ≤ (v 5); omega, by show (v 5) ≤ e; omega, by show (v 7) = 0 ∨ (v 7) = 1; omega⟩
  rw [g_3.1] at hn_4
  have hn_4a : (0 ≤ v2_1 5 ∧ v2_1 5 ≤ e ∧ (v2_1 7 = 0 ∨ v2_1 7 = 1)) ∧ (v 5) ≤ v2_1 5 ∧ (v 5) - ((l.length : Nat) : Int) ≤ v2_1 5 - ((l2_2.length : Nat) : Int) := hn_4
  have hn_4k4 : v2_1 4 = a := (g_3.2 4 (by decide) (by decide)).trans (by show (v 4) = a; omega)
  have hn_4k6 : v2_1 6 = e := (g_3.2 6 (by decide) (by decide)).trans (by show (v 6) = e; omega)
  have hn_4k8 : v2_1 8 = (v 8) := (g_3.2 8 (by decide) (by decide)).trans (by show (v 8) = (v 8); omega)
  have lp4 : ∀ (mm : Nat) (v1 : Nat → Int) (l1 : List Int), (e - v1 5).toNat = mm → (lpP (tp f) e 124 (-3) (evP (tp f) e (fac (tp f) e 0)) 101 (ps v1 l1) = soP (tp f) e (fac (tp f) e 0) (ps v l)) → (kp v v1) → (0 ≤ v1 5 ∧ v1 5 ≤ e ∧ (v1 7 = 0 ∨ v1 7 = 1) ∧ (l1.length : Int) ≤ v1 5) → V x cX12_some RX12 1 (rmU 7 151 0 0) [(h, co 12 (mO ad v1)), ((ad 1), cn 0 936 (wrS f a l1))] 4 [(0, ar h)] [] 0 0 := by
    intro mm
    induction mm using Nat.strongRecOn with
    | _ mm ih =>
      intro v1 l1 hmm hrr hkp hb1
      have hk4 : v1 4 = a := (hkp 4 (by decide) (by decide)).trans h4
      have hk6 : v1 6 = e := (hkp 6 (by decide) (by decide)).trans h6
      have hk8 : v1 8 = v 8 := hkp 8 (by decide) (by decide)
      refine v_aload_n (pc := 4) 0 rfl dX12_some_4 ?_
      refine v_get (pc := 5) (v := ai (v1 7)) 7 (Or.inr ⟨0, rfl⟩) fl_12_51_12 rfl dX12_some_5 ?_
      refine v_if_ne (pc := 8) 43 dX12_some_8 (by decide) (by unfold iB; omega) (fun c_5 => ?_) (fun c_5 => ?_)
      · skip
        exact hret (v1, l1) _ _ _ _ _ (by exact ⟨by rw [← hrr]; exact lpP_st (by show ¬ (v1 7 = 0 ∧ hrp (tp f) e (v1 5) = 124); omega), hkp⟩) rfl rfl (Nat.le_of_ble_eq_true rfl) (Nat.le_of_ble_eq_true rfl) dX12_some_43
      · skip
        refine v_aload_n (pc := 11) 0 rfl dX12_some_11 ?_
        refine v_callV (pc := 12) [] [0, 1] [(h, co 12 (mO ad v1)), ((ad 1), cn 0 936 (wrS f a l1))] (As := []) (rest := []) (c_X12_here ad v1 h f a e l1 (v1 5) (by first | omega | assumption) (by first | omega | assumption) (by show (v1 6) = e; omega) (by rfl) (by first | omega | assumption)) (c := 12) rfl (Or.inr ⟨0, rfl⟩) wl_X12_55 wi_X12_here wv_X12_X12_here_X12_here wk_X12_here wz_X12 md_X12_here rfl (Nat.le_of_ble_eq_true rfl) ⟨Nat.le_of_ble_eq_true rfl, Nat.le_of_ble_eq_true rfl, Nat.le_of_ble_eq_true rfl, Nat.le_of_ble_eq_true rfl⟩ rfl rfl rfl rfl (by decide) (ro_cons (Or.inr ⟨0, rfl, by decide⟩) (ro_cons (Or.inr ⟨1, rfl, by decide⟩) ro_nil)) dX12_some_12 (fun u hu => ?_)
        show V x cX12_some RX12 1 (rmU 7 151 0 0) [(h, co 12 (mO ad v1)), ((ad 1), cn 0 936 (wrS f a l1))] 15 [(0, ar h)] [ai (hrp (tp f) e (v1 5))] 0 0
        have hb_6 := hrp_b (p := (v1 5)) hT (by omega)
        refine v_bipush (pc := 15) dX12_some_15 (by decide) ?_
        refine v_icmp_ne (pc := 17) 43 dX12_some_17 (by decide) (by unfold iB; omega) (by unfold iB; omega) (fun c_7 => ?_) (fun c_7 => ?_)
        · skip
          exact hret (v1, l1) _ _ _ _ _ (by exact ⟨by rw [← hrr]; exact lpP_st (by show ¬ (v1 7 = 0 ∧ hrp (tp f) e (v1 5) = 124); omega), hkp⟩) rfl rfl (Nat.le_of_ble_eq_true rfl) (Nat.le_of_ble_eq_true rfl) dX12_some_43
        · skip
          refine v_aload_n (pc := 20) 0 rfl dX12_some_20 ?_
          refine v_dup (pc := 21) rfl dX12_some_21 ?_
          refine v_get (pc := 22) (v := ai (v1 5)) 5 (Or.inr ⟨0, rfl⟩) fl_12_45_12 rfl dX12_some_22 ?_
          refine v_iconst (pc := 25) dX12_some_25 ?_
          refine v_iadd (pc := 26) dX12_some_26 ?_
          refine v_put (pc := 27) 5 0 rfl fl_12_45_12 ck_12 ft_12_5 (okV_i _) (Nat.le_of_ble_eq_true rfl) (ws2 := [(h, co 12 (mO ad (nup v1 5 ((v1 5) + 1)))), ((ad 1), cn 0 936 (wrS f a l1))]) rfl dX12_some_27 ?_
          refine v_aload_n (pc := 30) 0 rfl dX12_some_30 ?_
          refine v_callV (pc := 31) [0, 1] [] [] (As := []) (rest := []) (c_every_0 ad (nup v1 5 ((v1 5) + 1)) h f a e l1 (by first | omega | assumption) (by first | omega | assumption) (by exact hT) (by show (v1 4) = a; omega) (by show (v1 6) = e; omega) (by exact ⟨by show 0 ≤ ((v1 5) + 1); omega, by show ((v1 5) + 1) ≤ e; omega, by show (v1 7) = 0 ∨ (v1 7) = 1; omega⟩) (by show ((l1.length : Nat) : Int) ≤ ((v1 5) + 1); omega) (by show (v1 8) = _; omega)) (c := 12) rfl (Or.inr ⟨0, rfl⟩) wl_X12_98 wi_X12_every wv_X12_X12_every_X12_every wk_X12_every wz_X12 md_X12_every rfl (Nat.le_of_ble_eq_true rfl) ⟨Nat.le_of_ble_eq_true rfl, Nat.le_of_ble_eq_true rfl, Nat.le_of_ble_eq_true rfl, Nat.le_of_ble_eq_true rfl⟩ rfl rfl rfl rfl (by decide) ro_nil dX12_some_31 (fun u hu => ?_)
          obtain ⟨v2_8, l2_9⟩ := u
          have g_10 : evP (tp f) e (fac (tp f) e 0) (ps (nup v1 5 ((v1 5) + 1)) l1) = ps v2_8 l2_9 ∧ kp (nup v1 5 ((v1 5) + 1)) v2_8 := hu
          show V x cX12_some RX12 1 (rmU 7 151 0 0) [(h, co 12 (mO ad v2_8)), ((ad 1), cn 0 936 (wrS f a l2_9))] 34 [(0, ar h)] [] 0 0
          have hn_11 : PN e (ps (nup v1 5 ((v1 5) + 1)) l1) (evP (tp f) e (fac (tp f) e 0) (ps (nup v1 5 ((v1 5) + 1)) l1)) := evP_k (fac_k (t := tp f) 0) _ ⟨by show 0 ≤ ((v1 5) + 1); omega, by show ((v1 5) + 1) ≤ e; omega, by show (v1 7) = 0 ∨ (v1 7) = 1; omega⟩
          rw [g_10.1] at hn_11
          have hn_11a : (0 ≤ v2_8 5 ∧ v2_8 5 ≤ e ∧ (v2_8 7 = 0 ∨ v2_8 7 = 1)) ∧ ((v1 5) + 1) ≤ v2_8 5 ∧ ((v1 5) + 1) - ((l1.length : Nat) : Int) ≤ v2_8 5 - ((l2_9.length : Nat) : Int) := hn_11
          have hn_11k4 : v2_8 4 = a := (g_10.2 4 (by decide) (by decide)).trans (by show (v1 4) = a; omega)
          have hn_11k6 : v2_8 6 = e := (g_10.2 6 (by decide) (by decide)).trans (by show (v1 6) = e; omega)
          have hn_11k8 : v2_8 8 = (v1 8) := (g_10.2 8 (by decide) (by decide)).trans (by show (v1 8) = (v1 8); omega)
          refine v_aload_n (pc := 34) 0 rfl dX12_some_34 ?_
          refine v_bipush (pc := 35) dX12_some_35 (by decide) ?_
          refine v_callV (pc := 37) [1] [0] [(h, co 12 (mO ad v2_8))] (As := [ai (-3)]) (rest := []) (c_X12_emits ad v2_8 h f a e l2_9 (-3) (by first | omega | assumption) (by first | omega | assumption) (by exact hT) (by show (v2_8 4) = a; omega) (by show (v2_8 6) = e; omega) (by exact ⟨by show 0 ≤ (v2_8 5); omega, by show (v2_8 5) ≤ e; omega, by show (v2_8 7) = 0 ∨ (v2_8 7) = 1; omega⟩) (by show ((l2_9.length : Nat) : Int) ≤ 139; omega)) (c := 12) rfl (Or.inr ⟨0, rfl⟩) wl_X12_81 wi_X12_emits wv_X12_X12_emits_X12_emits wk_X12_emits wz_X12 md_X12_emits rfl (Nat.le_of_ble_eq_true rfl) ⟨Nat.le_of_ble_eq_true rfl, Nat.le_of_ble_eq_true rfl, Nat.le_of_ble_eq_true rfl, Nat.le_of_ble_eq_true rfl⟩ rfl rfl rfl rfl (by decide) (ro_cons (Or.inr ⟨0, rfl, by decide⟩) ro_nil) dX12_some_37 (fun u hu => ?_)
          obtain ⟨l2_12, rfl⟩ : ∃ z, z = u := ⟨_, rfl⟩
          have g_13 : emi (-3) (ps v2_8 l2_9) = ps v2_8 l2_12 := hu
          show V x cX12_some RX12 1 (rmU 7 151 0 0) [(h, co 12 (mO ad v2_8)), ((ad 1), cn 0 936 (wrS f a l2_12))] 40 [(0, ar h)] [] 0 0
          refine v_goto (pc := 40) 4 dX12_some_40 (by decide) ?_
          exact ih _ (by omega) v2_8 l2_12 rfl (by rw [← hrr, lpP_go (s := ps v1 l1) (by decide) (evP_k (fac_k 0)) he.2 ⟨hb1.1, hb1.2.1, hb1.2.2.1⟩ (by show v1 7 = 0; omega) (by show hrp (tp f) e (v1 5) = _; omega)]; congr 1; rw [show evP (tp f) e (fac (tp f) e 0) (adv (ps v1 l1)) = _ from g_10.1]; exact g_13.symm) (by exact kp_tr (kp_5 hkp) g_10.2) (by have q := emi_len g_13; omega)
  exact lp4 _ v2_1 l2_2 rfl (by exact congrArg (lpP (tp f) e 124 (-3) (evP (tp f) e (fac (tp f) e 0)) 101) g_3.1.symm) (by exact g_3.2) (by omega)
set_option maxHeartbeats 4000000 in
set_option maxRecDepth 100000 in
theorem c_factor_1 {gS : sG} (ad : Nat → Nat) (v : Nat → Int) (h : Nat) (f : Int → Int) (a : Int) (e : Int) (l : List Int) (ha : 0 ≤ a ∧ a ≤ 4) (he : 0 ≤ e ∧ e ≤ 100) (hT : ∀ j : Int, 0 ≤ j → j < e → 0 ≤ f (121 + j) ∧ f (121 + j) ≤ 127) (h4 : v 4 = a) (h6 : v 6 = e) (hB : PB e (ps v l)) (hl : (l.length : Int) ≤ v 5) (h8 : v 8 = 4) : Ct gS (S := (Nat → Int) × List Int) yX12_factor cX12_factor 5 none 8 171 0 0 [ar h] [(h, co 12 (mO ad v)), ((ad 1), cn 0 936 (wrS f a l))] (fun q => q ∈ ([] : aW)) (fun u => fac (tp f) e 1 (ps v l) = ps u.1 u.2 ∧ kp v u.1) (fun u => none) (fun u => [(h, co 12 (mO ad u.1)), ((ad 1), cn 0 936 (wrS f a u.2))]) := by
  refine ct_V RX12 [(0, ar h)] (by decide) rfl (Nat.le_of_ble_eq_true rfl) rfl (fun x hgS hnm hro hret => ?_)
  subst hgS
  have hB1 : 0 ≤ v 5 := hB.1
  have hB2 : v 5 ≤ e := hB.2.1
  have hB3 : v 7 = 0 ∨ v 7 = 1 := hB.2.2
  show V x cX12_factor RX12 5 (rmU 8 171 0 0) [(h, co 12 (mO ad v)), ((ad 1), cn 0 936 (wrS f a l))] 0 [(0, ar h)] [] 0 0
  refine v_aload_n (pc := 0) 0 rfl dX12_factor_0 ?_
  refine v_get (pc := 1) (v := ai (v 7)) 7 (Or.inr ⟨0, rfl⟩) fl_12_51_12 rfl dX12_factor_1 ?_
  refine v_if_eq (pc := 4) 8 dX12_factor_4 (by decide) (by unfold iB; omega) (fun c_1 => ?_) (fun c_1 => ?_)
  · skip
    refine v_aload_n (pc := 8) 0 rfl dX12_factor_8 ?_
    refine v_callV (pc := 9) [] [0, 1] [(h, co 12 (mO ad v)), ((ad 1), cn 0 936 (wrS f a l))] (As := []) (rest := []) (c_X12_here ad v h f a e l (v 5) (by first | omega | assumption) (by first | omega | assumption) (by show (v 6) = e; omega) (by rfl) (by first | omega | assumption)) (c := 12) rfl (Or.inr ⟨0, rfl⟩) wl_X12_55 wi_X12_here wv_X12_X12_here_X12_here wk_X12_here wz_X12 md_X12_here rfl (Nat.le_of_ble_eq_true rfl) ⟨Nat.le_of_ble_eq_true rfl, Nat.le_of_ble_eq_true rfl, Nat.le_of_ble_eq_true rfl, Nat.le_of_ble_eq_true rfl⟩ rfl rfl rfl rfl (by decide) (ro_cons (Or.inr ⟨0, rfl, by decide⟩) (ro_cons (Or.inr ⟨1, rfl, by decide⟩) ro_nil)) dX12_factor_9 (fun u hu => ?_)
    show V x cX12_factor RX12 5 (rmU 8 171 0 0) [(h, co 12 (mO ad v)), ((ad 1), cn 0 936 (wrS f a l))] 12 [(0, ar h)] [ai (hrp (tp f) e (v 5))] 0 0
    have hb_2 := hrp_b (p := (v 5)) hT (by omega)
    refine v_istore_n (pc := 12) (L2 := [(1, ai (hrp (tp f) e (v 5))), (0, ar h)]) rfl (by decide) dX12_factor_12 ?_
    refine v_iload_n (pc := 13) 0 rfl dX12_factor_13 ?_
    refine v_bipush (pc := 14) dX12_factor_14 (by decide) ?_
    refine v_icmp_eq (pc := 16) 25 dX12_factor_16 (by decide) (by unfold iB; omega) (by unfold iB; omega) (fun c_3 => ?_) (fun c_3 => ?_)
    · skip
      refine v_aload_n (pc := 25) 1 rfl dX12_factor_25 ?_
      refine v_aload_n (pc := 26) 1 rfl dX12_factor_26 ?_
      refine v_get (pc := 27) (v := ai (v 8)) 8 (Or.inr ⟨0, rfl⟩) fl_12_75_12 rfl dX12_factor_27 ?_
      refine v_iconst (pc := 30) dX12_factor_30 ?_
      refine v_icmp_ne (pc := 31) 38 dX12_factor_31 (by decide) (by unfold iB; omega) (by unfold iB; omega) (fun c_4 => ?_) (fun c_4 => ?_)
      · skip
        refine v_iconst (pc := 38) dX12_factor_38 ?_
        refine v_put (pc := 39) 7 0 rfl fl_12_51_12 ck_12 ft_12_7 okV_z0 (Nat.le_of_ble_eq_true rfl) (ws2 := [(h, co 12 (mO ad (nup v 7 0))), ((ad 1), cn 0 936 (wrS f a l))]) rfl dX12_factor_39 ?_
        refine v_aload_n (pc := 42) 1 rfl dX12_factor_42 ?_
        refine v_dup (pc := 43) rfl dX12_factor_43 ?_
        refine v_get (pc := 44) (v := ai (v 8)) 8 (Or.inr ⟨0, rfl⟩) fl_12_75_12 rfl dX12_factor_44 ?_
        refine v_iconst (pc := 47) dX12_factor_47 ?_
        refine v_iadd (pc := 48) dX12_factor_48 ?_
        refine v_put (pc := 49) 8 0 rfl fl_12_75_12 ck_12 ft_12_8 (okV_i _) (Nat.le_of_ble_eq_true rfl) (ws2 := [(h, co 12 (mO ad (nup (nup v 7 0) 8 ((v 8) + 1)))), ((ad 1), cn 0 936 (wrS f a l))]) rfl dX12_factor_49 ?_
        refine v_aload_n (pc := 52) 1 rfl dX12_factor_52 ?_
        refine v_dup (pc := 53) rfl dX12_factor_53 ?_
        refine v_get (pc := 54) (v := ai (v 5)) 5 (Or.inr ⟨0, rfl⟩) fl_12_45_12 rfl dX12_factor_54 ?_
        refine v_aload_n (pc := 57) 1 rfl dX12_factor_57 ?_
        refine v_get (pc := 58) (v := ai 0) 7 (Or.inr ⟨0, rfl⟩) fl_12_51_12 rfl dX12_factor_58 ?_
        refine v_if_eq (pc := 61) 68 dX12_factor_61 (by decide) (by unfold iB; omega) (fun c_5 => ?_) (fun c_5 => by exfalso; omega)
        refine v_iconst (pc := 68) dX12_factor_68 ?_
        refine v_iadd (pc := 69) dX12_factor_69 ?_
        refine v_put (pc := 70) 5 0 rfl fl_12_45_12 ck_12 ft_12_5 (okV_i _) (Nat.le_of_ble_eq_true rfl) (ws2 := [(h, co 12 (mO ad (nup (nup (nup v 7 0) 8 ((v 8) + 1)) 5 ((v 5) + 1)))), ((ad 1), cn 0 936 (wrS f a l))]) rfl dX12_factor_70 ?_
        refine v_iload_n (pc := 73) 0 rfl dX12_factor_73 ?_
        refine v_bipush (pc := 74) dX12_factor_74 (by decide) ?_
        refine v_icmp_ne (pc := 76) 91 dX12_factor_76 (by decide) (by unfold iB; omega) (by unfold iB; omega) (fun c_6 => ?_) (fun c_6 => ?_)
        · skip
          exfalso; omega
        · skip
          refine v_aload_n (pc := 79) 1 rfl dX12_factor_79 ?_
          refine v_callV (pc := 80) [0, 1] [] [] (As := []) (rest := []) (c_factor_0 ad (nup (nup (nup v 7 0) 8 ((v 8) + 1)) 5 ((v 5) + 1)) h f a e l (by first | omega | assumption) (by first | omega | assumption) (by exact hT) (by show (v 4) = a; omega) (by show (v 6) = e; omega) (by exact ⟨by show 0 ≤ ((v 5) + 1); omega, by show ((v 5) + 1) ≤ e; omega, by show 0 = 0 ∨ 0 = 1; omega⟩) (by show ((l.length : Nat) : Int) ≤ ((v 5) + 1); omega) (by show ((v 8) + 1) = _; omega)) (c := 12) rfl (Or.inr ⟨0, rfl⟩) wl_X12_78 wi_X12_factor wv_X12_X12_factor_X12_factor wk_X12_factor wz_X12 md_X12_factor rfl (Nat.le_of_ble_eq_true rfl) ⟨Nat.le_of_ble_eq_true rfl, Nat.le_of_ble_eq_true rfl, Nat.le_of_ble_eq_true rfl, Nat.le_of_ble_eq_true rfl⟩ rfl rfl rfl rfl (by decide) ro_nil dX12_factor_80 (fun u hu => ?_)
          obtain ⟨v2_7, l2_8⟩ := u
          have g_9 : fac (tp f) e 0 (ps (nup (nup (nup v 7 0) 8 ((v 8) + 1)) 5 ((v 5) + 1)) l) = ps v2_7 l2_8 ∧ kp (nup (nup (nup v 7 0) 8 ((v 8) + 1)) 5 ((v 5) + 1)) v2_7 := hu
          show V x cX12_factor RX12 5 (rmU 8 171 0 0) [(h, co 12 (mO ad v2_7)), ((ad 1), cn 0 936 (wrS f a l2_8))] 83 [(1, ai (hrp (tp f) e (v 5))), (0, ar h)] [] 0 0
          have hn_10 : PN e (ps (nup (nup (nup v 7 0) 8 ((v 8) + 1)) 5 ((v 5) + 1)) l) (fac (tp f) e 0 (ps (nup (nup (nup v 7 0) 8 ((v 8) + 1)) 5 ((v 5) + 1)) l)) := fac_k (t := tp f) 0 _ ⟨by show 0 ≤ ((v 5) + 1); omega, by show ((v 5) + 1) ≤ e; omega, by show 0 = 0 ∨ 0 = 1; omega⟩
          rw [g_9.1] at hn_10
          have hn_10a : (0 ≤ v2_7 5 ∧ v2_7 5 ≤ e ∧ (v2_7 7 = 0 ∨ v2_7 7 = 1)) ∧ ((v 5) + 1) ≤ v2_7 5 ∧ ((v 5) + 1) - ((l.length : Nat) : Int) ≤ v2_7 5 - ((l2_8.length : Nat) : Int) := hn_10
          have hn_10k4 : v2_7 4 = a := (g_9.2 4 (by decide) (by decide)).trans (by show (v 4) = a; omega)
          have hn_10k6 : v2_7 6 = e := (g_9.2 6 (by decide) (by decide)).trans (by show (v 6) = e; omega)
          have hn_10k8 : v2_7 8 = ((v 8) + 1) := (g_9.2 8 (by decide) (by decide)).trans (by show ((v 8) + 1) = ((v 8) + 1); omega)
          refine v_aload_n (pc := 83) 1 rfl dX12_factor_83 ?_
          refine v_iconst (pc := 84) dX12_factor_84 ?_
          refine v_callV (pc := 85) [1] [0] [(h, co 12 (mO ad v2_7))] (As := [ai (-1)]) (rest := []) (c_X12_emits ad v2_7 h f a e l2_8 (-1) (by first | omega | assumption) (by first | omega | assumption) (by exact hT) (by show (v2_7 4) = a; omega) (by show (v2_7 6) = e; omega) (by exact ⟨by show 0 ≤ (v2_7 5); omega, by show (v2_7 5) ≤ e; omega, by show (v2_7 7) = 0 ∨ (v2_7 7) = 1; omega⟩) (by show ((l2_8.length : Nat) : Int) ≤ 139; omega)) (c := 12) rfl (Or.inr ⟨0, rfl⟩) wl_X12_81 wi_X12_emits wv_X12_X12_emits_X12_emits wk_X12_emits wz_X12 md_X12_emits rfl (Nat.le_of_ble_eq_true rfl) ⟨Nat.le_of_ble_eq_true rfl, Nat.le_of_ble_eq_true rfl, Nat.le_of_ble_eq_true rfl, Nat.le_of_ble_eq_true rfl⟩ rfl rfl rfl rfl (by decide) (ro_cons (Or.inr ⟨0, rfl, by decide⟩) ro_nil) dX12_factor_85 (fun u hu => ?_)
          obtain ⟨l2_11, rfl⟩ : ∃ z, z = u := ⟨_, rfl⟩
          have g_12 : emi (-1) (ps v2_7 l2_8) = ps v2_7 l2_11 := hu
          show V x cX12_factor RX12 5 (rmU 8 171 0 0) [(h, co 12 (mO ad v2_7)), ((ad 1), cn 0 936 (wrS f a l2_11))] 88 [(1, ai (hrp (tp f) e (v 5))), (0, ar h)] [] 0 0
          refine v_goto (pc := 88) 101 dX12_factor_88 (by decide) ?_
          refine v_aload_n (pc := 101) 1 rfl dX12_factor_101 ?_
          refine v_dup (pc := 102) rfl dX12_factor_102 ?_
          refine v_get (pc := 103) (v := ai (v2_7 8)) 8 (Or.inr ⟨0, rfl⟩) fl_12_75_12 rfl dX12_factor_103 ?_
          refine v_iconst (pc := 106) dX12_factor_106 ?_
          refine v_isub (pc := 107) dX12_factor_107 ?_
          refine v_put (pc := 108) 8 0 rfl fl_12_75_12 ck_12 ft_12_8 (okV_i _) (Nat.le_of_ble_eq_true rfl) (ws2 := [(h, co 12 (mO ad (nup v2_7 8 ((v2_7 8) - 1)))), ((ad 1), cn 0 936 (wrS f a l2_11))]) rfl dX12_factor_108 ?_
          exact hret ((nup v2_7 8 ((v2_7 8) - 1)), l2_11) _ _ _ _ _ (by exact ⟨fac_not (by omega) (by omega) g_9.1 g_12 rfl rfl, kp_8 g_9.2⟩) rfl rfl (Nat.le_of_ble_eq_true rfl) (Nat.le_of_ble_eq_true rfl) dX12_factor_111
      · skip
        exfalso; omega
    · skip
      refine v_iload_n (pc := 19) 0 rfl dX12_factor_19 ?_
      refine v_bipush (pc := 20) dX12_factor_20 (by decide) ?_
      refine v_icmp_ne (pc := 22) 112 dX12_factor_22 (by decide) (by unfold iB; omega) (by unfold iB; omega) (fun c_13 => ?_) (fun c_13 => ?_)
      · skip
        refine v_aload_n (pc := 112) 1 rfl dX12_factor_112 ?_
        refine v_ldcS (pc := 113) (q := ("MatFlipModel", 87, "pkngsy", 7)) (List.mem_of_getElem? (i := 12) rfl) rfl dX12_factor_113 ?_
        refine v_callV (pc := 115) [0] [1] [((ad 1), cn 0 936 (wrS f a l))] (As := [ar (lK (xg x) 7)]) (rest := []) (c_X12_among ad v h f a e l 7 (by first | omega | assumption) (by first | omega | assumption) (by exact hT) (by show (v 4) = a; omega) (by show (v 6) = e; omega) (by exact ⟨by show 0 ≤ (v 5); omega, by show (v 5) ≤ e; omega, by show (v 7) = 0 ∨ (v 7) = 1; omega⟩) (by first | omega | assumption)) (c := 12) rfl (Or.inr ⟨0, rfl⟩) wl_X12_89 wi_X12_among wv_X12_X12_among_X12_among wk_X12_among wz_X12 md_X12_among rfl (Nat.le_of_ble_eq_true rfl) ⟨Nat.le_of_ble_eq_true rfl, Nat.le_of_ble_eq_true rfl, Nat.le_of_ble_eq_true rfl, Nat.le_of_ble_eq_true rfl⟩ rfl rfl rfl rfl (by decide) (ro_cons (Or.inr ⟨1, rfl, by decide⟩) ro_nil) dX12_factor_115 (fun u hu => ?_)
        obtain ⟨v2_14, rfl⟩ : ∃ z, z = u := ⟨_, rfl⟩
        have g_15 : (am (tp f) e 7 (ps v l)).2 = ps v2_14 l ∧ kp v v2_14 := hu
        show V x cX12_factor RX12 5 (rmU 8 171 0 0) [((ad 1), cn 0 936 (wrS f a l)), (h, co 12 (mO ad v2_14))] 118 [(1, ai (hrp (tp f) e (v 5))), (0, ar h)] [ai ((am (tp f) e 7 (ps v l)).1)] 0 0
        obtain ⟨hb7a, hb7b, -, -⟩ := am_b (t := tp f) (e := e) (i := 7) (s := ps v l) (by decide)
        have hl7 := len_b (i := 7) (by decide)
        have h77 : v2_14 7 = v 7 := by have q := am_7 (t := tp f) (e := e) (i := 7) (s := ps v l); rw [g_15.1] at q; exact congrArg Prod.fst q
        have hn_16 : PN e (ps v l) ((am (tp f) e 7 (ps v l)).2) := am_k (t := tp f) (by omega) _ ⟨by show 0 ≤ (v 5); omega, by show (v 5) ≤ e; omega, by show (v 7) = 0 ∨ (v 7) = 1; omega⟩
        rw [g_15.1] at hn_16
        have hn_16a : (0 ≤ v2_14 5 ∧ v2_14 5 ≤ e ∧ (v2_14 7 = 0 ∨ v2_14 7 = 1)) ∧ (v 5) ≤ v2_14 5 ∧ (v 5) - ((l.length : Nat) : Int) ≤ v2_14 5 - ((l.length : Nat) : Int) := hn_16
        have hn_16k4 : v2_14 4 = a := (g_15.2 4 (by decide) (by decide)).trans (by show (v 4) = a; omega)
        have hn_16k6 : v2_14 6 = e := (g_15.2 6 (by decide) (by decide)).trans (by show (v 6) = e; omega)
        have hn_16k8 : v2_14 8 = (v 8) := (g_15.2 8 (by decide) (by decide)).trans (by show (v 8) = (v 8); omega)
        refine v_istore_n (pc := 118) (L2 := [(2, ai ((am (tp f) e 7 (ps v l)).1)), (1, ai (hrp (tp f) e (v 5))), (0, ar h)]) rfl (by decide) dX12_factor_118 ?_
        refine v_aload_n (pc := 119) 2 rfl dX12_factor_119 ?_
        refine v_iload_n (pc := 120) 0 rfl dX12_factor_120 ?_
        refine v_iconst (pc := 121) dX12_factor_121 ?_
        refine v_icmp_ne (pc := 122) 129 dX12_factor_122 (by decide) (by unfold iB; omega) (by unfold iB; omega) (fun c_17 => ?_) (fun c_17 => ?_)
        · skip
          refine v_iconst (pc := 129) dX12_factor_129 ?_
          refine v_put (pc := 130) 7 1 rfl fl_12_51_12 ck_12 ft_12_7 okV_z0 (Nat.le_of_ble_eq_true rfl) (ws2 := [((ad 1), cn 0 936 (wrS f a l)), (h, co 12 (mO ad (nup v2_14 7 0)))]) rfl dX12_factor_130 ?_
          refine v_aload_n (pc := 133) 2 rfl dX12_factor_133 ?_
          refine v_get (pc := 134) (v := ai 0) 7 (Or.inr ⟨1, rfl⟩) fl_12_51_12 rfl dX12_factor_134 ?_
          refine v_if_eq (pc := 137) 144 dX12_factor_137 (by decide) (by unfold iB; omega) (fun c_18 => ?_) (fun c_18 => by exfalso; omega)
          refine v_aload_n (pc := 144) 2 rfl dX12_factor_144 ?_
          refine v_ldcS (pc := 145) (q := ("MatFlipModel", 93, "<=>", 8)) (List.mem_of_getElem? (i := 13) rfl) rfl dX12_factor_145 ?_
          refine v_callV (pc := 147) [1] [0] [((ad 1), cn 0 936 (wrS f a l))] (As := [ar (lK (xg x) 8)]) (rest := []) (c_X12_among ad (nup v2_14 7 0) h f a e l 8 (by first | omega | assumption) (by first | omega | assumption) (by exact hT) (by show (v2_14 4) = a; omega) (by show (v2_14 6) = e; omega) (by exact ⟨by show 0 ≤ (v2_14 5); omega, by show (v2_14 5) ≤ e; omega, by show 0 = 0 ∨ 0 = 1; omega⟩) (by first | omega | assumption)) (c := 12) rfl (Or.inr ⟨1, rfl⟩) wl_X12_89 wi_X12_among wv_X12_X12_among_X12_among wk_X12_among wz_X12 md_X12_among rfl (Nat.le_of_ble_eq_true rfl) ⟨Nat.le_of_ble_eq_true rfl, Nat.le_of_ble_eq_true rfl, Nat.le_of_ble_eq_true rfl, Nat.le_of_ble_eq_true rfl⟩ rfl rfl rfl rfl (by decide) (ro_cons (Or.inr ⟨0, rfl, by decide⟩) ro_nil) dX12_factor_147 (fun u hu => ?_)
          obtain ⟨v2_19, rfl⟩ : ∃ z, z = u := ⟨_, rfl⟩
          have g_20 : (am (tp f) e 8 (ps (nup v2_14 7 0) l)).2 = ps v2_19 l ∧ kp (nup v2_14 7 0) v2_19 := hu
          show V x cX12_factor RX12 5 (rmU 8 171 0 0) [((ad 1), cn 0 936 (wrS f a l)), (h, co 12 (mO ad v2_19))] 150 [(2, ai ((am (tp f) e 7 (ps v l)).1)), (1, ai (hrp (tp f) e (v 5))), (0, ar h)] [ai ((am (tp f) e 8 (ps (nup v2_14 7 0) l)).1)] 0 0
          obtain ⟨hb8a, hb8b, -, -⟩ := am_b (t := tp f) (e := e) (i := 8) (s := (ps (nup v2_14 7 0) l)) (by decide)
          have hl8 := len_b (i := 8) (by decide)
          have h87 : v2_19 7 = 0 := by have q := am_7 (t := tp f) (e := e) (i := 8) (s := (ps (nup v2_14 7 0) l)); rw [g_20.1] at q; exact congrArg Prod.fst q
          have hn_21 : PN e (ps (nup v2_14 7 0) l) ((am (tp f) e 8 (ps (nup v2_14 7 0) l)).2) := am_k (t := tp f) (by omega) _ ⟨by show 0 ≤ (v2_14 5); omega, by show (v2_14 5) ≤ e; omega, by show 0 = 0 ∨ 0 = 1; omega⟩
          rw [g_20.1] at hn_21
          have hn_21a : (0 ≤ v2_19 5 ∧ v2_19 5 ≤ e ∧ (v2_19 7 = 0 ∨ v2_19 7 = 1)) ∧ (v2_14 5) ≤ v2_19 5 ∧ (v2_14 5) - ((l.length : Nat) : Int) ≤ v2_19 5 - ((l.length : Nat) : Int) := hn_21
          have hn_21k4 : v2_19 4 = a := (g_20.2 4 (by decide) (by decide)).trans (by show (v2_14 4) = a; omega)
          have hn_21k6 : v2_19 6 = e := (g_20.2 6 (by decide) (by decide)).trans (by show (v2_14 6) = e; omega)
          have hn_21k8 : v2_19 8 = (v2_14 8) := (g_20.2 8 (by decide) (by decide)).trans (by show (v2_14 8) = (v2_14 8); omega)
          refine v_istore_n (pc := 150) (L2 := [(3, ai ((am (tp f) e 8 (ps (nup v2_14 7 0) l)).1)), (2, ai ((am (tp f) e 7 (ps v l)).1)), (1, ai (hrp (tp f) e (v 5))), (0, ar h)]) rfl (by decide) dX12_factor_150 ?_
          refine v_aload_n (pc := 151) 3 rfl dX12_factor_151 ?_
          refine v_aload_n (pc := 152) 3 rfl dX12_factor_152 ?_
          refine v_get (pc := 153) (v := ai (v2_19 7)) 7 (Or.inr ⟨1, rfl⟩) fl_12_51_12 rfl dX12_factor_153 ?_
          refine v_if_ne (pc := 156) 164 dX12_factor_156 (by decide) (by unfold iB; omega) (fun c_22 => ?_) (fun c_22 => ?_)
          · skip
            exfalso; omega
          · skip
            refine v_iload_n (pc := 159) 0 rfl dX12_factor_159 ?_
            refine v_iconst (pc := 160) dX12_factor_160 ?_
            refine v_icmp_ne (pc := 161) 168 dX12_factor_161 (by decide) (by unfold iB; omega) (by unfold iB; omega) (fun c_23 => ?_) (fun c_23 => ?_)
            · skip
              refine v_iconst (pc := 168) dX12_factor_168 ?_
              refine v_put (pc := 169) 7 1 rfl fl_12_51_12 ck_12 ft_12_7 okV_z0 (Nat.le_of_ble_eq_true rfl) (ws2 := [((ad 1), cn 0 936 (wrS f a l)), (h, co 12 (mO ad (nup v2_19 7 0)))]) rfl dX12_factor_169 ?_
              refine v_aload_n (pc := 172) 3 rfl dX12_factor_172 ?_
              refine v_callV (pc := 173) [1] [0] [((ad 1), cn 0 936 (wrS f a l))] (As := []) (rest := []) (c_X12_figures ad (nup v2_19 7 0) h f a e l (by first | omega | assumption) (by first | omega | assumption) (by exact hT) (by show (v2_19 4) = a; omega) (by show (v2_19 6) = e; omega) (by exact ⟨by show 0 ≤ (v2_19 5); omega, by show (v2_19 5) ≤ e; omega, by show 0 = 0 ∨ 0 = 1; omega⟩)) (c := 12) rfl (Or.inr ⟨1, rfl⟩) wl_X12_95 wi_X12_figures wv_X12_X12_figures_X12_figures wk_X12_figures wz_X12 md_X12_figures rfl (Nat.le_of_ble_eq_true rfl) ⟨Nat.le_of_ble_eq_true rfl, Nat.le_of_ble_eq_true rfl, Nat.le_of_ble_eq_true rfl, Nat.le_of_ble_eq_true rfl⟩ rfl rfl rfl rfl (by decide) (ro_cons (Or.inr ⟨0, rfl, by decide⟩) ro_nil) dX12_factor_173 (fun u hu => ?_)
              obtain ⟨v2_24, rfl⟩ : ∃ z, z = u := ⟨_, rfl⟩
              have g_25 : (fig (tp f) e (ps (nup v2_19 7 0) l)).2 = ps v2_24 l ∧ kp (nup v2_19 7 0) v2_24 := hu
              show V x cX12_factor RX12 5 (rmU 8 171 0 0) [((ad 1), cn 0 936 (wrS f a l)), (h, co 12 (mO ad v2_24))] 176 [(3, ai ((am (tp f) e 8 (ps (nup v2_14 7 0) l)).1)), (2, ai ((am (tp f) e 7 (ps v l)).1)), (1, ai (hrp (tp f) e (v 5))), (0, ar h)] [ai ((fig (tp f) e (ps (nup v2_19 7 0) l)).1)] 0 0
              have hn_26 : PN e (ps (nup v2_19 7 0) l) ((fig (tp f) e (ps (nup v2_19 7 0) l)).2) := fig_k (t := tp f) _ ⟨by show 0 ≤ (v2_19 5); omega, by show (v2_19 5) ≤ e; omega, by show 0 = 0 ∨ 0 = 1; omega⟩
              rw [g_25.1] at hn_26
              have hn_26a : (0 ≤ v2_24 5 ∧ v2_24 5 ≤ e ∧ (v2_24 7 = 0 ∨ v2_24 7 = 1)) ∧ (v2_19 5) ≤ v2_24 5 ∧ (v2_19 5) - ((l.length : Nat) : Int) ≤ v2_24 5 - ((l.length : Nat) : Int) := hn_26
              have hn_26k4 : v2_24 4 = a := (g_25.2 4 (by decide) (by decide)).trans (by show (v2_19 4) = a; omega)
              have hn_26k6 : v2_24 6 = e := (g_25.2 6 (by decide) (by decide)).trans (by show (v2_19 6) = e; omega)
              have hn_26k8 : v2_24 8 = (v2_19 8) := (g_25.2 8 (by decide) (by decide)).trans (by show (v2_19 8) = (v2_19 8); omega)
              refine v_istore (pc := 176) (L2 := [(4, ai ((fig (tp f) e (ps (nup v2_19 7 0) l)).1)), (3, ai ((am (tp f) e 8 (ps (nup v2_14 7 0) l)).1)), (2, ai ((am (tp f) e 7 (ps v l)).1)), (1, ai (hrp (tp f) e (v 5))), (0, ar h)]) rfl (by decide) dX12_factor_176 ?_
              refine v_aload_n (pc := 178) 4 rfl dX12_factor_178 ?_
              refine v_iload_n (pc := 179) 2 rfl dX12_factor_179 ?_
              refine v_bipush (pc := 180) dX12_factor_180 (by decide) ?_
              refine v_iload_n (pc := 182) 1 rfl dX12_factor_182 ?_
              refine v_imul (pc := 183) dX12_factor_183 ?_
              refine v_iadd (pc := 184) dX12_factor_184 ?_
              refine v_bipush (pc := 185) dX12_factor_185 (by decide) ?_
              refine v_iload (pc := 187) 0 rfl dX12_factor_187 ?_
              refine v_imul (pc := 189) dX12_factor_189 ?_
              refine v_iadd (pc := 190) dX12_factor_190 ?_
              refine v_callV (pc := 191) [0] [1] [(h, co 12 (mO ad v2_24))] (As := [ai (((am (tp f) e 7 (ps v l)).1 + (8 * (am (tp f) e 8 (ps (nup v2_14 7 0) l)).1)) + (32 * (fig (tp f) e (ps (nup v2_19 7 0) l)).1))]) (rest := []) (c_X12_emits ad v2_24 h f a e l (((am (tp f) e 7 (ps v l)).1 + (8 * (am (tp f) e 8 (ps (nup v2_14 7 0) l)).1)) + (32 * (fig (tp f) e (ps (nup v2_19 7 0) l)).1)) (by first | omega | assumption) (by first | omega | assumption) (by exact hT) (by show (v2_24 4) = a; omega) (by show (v2_24 6) = e; omega) (by exact ⟨by show 0 ≤ (v2_24 5); omega, by show (v2_24 5) ≤ e; omega, by show (v2_24 7) = 0 ∨ (v2_24 7) = 1; omega⟩) (by show ((l.length : Nat) : Int) ≤ 139; omega)) (c := 12) rfl (Or.inr ⟨1, rfl⟩) wl_X12_81 wi_X12_emits wv_X12_X12_emits_X12_emits wk_X12_emits wz_X12 md_X12_emits rfl (Nat.le_of_ble_eq_true rfl) ⟨Nat.le_of_ble_eq_true rfl, Nat.le_of_ble_eq_true rfl, Nat.le_of_ble_eq_true rfl, Nat.le_of_ble_eq_true rfl⟩ rfl rfl rfl rfl (by decide) (ro_cons (Or.inr ⟨1, rfl, by decide⟩) ro_nil) dX12_factor_191 (fun u hu => ?_)
              obtain ⟨l2_27, rfl⟩ : ∃ z, z = u := ⟨_, rfl⟩
              have g_28 : emi (((am (tp f) e 7 (ps v l)).1 + (8 * (am (tp f) e 8 (ps (nup v2_14 7 0) l)).1)) + (32 * (fig (tp f) e (ps (nup v2_19 7 0) l)).1)) (ps v2_24 l) = ps v2_24 l2_27 := hu
              show V x cX12_factor RX12 5 (rmU 8 171 0 0) [(h, co 12 (mO ad v2_24)), ((ad 1), cn 0 936 (wrS f a l2_27))] 194 [(4, ai ((fig (tp f) e (ps (nup v2_19 7 0) l)).1)), (3, ai ((am (tp f) e 8 (ps (nup v2_14 7 0) l)).1)), (2, ai ((am (tp f) e 7 (ps v l)).1)), (1, ai (hrp (tp f) e (v 5))), (0, ar h)] [] 0 0
              have ha1 : am (tp f) e 7 (ps v l) = ((am (tp f) e 7 (ps v l)).1, ps v2_14 l) := pr_of g_15.1
              have hb1 : (if (am (tp f) e 7 (ps v l)).1 = -1 then bad (ps v2_14 l) else ps v2_14 l) = ps (nup v2_14 7 0) l := by rw [if_neg (by omega)]; exact ps_70 (by omega)
              have ha2 : tsB (tp f) e (ps (nup v2_14 7 0) l) = ((am (tp f) e 8 (ps (nup v2_14 7 0) l)).1, ps v2_19 l) := (if_pos rfl).trans (pr_of g_20.1)
              have hb2 : (if (am (tp f) e 8 (ps (nup v2_14 7 0) l)).1 = -1 then bad (ps v2_19 l) else ps v2_19 l) = ps (nup v2_19 7 0) l := by first | (rw [if_pos (by omega)]; done) | (rw [if_pos (by omega)]; rfl) | (rw [if_neg (by omega)]; exact ps_70 (by omega))
              have ha3 : fig (tp f) e (ps (nup v2_19 7 0) l) = ((fig (tp f) e (ps (nup v2_19 7 0) l)).1, ps v2_24 l) := pr_of g_25.1
              exact hret (v2_24, l2_27) _ _ _ _ _ (by exact ⟨fac_tst (by omega) (by omega) (by omega) (tsp_of ha1 hb1 ha2 hb2 ha3 g_28), kp_tr (kp_7 (kp_tr (kp_7 g_15.2) g_20.2)) g_25.2⟩) rfl rfl (Nat.le_of_ble_eq_true rfl) (Nat.le_of_ble_eq_true rfl) dX12_factor_194
            · skip
              refine v_iconst (pc := 164) dX12_factor_164 ?_
              refine v_goto (pc := 165) 169 dX12_factor_165 (by decide) ?_
              refine v_put (pc := 169) 7 1 rfl fl_12_51_12 ck_12 ft_12_7 okV_z1 (Nat.le_of_ble_eq_true rfl) (ws2 := [((ad 1), cn 0 936 (wrS f a l)), (h, co 12 (mO ad (nup v2_19 7 1)))]) rfl dX12_factor_169 ?_
              refine v_aload_n (pc := 172) 3 rfl dX12_factor_172 ?_
              refine v_callV (pc := 173) [1] [0] [((ad 1), cn 0 936 (wrS f a l))] (As := []) (rest := []) (c_X12_figures ad (nup v2_19 7 1) h f a e l (by first | omega | assumption) (by first | omega | assumption) (by exact hT) (by show (v2_19 4) = a; omega) (by show (v2_19 6) = e; omega) (by exact ⟨by show 0 ≤ (v2_19 5); omega, by show (v2_19 5) ≤ e; omega, by show 1 = 0 ∨ 1 = 1; omega⟩)) (c := 12) rfl (Or.inr ⟨1, rfl⟩) wl_X12_95 wi_X12_figures wv_X12_X12_figures_X12_figures wk_X12_figures wz_X12 md_X12_figures rfl (Nat.le_of_ble_eq_true rfl) ⟨Nat.le_of_ble_eq_true rfl, Nat.le_of_ble_eq_true rfl, Nat.le_of_ble_eq_true rfl, Nat.le_of_ble_eq_true rfl⟩ rfl rfl rfl rfl (by decide) (ro_cons (Or.inr ⟨0, rfl, by decide⟩) ro_nil) dX12_factor_173 (fun u hu => ?_)
              obtain ⟨v2_29, rfl⟩ : ∃ z, z = u := ⟨_, rfl⟩
              have g_30 : (fig (tp f) e (ps (nup v2_19 7 1) l)).2 = ps v2_29 l ∧ kp (nup v2_19 7 1) v2_29 := hu
              show V x cX12_factor RX12 5 (rmU 8 171 0 0) [((ad 1), cn 0 936 (wrS f a l)), (h, co 12 (mO ad v2_29))] 176 [(3, ai ((am (tp f) e 8 (ps (nup v2_14 7 0) l)).1)), (2, ai ((am (tp f) e 7 (ps v l)).1)), (1, ai (hrp (tp f) e (v 5))), (0, ar h)] [ai ((fig (tp f) e (ps (nup v2_19 7 1) l)).1)] 0 0
              have hn_31 : PN e (ps (nup v2_19 7 1) l) ((fig (tp f) e (ps (nup v2_19 7 1) l)).2) := fig_k (t := tp f) _ ⟨by show 0 ≤ (v2_19 5); omega, by show (v2_19 5) ≤ e; omega, by show 1 = 0 ∨ 1 = 1; omega⟩
              rw [g_30.1] at hn_31
              have hn_31a : (0 ≤ v2_29 5 ∧ v2_29 5 ≤ e ∧ (v2_29 7 = 0 ∨ v2_29 7 = 1)) ∧ (v2_19 5) ≤ v2_29 5 ∧ (v2_19 5) - ((l.length : Nat) : Int) ≤ v2_29 5 - ((l.length : Nat) : Int) := hn_31
              have hn_31k4 : v2_29 4 = a := (g_30.2 4 (by decide) (by decide)).trans (by show (v2_19 4) = a; omega)
              have hn_31k6 : v2_29 6 = e := (g_30.2 6 (by decide) (by decide)).trans (by show (v2_19 6) = e; omega)
              have hn_31k8 : v2_29 8 = (v2_19 8) := (g_30.2 8 (by decide) (by decide)).trans (by show (v2_19 8) = (v2_19 8); omega)
              refine v_istore (pc := 176) (L2 := [(4, ai ((fig (tp f) e (ps (nup v2_19 7 1) l)).1)), (3, ai ((am (tp f) e 8 (ps (nup v2_14 7 0) l)).1)), (2, ai ((am (tp f) e 7 (ps v l)).1)), (1, ai (hrp (tp f) e (v 5))), (0, ar h)]) rfl (by decide) dX12_factor_176 ?_
              refine v_aload_n (pc := 178) 4 rfl dX12_factor_178 ?_
              refine v_iload_n (pc := 179) 2 rfl dX12_factor_179 ?_
              refine v_bipush (pc := 180) dX12_factor_180 (by decide) ?_
              refine v_iload_n (pc := 182) 1 rfl dX12_factor_182 ?_
              refine v_imul (pc := 183) dX12_factor_183 ?_
              refine v_iadd (pc := 184) dX12_factor_184 ?_
              refine v_bipush (pc := 185) dX12_factor_185 (by decide) ?_
              refine v_iload (pc := 187) 0 rfl dX12_factor_187 ?_
              refine v_imul (pc := 189) dX12_factor_189 ?_
              refine v_iadd (pc := 190) dX12_factor_190 ?_
              refine v_callV (pc := 191) [0] [1] [(h, co 12 (mO ad v2_29))] (As := [ai (((am (tp f) e 7 (ps v l)).1 + (8 * (am (tp f) e 8 (ps (nup v2_14 7 0) l)).1)) + (32 * (fig (tp f) e (ps (nup v2_19 7 1) l)).1))]) (rest := []) (c_X12_emits ad v2_29 h f a e l (((am (tp f) e 7 (ps v l)).1 + (8 * (am (tp f) e 8 (ps (nup v2_14 7 0) l)).1)) + (32 * (fig (tp f) e (ps (nup v2_19 7 1) l)).1)) (by first | omega | assumption) (by first | omega | assumption) (by exact hT) (by show (v2_29 4) = a; omega) (by show (v2_29 6) = e; omega) (by exact ⟨by show 0 ≤ (v2_29 5); omega, by show (v2_29 5) ≤ e; omega, by show (v2_29 7) = 0 ∨ (v2_29 7) = 1; omega⟩) (by show ((l.length : Nat) : Int) ≤ 139; omega)) (c := 12) rfl (Or.inr ⟨1, rfl⟩) wl_X12_81 wi_X12_emits wv_X12_X12_emits_X12_emits wk_X12_emits wz_X12 md_X12_emits rfl (Nat.le_of_ble_eq_true rfl) ⟨Nat.le_of_ble_eq_true rfl, Nat.le_of_ble_eq_true rfl, Nat.le_of_ble_eq_true rfl, Nat.le_of_ble_eq_true rfl⟩ rfl rfl rfl rfl (by decide) (ro_cons (Or.inr ⟨1, rfl, by decide⟩) ro_nil) dX12_factor_191 (fun u hu => ?_)
              obtain ⟨l2_32, rfl⟩ : ∃ z, z = u := ⟨_, rfl⟩
              have g_33 : emi (((am (tp f) e 7 (ps v l)).1 + (8 * (am (tp f) e 8 (ps (nup v2_14 7 0) l)).1)) + (32 * (fig (tp f) e (ps (nup v2_19 7 1) l)).1)) (ps v2_29 l) = ps v2_29 l2_32 := hu
              show V x cX12_factor RX12 5 (rmU 8 171 0 0) [(h, co 12 (mO ad v2_29)), ((ad 1), cn 0 936 (wrS f a l2_32))] 194 [(4, ai ((fig (tp f) e (ps (nup v2_19 7 1) l)).1)), (3, ai ((am (tp f) e 8 (ps (nup v2_14 7 0) l)).1)), (2, ai ((am (tp f) e 7 (ps v l)).1)), (1, ai (hrp (tp f) e (v 5))), (0, ar h)] [] 0 0
              have ha1 : am (tp f) e 7 (ps v l) = ((am (tp f) e 7 (ps v l)).1, ps v2_14 l) := pr_of g_15.1
              have hb1 : (if (am (tp f) e 7 (ps v l)).1 = -1 then bad (ps v2_14 l) else ps v2_14 l) = ps (nup v2_14 7 0) l := by rw [if_neg (by omega)]; exact ps_70 (by omega)
              have ha2 : tsB (tp f) e (ps (nup v2_14 7 0) l) = ((am (tp f) e 8 (ps (nup v2_14 7 0) l)).1, ps v2_19 l) := (if_pos rfl).trans (pr_of g_20.1)
              have hb2 : (if (am (tp f) e 8 (ps (nup v2_14 7 0) l)).1 = -1 then bad (ps v2_19 l) else ps v2_19 l) = ps (nup v2_19 7 1) l := by first | (rw [if_pos (by omega)]; done) | (rw [if_pos (by omega)]; rfl) | (rw [if_neg (by omega)]; exact ps_70 (by omega))
              have ha3 : fig (tp f) e (ps (nup v2_19 7 1) l) = ((fig (tp f) e (ps (nup v2_19 7 1) l)).1, ps v2_29 l) := pr_of g_30.1
              exact hret (v2_29, l2_32) _ _ _ _ _ (by exact ⟨fac_tst (by omega) (by omega) (by omega) (tsp_of ha1 hb1 ha2 hb2 ha3 g_33), kp_tr (kp_7 (kp_tr (kp_7 g_15.2) g_20.2)) g_30.2⟩) rfl rfl (Nat.le_of_ble_eq_true rfl) (Nat.le_of_ble_eq_true rfl) dX12_factor_194
        · skip
          refine v_iconst (pc := 125) dX12_factor_125 ?_
          refine v_goto (pc := 126) 130 dX12_factor_126 (by decide) ?_
          refine v_put (pc := 130) 7 1 rfl fl_12_51_12 ck_12 ft_12_7 okV_z1 (Nat.le_of_ble_eq_true rfl) (ws2 := [((ad 1), cn 0 936 (wrS f a l)), (h, co 12 (mO ad (nup v2_14 7 1)))]) rfl dX12_factor_130 ?_
          refine v_aload_n (pc := 133) 2 rfl dX12_factor_133 ?_
          refine v_get (pc := 134) (v := ai 1) 7 (Or.inr ⟨1, rfl⟩) fl_12_51_12 rfl dX12_factor_134 ?_
          refine v_if_eq (pc := 137) 144 dX12_factor_137 (by decide) (by unfold iB; omega) (fun c_34 => by exfalso; omega) (fun c_34 => ?_)
          refine v_iconst (pc := 140) dX12_factor_140 ?_
          refine v_goto (pc := 141) 150 dX12_factor_141 (by decide) ?_
          refine v_istore_n (pc := 150) (L2 := [(3, ai 0), (2, ai ((am (tp f) e 7 (ps v l)).1)), (1, ai (hrp (tp f) e (v 5))), (0, ar h)]) rfl (by decide) dX12_factor_150 ?_
          refine v_aload_n (pc := 151) 3 rfl dX12_factor_151 ?_
          refine v_aload_n (pc := 152) 3 rfl dX12_factor_152 ?_
          refine v_get (pc := 153) (v := ai 1) 7 (Or.inr ⟨1, rfl⟩) fl_12_51_12 rfl dX12_factor_153 ?_
          refine v_if_ne (pc := 156) 164 dX12_factor_156 (by decide) (by unfold iB; omega) (fun c_35 => ?_) (fun c_35 => by exfalso; omega)
          refine v_iconst (pc := 164) dX12_factor_164 ?_
          refine v_goto (pc := 165) 169 dX12_factor_165 (by decide) ?_
          refine v_put (pc := 169) 7 1 rfl fl_12_51_12 ck_12 ft_12_7 okV_z1 (Nat.le_of_ble_eq_true rfl) (ws2 := [((ad 1), cn 0 936 (wrS f a l)), (h, co 12 (mO ad (nup (nup v2_14 7 1) 7 1)))]) rfl dX12_factor_169 ?_
          refine v_aload_n (pc := 172) 3 rfl dX12_factor_172 ?_
          refine v_callV (pc := 173) [1] [0] [((ad 1), cn 0 936 (wrS f a l))] (As := []) (rest := []) (c_X12_figures ad (nup (nup v2_14 7 1) 7 1) h f a e l (by first | omega | assumption) (by first | omega | assumption) (by exact hT) (by show (v2_14 4) = a; omega) (by show (v2_14 6) = e; omega) (by exact ⟨by show 0 ≤ (v2_14 5); omega, by show (v2_14 5) ≤ e; omega, by show 1 = 0 ∨ 1 = 1; omega⟩)) (c := 12) rfl (Or.inr ⟨1, rfl⟩) wl_X12_95 wi_X12_figures wv_X12_X12_figures_X12_figures wk_X12_figures wz_X12 md_X12_figures rfl (Nat.le_of_ble_eq_true rfl) ⟨Nat.le_of_ble_eq_true rfl, Nat.le_of_ble_eq_true rfl, Nat.le_of_ble_eq_true rfl, Nat.le_of_ble_eq_true rfl⟩ rfl rfl rfl rfl (by decide) (ro_cons (Or.inr ⟨0, rfl, by decide⟩) ro_nil) dX12_factor_173 (fun u hu => ?_)
          obtain ⟨v2_36, rfl⟩ : ∃ z, z = u := ⟨_, rfl⟩
          have g_37 : (fig (tp f) e (ps (nup (nup v2_14 7 1) 7 1) l)).2 = ps v2_36 l ∧ kp (nup (nup v2_14 7 1) 7 1) v2_36 := hu
          show V x cX12_factor RX12 5 (rmU 8 171 0 0) [((ad 1), cn 0 936 (wrS f a l)), (h, co 12 (mO ad v2_36))] 176 [(3, ai 0), (2, ai ((am (tp f) e 7 (ps v l)).1)), (1, ai (hrp (tp f) e (v 5))), (0, ar h)] [ai ((fig (tp f) e (ps (nup (nup v2_14 7 1) 7 1) l)).1)] 0 0
          have hn_38 : PN e (ps (nup (nup v2_14 7 1) 7 1) l) ((fig (tp f) e (ps (nup (nup v2_14 7 1) 7 1) l)).2) := fig_k (t := tp f) _ ⟨by show 0 ≤ (v2_14 5); omega, by show (v2_14 5) ≤ e; omega, by show 1 = 0 ∨ 1 = 1; omega⟩
          rw [g_37.1] at hn_38
          have hn_38a : (0 ≤ v2_36 5 ∧ v2_36 5 ≤ e ∧ (v2_36 7 = 0 ∨ v2_36 7 = 1)) ∧ (v2_14 5) ≤ v2_36 5 ∧ (v2_14 5) - ((l.length : Nat) : Int) ≤ v2_36 5 - ((l.length : Nat) : Int) := hn_38
          have hn_38k4 : v2_36 4 = a := (g_37.2 4 (by decide) (by decide)).trans (by show (v2_14 4) = a; omega)
          have hn_38k6 : v2_36 6 = e := (g_37.2 6 (by decide) (by decide)).trans (by show (v2_14 6) = e; omega)
          have hn_38k8 : v2_36 8 = (v2_14 8) := (g_37.2 8 (by decide) (by decide)).trans (by show (v2_14 8) = (v2_14 8); omega)
          refine v_istore (pc := 176) (L2 := [(4, ai ((fig (tp f) e (ps (nup (nup v2_14 7 1) 7 1) l)).1)), (3, ai 0), (2, ai ((am (tp f) e 7 (ps v l)).1)), (1, ai (hrp (tp f) e (v 5))), (0, ar h)]) rfl (by decide) dX12_factor_176 ?_
          refine v_aload_n (pc := 178) 4 rfl dX12_factor_178 ?_
          refine v_iload_n (pc := 179) 2 rfl dX12_factor_179 ?_
          refine v_bipush (pc := 180) dX12_factor_180 (by decide) ?_
          refine v_iload_n (pc := 182) 1 rfl dX12_factor_182 ?_
          refine v_imul (pc := 183) dX12_factor_183 ?_
          refine v_iadd (pc := 184) dX12_factor_184 ?_
          refine v_bipush (pc := 185) dX12_factor_185 (by decide) ?_
          refine v_iload (pc := 187) 0 rfl dX12_factor_187 ?_
          refine v_imul (pc := 189) dX12_factor_189 ?_
          refine v_iadd (pc := 190) dX12_factor_190 ?_
          refine v_callV (pc := 191) [0] [1] [(h, co 12 (mO ad v2_36))] (As := [ai (((am (tp f) e 7 (ps v l)).1 + (8 * 0)) + (32 * (fig (tp f) e (ps (nup (nup v2_14 7 1) 7 1) l)).1))]) (rest := []) (c_X12_emits ad v2_36 h f a e l (((am (tp f) e 7 (ps v l)).1 + (8 * 0)) + (32 * (fig (tp f) e (ps (nup (nup v2_14 7 1) 7 1) l)).1)) (by first | omega | assumption) (by first | omega | assumption) (by exact hT) (by show (v2_36 4) = a; omega) (by show (v2_36 6) = e; omega) (by exact ⟨by show 0 ≤ (v2_36 5); omega, by show (v2_36 5) ≤ e; omega, by show (v2_36 7) = 0 ∨ (v2_36 7) = 1; omega⟩) (by show ((l.length : Nat) : Int) ≤ 139; omega)) (c := 12) rfl (Or.inr ⟨1, rfl⟩) wl_X12_81 wi_X12_emits wv_X12_X12_emits_X12_emits wk_X12_emits wz_X12 md_X12_emits rfl (Nat.le_of_ble_eq_true rfl) ⟨Nat.le_of_ble_eq_true rfl, Nat.le_of_ble_eq_true rfl, Nat.le_of_ble_eq_true rfl, Nat.le_of_ble_eq_true rfl⟩ rfl rfl rfl rfl (by decide) (ro_cons (Or.inr ⟨1, rfl, by decide⟩) ro_nil) dX12_factor_191 (fun u hu => ?_)
          obtain ⟨l2_39, rfl⟩ : ∃ z, z = u := ⟨_, rfl⟩
          have g_40 : emi (((am (tp f) e 7 (ps v l)).1 + (8 * 0)) + (32 * (fig (tp f) e (ps (nup (nup v2_14 7 1) 7 1) l)).1)) (ps v2_36 l) = ps v2_36 l2_39 := hu
          show V x cX12_factor RX12 5 (rmU 8 171 0 0) [(h, co 12 (mO ad v2_36)), ((ad 1), cn 0 936 (wrS f a l2_39))] 194 [(4, ai ((fig (tp f) e (ps (nup (nup v2_14 7 1) 7 1) l)).1)), (3, ai 0), (2, ai ((am (tp f) e 7 (ps v l)).1)), (1, ai (hrp (tp f) e (v 5))), (0, ar h)] [] 0 0
          have ha1 : am (tp f) e 7 (ps v l) = ((am (tp f) e 7 (ps v l)).1, ps v2_14 l) := pr_of g_15.1
          have hb1 : (if (am (tp f) e 7 (ps v l)).1 = -1 then bad (ps v2_14 l) else ps v2_14 l) = ps (nup v2_14 7 1) l := by rw [if_pos (by omega)]; rfl
          have ha2 : tsB (tp f) e (ps (nup v2_14 7 1) l) = (0, ps (nup v2_14 7 1) l) := if_neg (by show ¬ (1 : Int) = 0; decide)
          have hb2 : (if 0 = -1 then bad (ps (nup v2_14 7 1) l) else ps (nup v2_14 7 1) l) = ps (nup (nup v2_14 7 1) 7 1) l := by rw [if_neg (by decide)]; rfl
          have ha3 : fig (tp f) e (ps (nup (nup v2_14 7 1) 7 1) l) = ((fig (tp f) e (ps (nup (nup v2_14 7 1) 7 1) l)).1, ps v2_36 l) := pr_of g_37.1
          exact hret (v2_36, l2_39) _ _ _ _ _ (by exact ⟨fac_tst (by omega) (by omega) (by omega) (tsp_of ha1 hb1 ha2 hb2 ha3 g_40), kp_tr (kp_7 (kp_7 g_15.2)) g_37.2⟩) rfl rfl (Nat.le_of_ble_eq_true rfl) (Nat.le_of_ble_eq_true rfl) dX12_factor_194
      · skip
        refine v_aload_n (pc := 25) 1 rfl dX12_factor_25 ?_
        refine v_aload_n (pc := 26) 1 rfl dX12_factor_26 ?_
        refine v_get (pc := 27) (v := ai (v 8)) 8 (Or.inr ⟨0, rfl⟩) fl_12_75_12 rfl dX12_factor_27 ?_
        refine v_iconst (pc := 30) dX12_factor_30 ?_
        refine v_icmp_ne (pc := 31) 38 dX12_factor_31 (by decide) (by unfold iB; omega) (by unfold iB; omega) (fun c_41 => ?_) (fun c_41 => ?_)
        · skip
          refine v_iconst (pc := 38) dX12_factor_38 ?_
          refine v_put (pc := 39) 7 0 rfl fl_12_51_12 ck_12 ft_12_7 okV_z0 (Nat.le_of_ble_eq_true rfl) (ws2 := [(h, co 12 (mO ad (nup v 7 0))), ((ad 1), cn 0 936 (wrS f a l))]) rfl dX12_factor_39 ?_
          refine v_aload_n (pc := 42) 1 rfl dX12_factor_42 ?_
          refine v_dup (pc := 43) rfl dX12_factor_43 ?_
          refine v_get (pc := 44) (v := ai (v 8)) 8 (Or.inr ⟨0, rfl⟩) fl_12_75_12 rfl dX12_factor_44 ?_
          refine v_iconst (pc := 47) dX12_factor_47 ?_
          refine v_iadd (pc := 48) dX12_factor_48 ?_
          refine v_put (pc := 49) 8 0 rfl fl_12_75_12 ck_12 ft_12_8 (okV_i _) (Nat.le_of_ble_eq_true rfl) (ws2 := [(h, co 12 (mO ad (nup (nup v 7 0) 8 ((v 8) + 1)))), ((ad 1), cn 0 936 (wrS f a l))]) rfl dX12_factor_49 ?_
          refine v_aload_n (pc := 52) 1 rfl dX12_factor_52 ?_
          refine v_dup (pc := 53) rfl dX12_factor_53 ?_
          refine v_get (pc := 54) (v := ai (v 5)) 5 (Or.inr ⟨0, rfl⟩) fl_12_45_12 rfl dX12_factor_54 ?_
          refine v_aload_n (pc := 57) 1 rfl dX12_factor_57 ?_
          refine v_get (pc := 58) (v := ai 0) 7 (Or.inr ⟨0, rfl⟩) fl_12_51_12 rfl dX12_factor_58 ?_
          refine v_if_eq (pc := 61) 68 dX12_factor_61 (by decide) (by unfold iB; omega) (fun c_42 => ?_) (fun c_42 => by exfalso; omega)
          refine v_iconst (pc := 68) dX12_factor_68 ?_
          refine v_iadd (pc := 69) dX12_factor_69 ?_
          refine v_put (pc := 70) 5 0 rfl fl_12_45_12 ck_12 ft_12_5 (okV_i _) (Nat.le_of_ble_eq_true rfl) (ws2 := [(h, co 12 (mO ad (nup (nup (nup v 7 0) 8 ((v 8) + 1)) 5 ((v 5) + 1)))), ((ad 1), cn 0 936 (wrS f a l))]) rfl dX12_factor_70 ?_
          refine v_iload_n (pc := 73) 0 rfl dX12_factor_73 ?_
          refine v_bipush (pc := 74) dX12_factor_74 (by decide) ?_
          refine v_icmp_ne (pc := 76) 91 dX12_factor_76 (by decide) (by unfold iB; omega) (by unfold iB; omega) (fun c_43 => ?_) (fun c_43 => ?_)
          · skip
            refine v_aload_n (pc := 91) 1 rfl dX12_factor_91 ?_
            refine v_callV (pc := 92) [0, 1] [] [] (As := []) (rest := []) (c_some_0 ad (nup (nup (nup v 7 0) 8 ((v 8) + 1)) 5 ((v 5) + 1)) h f a e l (by first | omega | assumption) (by first | omega | assumption) (by exact hT) (by show (v 4) = a; omega) (by show (v 6) = e; omega) (by exact ⟨by show 0 ≤ ((v 5) + 1); omega, by show ((v 5) + 1) ≤ e; omega, by show 0 = 0 ∨ 0 = 1; omega⟩) (by show ((l.length : Nat) : Int) ≤ ((v 5) + 1); omega) (by show ((v 8) + 1) = _; omega)) (c := 12) rfl (Or.inr ⟨0, rfl⟩) wl_X12_84 wi_X12_some wv_X12_X12_some_X12_some wk_X12_some wz_X12 md_X12_some rfl (Nat.le_of_ble_eq_true rfl) ⟨Nat.le_of_ble_eq_true rfl, Nat.le_of_ble_eq_true rfl, Nat.le_of_ble_eq_true rfl, Nat.le_of_ble_eq_true rfl⟩ rfl rfl rfl rfl (by decide) ro_nil dX12_factor_92 (fun u hu => ?_)
            obtain ⟨v2_44, l2_45⟩ := u
            have g_46 : soP (tp f) e (fac (tp f) e 0) (ps (nup (nup (nup v 7 0) 8 ((v 8) + 1)) 5 ((v 5) + 1)) l) = ps v2_44 l2_45 ∧ kp (nup (nup (nup v 7 0) 8 ((v 8) + 1)) 5 ((v 5) + 1)) v2_44 := hu
            show V x cX12_factor RX12 5 (rmU 8 171 0 0) [(h, co 12 (mO ad v2_44)), ((ad 1), cn 0 936 (wrS f a l2_45))] 95 [(1, ai (hrp (tp f) e (v 5))), (0, ar h)] [] 0 0
            have hn_47 : PN e (ps (nup (nup (nup v 7 0) 8 ((v 8) + 1)) 5 ((v 5) + 1)) l) (soP (tp f) e (fac (tp f) e 0) (ps (nup (nup (nup v 7 0) 8 ((v 8) + 1)) 5 ((v 5) + 1)) l)) := soP_k (fac_k (t := tp f) 0) _ ⟨by show 0 ≤ ((v 5) + 1); omega, by show ((v 5) + 1) ≤ e; omega, by show 0 = 0 ∨ 0 = 1; omega⟩
            rw [g_46.1] at hn_47
            have hn_47a : (0 ≤ v2_44 5 ∧ v2_44 5 ≤ e ∧ (v2_44 7 = 0 ∨ v2_44 7 = 1)) ∧ ((v 5) + 1) ≤ v2_44 5 ∧ ((v 5) + 1) - ((l.length : Nat) : Int) ≤ v2_44 5 - ((l2_45.length : Nat) : Int) := hn_47
            have hn_47k4 : v2_44 4 = a := (g_46.2 4 (by decide) (by decide)).trans (by show (v 4) = a; omega)
            have hn_47k6 : v2_44 6 = e := (g_46.2 6 (by decide) (by decide)).trans (by show (v 6) = e; omega)
            have hn_47k8 : v2_44 8 = ((v 8) + 1) := (g_46.2 8 (by decide) (by decide)).trans (by show ((v 8) + 1) = ((v 8) + 1); omega)
            refine v_aload_n (pc := 95) 1 rfl dX12_factor_95 ?_
            refine v_bipush (pc := 96) dX12_factor_96 (by decide) ?_
            refine v_callV (pc := 98) [0] [1] [((ad 1), cn 0 936 (wrS f a l2_45))] (As := [ai 41]) (rest := []) (c_X12_must ad v2_44 h f a e l2_45 41 (by first | omega | assumption) (by first | omega | assumption) (by exact hT) (by show (v2_44 4) = a; omega) (by show (v2_44 6) = e; omega) (by exact ⟨by show 0 ≤ (v2_44 5); omega, by show (v2_44 5) ≤ e; omega, by show (v2_44 7) = 0 ∨ (v2_44 7) = 1; omega⟩) (by first | omega | assumption)) (c := 12) rfl (Or.inr ⟨0, rfl⟩) wl_X12_68 wi_X12_must wv_X12_X12_must_X12_must wk_X12_must wz_X12 md_X12_must rfl (Nat.le_of_ble_eq_true rfl) ⟨Nat.le_of_ble_eq_true rfl, Nat.le_of_ble_eq_true rfl, Nat.le_of_ble_eq_true rfl, Nat.le_of_ble_eq_true rfl⟩ rfl rfl rfl rfl (by decide) (ro_cons (Or.inr ⟨1, rfl, by decide⟩) ro_nil) dX12_factor_98 (fun u hu => ?_)
            obtain ⟨v2_48, rfl⟩ : ∃ z, z = u := ⟨_, rfl⟩
            have g_49 : mstP (tp f) e 41 (ps v2_44 l2_45) = ps v2_48 l2_45 ∧ kp v2_44 v2_48 := hu
            show V x cX12_factor RX12 5 (rmU 8 171 0 0) [((ad 1), cn 0 936 (wrS f a l2_45)), (h, co 12 (mO ad v2_48))] 101 [(1, ai (hrp (tp f) e (v 5))), (0, ar h)] [] 0 0
            have hn_50 : PN e (ps v2_44 l2_45) (mstP (tp f) e 41 (ps v2_44 l2_45)) := mstP_k (t := tp f) (by omega) _ ⟨by show 0 ≤ (v2_44 5); omega, by show (v2_44 5) ≤ e; omega, by show (v2_44 7) = 0 ∨ (v2_44 7) = 1; omega⟩
            rw [g_49.1] at hn_50
            have hn_50a : (0 ≤ v2_48 5 ∧ v2_48 5 ≤ e ∧ (v2_48 7 = 0 ∨ v2_48 7 = 1)) ∧ (v2_44 5) ≤ v2_48 5 ∧ (v2_44 5) - ((l2_45.length : Nat) : Int) ≤ v2_48 5 - ((l2_45.length : Nat) : Int) := hn_50
            have hn_50k4 : v2_48 4 = a := (g_49.2 4 (by decide) (by decide)).trans (by show (v2_44 4) = a; omega)
            have hn_50k6 : v2_48 6 = e := (g_49.2 6 (by decide) (by decide)).trans (by show (v2_44 6) = e; omega)
            have hn_50k8 : v2_48 8 = (v2_44 8) := (g_49.2 8 (by decide) (by decide)).trans (by show (v2_44 8) = (v2_44 8); omega)
            refine v_aload_n (pc := 101) 1 rfl dX12_factor_101 ?_
            refine v_dup (pc := 102) rfl dX12_factor_102 ?_
            refine v_get (pc := 103) (v := ai (v2_48 8)) 8 (Or.inr ⟨1, rfl⟩) fl_12_75_12 rfl dX12_factor_103 ?_
            refine v_iconst (pc := 106) dX12_factor_106 ?_
            refine v_isub (pc := 107) dX12_factor_107 ?_
            refine v_put (pc := 108) 8 1 rfl fl_12_75_12 ck_12 ft_12_8 (okV_i _) (Nat.le_of_ble_eq_true rfl) (ws2 := [((ad 1), cn 0 936 (wrS f a l2_45)), (h, co 12 (mO ad (nup v2_48 8 ((v2_48 8) - 1))))]) rfl dX12_factor_108 ?_
            refine v_wsub (ws2 := [(h, co 12 (mO ad (nup v2_48 8 ((v2_48 8) - 1)))), ((ad 1), cn 0 936 (wrS f a l2_45))]) [1, 0] rfl rfl ?_
            exact hret ((nup v2_48 8 ((v2_48 8) - 1)), l2_45) _ _ _ _ _ (by exact ⟨fac_par (by omega) (by omega) g_46.1 g_49.1 rfl rfl, kp_8 (kp_tr g_46.2 g_49.2)⟩) rfl rfl (Nat.le_of_ble_eq_true rfl) (Nat.le_of_ble_eq_true rfl) dX12_factor_111
          · skip
            exfalso; omega
        · skip
          exfalso; omega
  · skip
    exact hret (v, l) _ _ _ _ _ (by exact ⟨fac_w (by omega), kp_rf v⟩) rfl rfl (Nat.le_of_ble_eq_true rfl) (Nat.le_of_ble_eq_true rfl) dX12_factor_7
set_option maxHeartbeats 4000000 in
set_option maxRecDepth 100000 in
theorem c_every_1 {gS : sG} (ad : Nat → Nat) (v : Nat → Int) (h : Nat) (f : Int → Int) (a : Int) (e : Int) (l : List Int) (ha : 0 ≤ a ∧ a ≤ 4) (he : 0 ≤ e ∧ e ≤ 100) (hT : ∀ j : Int, 0 ≤ j → j < e → 0 ≤ f (121 + j) ∧ f (121 + j) ≤ 127) (h4 : v 4 = a) (h6 : v 6 = e) (hB : PB e (ps v l)) (hl : (l.length : Int) ≤ v 5) (h8 : v 8 = 4) : Ct gS (S := (Nat → Int) × List Int) yX12_every cX12_every 1 none 9 195 0 0 [ar h] [(h, co 12 (mO ad v)), ((ad 1), cn 0 936 (wrS f a l))] (fun q => q ∈ ([] : aW)) (fun u => evP (tp f) e (fac (tp f) e 1) (ps v l) = ps u.1 u.2 ∧ kp v u.1) (fun u => none) (fun u => [(h, co 12 (mO ad u.1)), ((ad 1), cn 0 936 (wrS f a u.2))]) := by
  refine ct_V RX12 [(0, ar h)] (by decide) rfl (Nat.le_of_ble_eq_true rfl) rfl (fun x hgS hnm hro hret => ?_)
  subst hgS
  have hB1 : 0 ≤ v 5 := hB.1
  have hB2 : v 5 ≤ e := hB.2.1
  have hB3 : v 7 = 0 ∨ v 7 = 1 := hB.2.2
  show V x cX12_every RX12 1 (rmU 9 195 0 0) [(h, co 12 (mO ad v)), ((ad 1), cn 0 936 (wrS f a l))] 0 [(0, ar h)] [] 0 0
  refine v_aload_n (pc := 0) 0 rfl dX12_every_0 ?_
  refine v_callV (pc := 1) [0, 1] [] [] (As := []) (rest := []) (c_factor_1 ad v h f a e l (by first | omega | assumption) (by first | omega | assumption) (by exact hT) (by show (v 4) = a; omega) (by show (v 6) = e; omega) (by exact ⟨by show 0 ≤ (v 5); omega, by show (v 5) ≤ e; omega, by show (v 7) = 0 ∨ (v 7) = 1; omega⟩) (by show ((l.length : Nat) : Int) ≤ (v 5); omega) (by show (v 8) = _; omega)) (c := 12) rfl (Or.inr ⟨0, rfl⟩) wl_X12_78 wi_X12_factor wv_X12_X12_factor_X12_factor wk_X12_factor wz_X12 md_X12_factor rfl (Nat.le_of_ble_eq_true rfl) ⟨Nat.le_of_ble_eq_true rfl, Nat.le_of_ble_eq_true rfl, Nat.le_of_ble_eq_true rfl, Nat.le_of_ble_eq_true rfl⟩ rfl rfl rfl rfl (by decide) ro_nil dX12_every_1 (fun u hu => ?_)
  obtain ⟨v2_1, l2_2⟩ := u
  have g_3 : fac (tp f) e 1 (ps v l) = ps v2_1 l2_2 ∧ kp v v2_1 := hu
  show V x cX12_every RX12 1 (rmU 9 195 0 0) [(h, co 12 (mO ad v2_1)), ((ad 1), cn 0 936 (wrS f a l2_2))] 4 [(0, ar h)] [] 0 0
  have hn_4 : PN e (ps v l) (fac (tp f) e 1 (ps v l)) := fac_k (t := tp f) 1 _ ⟨by show 0 ≤ (v 5); omega, by show (v 5) ≤ e; omega, by show (v 7) = 0 ∨ (v 7) = 1; omega⟩
  rw [g_3.1] at hn_4
  have hn_4a : (0 ≤ v2_1 5 ∧ v2_1 5 ≤ e ∧ (v2_1 7 = 0 ∨ v2_1 7 = 1)) ∧ (v 5) ≤ v2_1 5 ∧ (v 5) - ((l.length : Nat) : Int) ≤ v2_1 5 - ((l2_2.length : Nat) : Int) := hn_4
  have hn_4k4 : v2_1 4 = a := (g_3.2 4 (by decide) (by decide)).trans (by show (v 4) = a; omega)
  have hn_4k6 : v2_1 6 = e := (g_3.2 6 (by decide) (by decide)).trans (by show (v 6) = e; omega)
  have hn_4k8 : v2_1 8 = (v 8) := (g_3.2 8 (by decide) (by decide)).trans (by show (v 8) = (v 8); omega)
  have lp4 : ∀ (mm : Nat) (v1 : Nat → Int) (l1 : List Int), (e - v1 5).toNat = mm → (lpP (tp f) e 38 (-2) (fac (tp f) e 1) 101 (ps v1 l1) = evP (tp f) e (fac (tp f) e 1) (ps v l)) → (kp v v1) → (0 ≤ v1 5 ∧ v1 5 ≤ e ∧ (v1 7 = 0 ∨ v1 7 = 1) ∧ (l1.length : Int) ≤ v1 5) → V x cX12_every RX12 1 (rmU 9 195 0 0) [(h, co 12 (mO ad v1)), ((ad 1), cn 0 936 (wrS f a l1))] 4 [(0, ar h)] [] 0 0 := by
    intro mm
    induction mm using Nat.strongRecOn with
    | _ mm ih =>
      intro v1 l1 hmm hrr hkp hb1
      have hk4 : v1 4 = a := (hkp 4 (by decide) (by decide)).trans h4
      have hk6 : v1 6 = e := (hkp 6 (by decide) (by decide)).trans h6
      have hk8 : v1 8 = v 8 := hkp 8 (by decide) (by decide)
      refine v_aload_n (pc := 4) 0 rfl dX12_every_4 ?_
      refine v_get (pc := 5) (v := ai (v1 7)) 7 (Or.inr ⟨0, rfl⟩) fl_12_51_12 rfl dX12_every_5 ?_
      refine v_if_ne (pc := 8) 43 dX12_every_8 (by decide) (by unfold iB; omega) (fun c_5 => ?_) (fun c_5 => ?_)
      · skip
        exact hret (v1, l1) _ _ _ _ _ (by exact ⟨by rw [← hrr]; exact lpP_st (by show ¬ (v1 7 = 0 ∧ hrp (tp f) e (v1 5) = 38); omega), hkp⟩) rfl rfl (Nat.le_of_ble_eq_true rfl) (Nat.le_of_ble_eq_true rfl) dX12_every_43
      · skip
        refine v_aload_n (pc := 11) 0 rfl dX12_every_11 ?_
        refine v_callV (pc := 12) [] [0, 1] [(h, co 12 (mO ad v1)), ((ad 1), cn 0 936 (wrS f a l1))] (As := []) (rest := []) (c_X12_here ad v1 h f a e l1 (v1 5) (by first | omega | assumption) (by first | omega | assumption) (by show (v1 6) = e; omega) (by rfl) (by first | omega | assumption)) (c := 12) rfl (Or.inr ⟨0, rfl⟩) wl_X12_55 wi_X12_here wv_X12_X12_here_X12_here wk_X12_here wz_X12 md_X12_here rfl (Nat.le_of_ble_eq_true rfl) ⟨Nat.le_of_ble_eq_true rfl, Nat.le_of_ble_eq_true rfl, Nat.le_of_ble_eq_true rfl, Nat.le_of_ble_eq_true rfl⟩ rfl rfl rfl rfl (by decide) (ro_cons (Or.inr ⟨0, rfl, by decide⟩) (ro_cons (Or.inr ⟨1, rfl, by decide⟩) ro_nil)) dX12_every_12 (fun u hu => ?_)
        show V x cX12_every RX12 1 (rmU 9 195 0 0) [(h, co 12 (mO ad v1)), ((ad 1), cn 0 936 (wrS f a l1))] 15 [(0, ar h)] [ai (hrp (tp f) e (v1 5))] 0 0
        have hb_6 := hrp_b (p := (v1 5)) hT (by omega)
        refine v_bipush (pc := 15) dX12_every_15 (by decide) ?_
        refine v_icmp_ne (pc := 17) 43 dX12_every_17 (by decide) (by unfold iB; omega) (by unfold iB; omega) (fun c_7 => ?_) (fun c_7 => ?_)
        · skip
          exact hret (v1, l1) _ _ _ _ _ (by exact ⟨by rw [← hrr]; exact lpP_st (by show ¬ (v1 7 = 0 ∧ hrp (tp f) e (v1 5) = 38); omega), hkp⟩) rfl rfl (Nat.le_of_ble_eq_true rfl) (Nat.le_of_ble_eq_true rfl) dX12_every_43
        · skip
          refine v_aload_n (pc := 20) 0 rfl dX12_every_20 ?_
          refine v_dup (pc := 21) rfl dX12_every_21 ?_
          refine v_get (pc := 22) (v := ai (v1 5)) 5 (Or.inr ⟨0, rfl⟩) fl_12_45_12 rfl dX12_every_22 ?_
          refine v_iconst (pc := 25) dX12_every_25 ?_
          refine v_iadd (pc := 26) dX12_every_26 ?_
          refine v_put (pc := 27) 5 0 rfl fl_12_45_12 ck_12 ft_12_5 (okV_i _) (Nat.le_of_ble_eq_true rfl) (ws2 := [(h, co 12 (mO ad (nup v1 5 ((v1 5) + 1)))), ((ad 1), cn 0 936 (wrS f a l1))]) rfl dX12_every_27 ?_
          refine v_aload_n (pc := 30) 0 rfl dX12_every_30 ?_
          refine v_callV (pc := 31) [0, 1] [] [] (As := []) (rest := []) (c_factor_1 ad (nup v1 5 ((v1 5) + 1)) h f a e l1 (by first | omega | assumption) (by first | omega | assumption) (by exact hT) (by show (v1 4) = a; omega) (by show (v1 6) = e; omega) (by exact ⟨by show 0 ≤ ((v1 5) + 1); omega, by show ((v1 5) + 1) ≤ e; omega, by show (v1 7) = 0 ∨ (v1 7) = 1; omega⟩) (by show ((l1.length : Nat) : Int) ≤ ((v1 5) + 1); omega) (by show (v1 8) = _; omega)) (c := 12) rfl (Or.inr ⟨0, rfl⟩) wl_X12_78 wi_X12_factor wv_X12_X12_factor_X12_factor wk_X12_factor wz_X12 md_X12_factor rfl (Nat.le_of_ble_eq_true rfl) ⟨Nat.le_of_ble_eq_true rfl, Nat.le_of_ble_eq_true rfl, Nat.le_of_ble_eq_true rfl, Nat.le_of_ble_eq_true rfl⟩ rfl rfl rfl rfl (by decide) ro_nil dX12_every_31 (fun u hu => ?_)
          obtain ⟨v2_8, l2_9⟩ := u
          have g_10 : fac (tp f) e 1 (ps (nup v1 5 ((v1 5) + 1)) l1) = ps v2_8 l2_9 ∧ kp (nup v1 5 ((v1 5) + 1)) v2_8 := hu
          show V x cX12_every RX12 1 (rmU 9 195 0 0) [(h, co 12 (mO ad v2_8)), ((ad 1), cn 0 936 (wrS f a l2_9))] 34 [(0, ar h)] [] 0 0
          have hn_11 : PN e (ps (nup v1 5 ((v1 5) + 1)) l1) (fac (tp f) e 1 (ps (nup v1 5 ((v1 5) + 1)) l1)) := fac_k (t := tp f) 1 _ ⟨by show 0 ≤ ((v1 5) + 1); omega, by show ((v1 5) + 1) ≤ e; omega, by show (v1 7) = 0 ∨ (v1 7) = 1; omega⟩
          rw [g_10.1] at hn_11
          have hn_11a : (0 ≤ v2_8 5 ∧ v2_8 5 ≤ e ∧ (v2_8 7 = 0 ∨ v2_8 7 = 1)) ∧ ((v1 5) + 1) ≤ v2_8 5 ∧ ((v1 5) + 1) - ((l1.length : Nat) : Int) ≤ v2_8 5 - ((l2_9.length : Nat) : Int) := hn_11
          have hn_11k4 : v2_8 4 = a := (g_10.2 4 (by decide) (by decide)).trans (by show (v1 4) = a; omega)
          have hn_11k6 : v2_8 6 = e := (g_10.2 6 (by decide) (by decide)).trans (by show (v1 6) = e; omega)
          have hn_11k8 : v2_8 8 = (v1 8) := (g_10.2 8 (by decide) (by decide)).trans (by show (v1 8) = (v1 8); omega)
          refine v_aload_n (pc := 34) 0 rfl dX12_every_34 ?_
          refine v_bipush (pc := 35) dX12_every_35 (by decide) ?_
          refine v_callV (pc := 37) [1] [0] [(h, co 12 (mO ad v2_8))] (As := [ai (-2)]) (rest := []) (c_X12_emits ad v2_8 h f a e l2_9 (-2) (by first | omega | assumption) (by first | omega | assumption) (by exact hT) (by show (v2_8 4) = a; omega) (by show (v2_8 6) = e; omega) (by exact ⟨by show 0 ≤ (v2_8 5); omega, by show (v2_8 5) ≤ e; omega, by show (v2_8 7) = 0 ∨ (v2_8 7) = 1; omega⟩) (by show ((l2_9.length : Nat) : Int) ≤ 139; omega)) (c := 12) rfl (Or.inr ⟨0, rfl⟩) wl_X12_81 wi_X12_emits wv_X12_X12_emits_X12_emits wk_X12_emits wz_X12 md_X12_emits rfl (Nat.le_of_ble_eq_true rfl) ⟨Nat.le_of_ble_eq_true rfl, Nat.le_of_ble_eq_true rfl, Nat.le_of_ble_eq_true rfl, Nat.le_of_ble_eq_true rfl⟩ rfl rfl rfl rfl (by decide) (ro_cons (Or.inr ⟨0, rfl, by decide⟩) ro_nil) dX12_every_37 (fun u hu => ?_)
          obtain ⟨l2_12, rfl⟩ : ∃ z, z = u := ⟨_, rfl⟩
          have g_13 : emi (-2) (ps v2_8 l2_9) = ps v2_8 l2_12 := hu
          show V x cX12_every RX12 1 (rmU 9 195 0 0) [(h, co 12 (mO ad v2_8)), ((ad 1), cn 0 936 (wrS f a l2_12))] 40 [(0, ar h)] [] 0 0
          refine v_goto (pc := 40) 4 dX12_every_40 (by decide) ?_
          exact ih _ (by omega) v2_8 l2_12 rfl (by rw [← hrr, lpP_go (s := ps v1 l1) (by decide) (fac_k 1) he.2 ⟨hb1.1, hb1.2.1, hb1.2.2.1⟩ (by show v1 7 = 0; omega) (by show hrp (tp f) e (v1 5) = _; omega)]; congr 1; rw [show fac (tp f) e 1 (adv (ps v1 l1)) = _ from g_10.1]; exact g_13.symm) (by exact kp_tr (kp_5 hkp) g_10.2) (by have q := emi_len g_13; omega)
  exact lp4 _ v2_1 l2_2 rfl (by exact congrArg (lpP (tp f) e 38 (-2) (fac (tp f) e 1) 101) g_3.1.symm) (by exact g_3.2) (by omega)
set_option maxHeartbeats 4000000 in
set_option maxRecDepth 100000 in
theorem c_some_1 {gS : sG} (ad : Nat → Nat) (v : Nat → Int) (h : Nat) (f : Int → Int) (a : Int) (e : Int) (l : List Int) (ha : 0 ≤ a ∧ a ≤ 4) (he : 0 ≤ e ∧ e ≤ 100) (hT : ∀ j : Int, 0 ≤ j → j < e → 0 ≤ f (121 + j) ∧ f (121 + j) ≤ 127) (h4 : v 4 = a) (h6 : v 6 = e) (hB : PB e (ps v l)) (hl : (l.length : Int) ≤ v 5) (h8 : v 8 = 4) : Ct gS (S := (Nat → Int) × List Int) yX12_some cX12_some 1 none 10 215 0 0 [ar h] [(h, co 12 (mO ad v)), ((ad 1), cn 0 936 (wrS f a l))] (fun q => q ∈ ([] : aW)) (fun u => soP (tp f) e (fac (tp f) e 1) (ps v l) = ps u.1 u.2 ∧ kp v u.1) (fun u => none) (fun u => [(h, co 12 (mO ad u.1)), ((ad 1), cn 0 936 (wrS f a u.2))]) := by
  refine ct_V RX12 [(0, ar h)] (by decide) rfl (Nat.le_of_ble_eq_true rfl) rfl (fun x hgS hnm hro hret => ?_)
  subst hgS
  have hB1 : 0 ≤ v 5 := hB.1
  have hB2 : v 5 ≤ e := hB.2.1
  have hB3 : v 7 = 0 ∨ v 7 = 1 := hB.2.2
  show V x cX12_some RX12 1 (rmU 10 215 0 0) [(h, co 12 (mO ad v)), ((ad 1), cn 0 936 (wrS f a l))] 0 [(0, ar h)] [] 0 0
  refine v_aload_n (pc := 0) 0 rfl dX12_some_0 ?_
  refine v_callV (pc := 1) [0, 1] [] [] (As := []) (rest := []) (c_every_1 ad v h f a e l (by first | omega | assumption) (by first | omega | assumption) (by exact hT) (by show (v 4) = a; omega) (by show (v 6) = e; omega) (by exact ⟨by show 0 ≤ (v 5); omega, by show (v 5) ≤ e; omega, by show (v 7) = 0 ∨ (v 7) = 1; omega⟩) (by show ((l.length : Nat) : Int) ≤ (v 5); omega) (by show (v 8) = _; omega)) (c := 12) rfl (Or.inr ⟨0, rfl⟩) wl_X12_98 wi_X12_every wv_X12_X12_every_X12_every wk_X12_every wz_X12 md_X12_every rfl (Nat.le_of_ble_eq_true rfl) ⟨Nat.le_of_ble_eq_true rfl, Nat.le_of_ble_eq_true rfl, Nat.le_of_ble_eq_true rfl, Nat.le_of_ble_eq_true rfl⟩ rfl rfl rfl rfl (by decide) ro_nil dX12_some_1 (fun u hu => ?_)
  obtain ⟨v2_1, l2_2⟩ := u
  have g_3 : evP (tp f) e (fac (tp f) e 1) (ps v l) = ps v2_1 l2_2 ∧ kp v v2_1 := hu
  show V x cX12_some RX12 1 (rmU 10 215 0 0) [(h, co 12 (mO ad v2_1)), ((ad 1), cn 0 936 (wrS f a l2_2))] 4 [(0, ar h)] [] 0 0
  have hn_4 : PN e (ps v l) (evP (tp f) e (fac (tp f) e 1) (ps v l)) := evP_k (fac_k (t := tp f) 1) _ ⟨by show 0 ≤ (v 5); omega, by show (v 5) ≤ e; omega, by show (v 7) = 0 ∨ (v 7) = 1; omega⟩
  rw [g_3.1] at hn_4
  have hn_4a : (0 ≤ v2_1 5 ∧ v2_1 5 ≤ e ∧ (v2_1 7 = 0 ∨ v2_1 7 = 1)) ∧ (v 5) ≤ v2_1 5 ∧ (v 5) - ((l.length : Nat) : Int) ≤ v2_1 5 - ((l2_2.length : Nat) : Int) := hn_4
  have hn_4k4 : v2_1 4 = a := (g_3.2 4 (by decide) (by decide)).trans (by show (v 4) = a; omega)
  have hn_4k6 : v2_1 6 = e := (g_3.2 6 (by decide) (by decide)).trans (by show (v 6) = e; omega)
  have hn_4k8 : v2_1 8 = (v 8) := (g_3.2 8 (by decide) (by decide)).trans (by show (v 8) = (v 8); omega)
  have lp4 : ∀ (mm : Nat) (v1 : Nat → Int) (l1 : List Int), (e - v1 5).toNat = mm → (lpP (tp f) e 124 (-3) (evP (tp f) e (fac (tp f) e 1)) 101 (ps v1 l1) = soP (tp f) e (fac (tp f) e 1) (ps v l)) → (kp v v1) → (0 ≤ v1 5 ∧ v1 5 ≤ e ∧ (v1 7 = 0 ∨ v1 7 = 1) ∧ (l1.length : Int) ≤ v1 5) → V x cX12_some RX12 1 (rmU 10 215 0 0) [(h, co 12 (mO ad v1)), ((ad 1), cn 0 936 (wrS f a l1))] 4 [(0, ar h)] [] 0 0 := by
    intro mm
    induction mm using Nat.strongRecOn with
    | _ mm ih =>
      intro v1 l1 hmm hrr hkp hb1
      have hk4 : v1 4 = a := (hkp 4 (by decide) (by decide)).trans h4
      have hk6 : v1 6 = e := (hkp 6 (by decide) (by decide)).trans h6
      have hk8 : v1 8 = v 8 := hkp 8 (by decide) (by decide)
      refine v_aload_n (pc := 4) 0 rfl dX12_some_4 ?_
      refine v_get (pc := 5) (v := ai (v1 7)) 7 (Or.inr ⟨0, rfl⟩) fl_12_51_12 rfl dX12_some_5 ?_
      refine v_if_ne (pc := 8) 43 dX12_some_8 (by decide) (by unfold iB; omega) (fun c_5 => ?_) (fun c_5 => ?_)
      · skip
        exact hret (v1, l1) _ _ _ _ _ (by exact ⟨by rw [← hrr]; exact lpP_st (by show ¬ (v1 7 = 0 ∧ hrp (tp f) e (v1 5) = 124); omega), hkp⟩) rfl rfl (Nat.le_of_ble_eq_true rfl) (Nat.le_of_ble_eq_true rfl) dX12_some_43
      · skip
        refine v_aload_n (pc := 11) 0 rfl dX12_some_11 ?_
        refine v_callV (pc := 12) [] [0, 1] [(h, co 12 (mO ad v1)), ((ad 1), cn 0 936 (wrS f a l1))] (As := []) (rest := []) (c_X12_here ad v1 h f a e l1 (v1 5) (by first | omega | assumption) (by first | omega | assumption) (by show (v1 6) = e; omega) (by rfl) (by first | omega | assumption)) (c := 12) rfl (Or.inr ⟨0, rfl⟩) wl_X12_55 wi_X12_here wv_X12_X12_here_X12_here wk_X12_here wz_X12 md_X12_here rfl (Nat.le_of_ble_eq_true rfl) ⟨Nat.le_of_ble_eq_true rfl, Nat.le_of_ble_eq_true rfl, Nat.le_of_ble_eq_true rfl, Nat.le_of_ble_eq_true rfl⟩ rfl rfl rfl rfl (by decide) (ro_cons (Or.inr ⟨0, rfl, by decide⟩) (ro_cons (Or.inr ⟨1, rfl, by decide⟩) ro_nil)) dX12_some_12 (fun u hu => ?_)
        show V x cX12_some RX12 1 (rmU 10 215 0 0) [(h, co 12 (mO ad v1)), ((ad 1), cn 0 936 (wrS f a l1))] 15 [(0, ar h)] [ai (hrp (tp f) e (v1 5))] 0 0
        have hb_6 := hrp_b (p := (v1 5)) hT (by omega)
        refine v_bipush (pc := 15) dX12_some_15 (by decide) ?_
        refine v_icmp_ne (pc := 17) 43 dX12_some_17 (by decide) (by unfold iB; omega) (by unfold iB; omega) (fun c_7 => ?_) (fun c_7 => ?_)
        · skip
          exact hret (v1, l1) _ _ _ _ _ (by exact ⟨by rw [← hrr]; exact lpP_st (by show ¬ (v1 7 = 0 ∧ hrp (tp f) e (v1 5) = 124); omega), hkp⟩) rfl rfl (Nat.le_of_ble_eq_true rfl) (Nat.le_of_ble_eq_true rfl) dX12_some_43
        · skip
          refine v_aload_n (pc := 20) 0 rfl dX12_some_20 ?_
          refine v_dup (pc := 21) rfl dX12_some_21 ?_
          refine v_get (pc := 22) (v := ai (v1 5)) 5 (Or.inr ⟨0, rfl⟩) fl_12_45_12 rfl dX12_some_22 ?_
          refine v_iconst (pc := 25) dX12_some_25 ?_
          refine v_iadd (pc := 26) dX12_some_26 ?_
          refine v_put (pc := 27) 5 0 rfl fl_12_45_12 ck_12 ft_12_5 (okV_i _) (Nat.le_of_ble_eq_true rfl) (ws2 := [(h, co 12 (mO ad (nup v1 5 ((v1 5) + 1)))), ((ad 1), cn 0 936 (wrS f a l1))]) rfl dX12_some_27 ?_
          refine v_aload_n (pc := 30) 0 rfl dX12_some_30 ?_
          refine v_callV (pc := 31) [0, 1] [] [] (As := []) (rest := []) (c_every_1 ad (nup v1 5 ((v1 5) + 1)) h f a e l1 (by first | omega | assumption) (by first | omega | assumption) (by exact hT) (by show (v1 4) = a; omega) (by show (v1 6) = e; omega) (by exact ⟨by show 0 ≤ ((v1 5) + 1); omega, by show ((v1 5) + 1) ≤ e; omega, by show (v1 7) = 0 ∨ (v1 7) = 1; omega⟩) (by show ((l1.length : Nat) : Int) ≤ ((v1 5) + 1); omega) (by show (v1 8) = _; omega)) (c := 12) rfl (Or.inr ⟨0, rfl⟩) wl_X12_98 wi_X12_every wv_X12_X12_every_X12_every wk_X12_every wz_X12 md_X12_every rfl (Nat.le_of_ble_eq_true rfl) ⟨Nat.le_of_ble_eq_true rfl, Nat.le_of_ble_eq_true rfl, Nat.le_of_ble_eq_true rfl, Nat.le_of_ble_eq_true rfl⟩ rfl rfl rfl rfl (by decide) ro_nil dX12_some_31 (fun u hu => ?_)
          obtain ⟨v2_8, l2_9⟩ := u
          have g_10 : evP (tp f) e (fac (tp f) e 1) (ps (nup v1 5 ((v1 5) + 1)) l1) = ps v2_8 l2_9 ∧ kp (nup v1 5 ((v1 5) + 1)) v2_8 := hu
          show V x cX12_some RX12 1 (rmU 10 215 0 0) [(h, co 12 (mO ad v2_8)), ((ad 1), cn 0 936 (wrS f a l2_9))] 34 [(0, ar h)] [] 0 0
          have hn_11 : PN e (ps (nup v1 5 ((v1 5) + 1)) l1) (evP (tp f) e (fac (tp f) e 1) (ps (nup v1 5 ((v1 5) + 1)) l1)) := evP_k (fac_k (t := tp f) 1) _ ⟨by show 0 ≤ ((v1 5) + 1); omega, by show ((v1 5) + 1) ≤ e; omega, by show (v1 7) = 0 ∨ (v1 7) = 1; omega⟩
          rw [g_10.1] at hn_11
          have hn_11a : (0 ≤ v2_8 5 ∧ v2_8 5 ≤ e ∧ (v2_8 7 = 0 ∨ v2_8 7 = 1)) ∧ ((v1 5) + 1) ≤ v2_8 5 ∧ ((v1 5) + 1) - ((l1.length : Nat) : Int) ≤ v2_8 5 - ((l2_9.length : Nat) : Int) := hn_11
          have hn_11k4 : v2_8 4 = a := (g_10.2 4 (by decide) (by decide)).trans (by show (v1 4) = a; omega)
          have hn_11k6 : v2_8 6 = e := (g_10.2 6 (by decide) (by decide)).trans (by show (v1 6) = e; omega)
          have hn_11k8 : v2_8 8 = (v1 8) := (g_10.2 8 (by decide) (by decide)).trans (by show (v1 8) = (v1 8); omega)
          refine v_aload_n (pc := 34) 0 rfl dX12_some_34 ?_
          refine v_bipush (pc := 35) dX12_some_35 (by decide) ?_
          refine v_callV (pc := 37) [1] [0] [(h, co 12 (mO ad v2_8))] (As := [ai (-3)]) (rest := []) (c_X12_emits ad v2_8 h f a e l2_9 (-3) (by first | omega | assumption) (by first | omega | assumption) (by exact hT) (by show (v2_8 4) = a; omega) (by show (v2_8 6) = e; omega) (by exact ⟨by show 0 ≤ (v2_8 5); omega, by show (v2_8 5) ≤ e; omega, by show (v2_8 7) = 0 ∨ (v2_8 7) = 1; omega⟩) (by show ((l2_9.length : Nat) : Int) ≤ 139; omega)) (c := 12) rfl (Or.inr ⟨0, rfl⟩) wl_X12_81 wi_X12_emits wv_X12_X12_emits_X12_emits wk_X12_emits wz_X12 md_X12_emits rfl (Nat.le_of_ble_eq_true rfl) ⟨Nat.le_of_ble_eq_true rfl, Nat.le_of_ble_eq_true rfl, Nat.le_of_ble_eq_true rfl, Nat.le_of_ble_eq_true rfl⟩ rfl rfl rfl rfl (by decide) (ro_cons (Or.inr ⟨0, rfl, by decide⟩) ro_nil) dX12_some_37 (fun u hu => ?_)
          obtain ⟨l2_12, rfl⟩ : ∃ z, z = u := ⟨_, rfl⟩
          have g_13 : emi (-3) (ps v2_8 l2_9) = ps v2_8 l2_12 := hu
          show V x cX12_some RX12 1 (rmU 10 215 0 0) [(h, co 12 (mO ad v2_8)), ((ad 1), cn 0 936 (wrS f a l2_12))] 40 [(0, ar h)] [] 0 0
          refine v_goto (pc := 40) 4 dX12_some_40 (by decide) ?_
          exact ih _ (by omega) v2_8 l2_12 rfl (by rw [← hrr, lpP_go (s := ps v1 l1) (by decide) (evP_k (fac_k 1)) he.2 ⟨hb1.1, hb1.2.1, hb1.2.2.1⟩ (by show v1 7 = 0; omega) (by show hrp (tp f) e (v1 5) = _; omega)]; congr 1; rw [show evP (tp f) e (fac (tp f) e 1) (adv (ps v1 l1)) = _ from g_10.1]; exact g_13.symm) (by exact kp_tr (kp_5 hkp) g_10.2) (by have q := emi_len g_13; omega)
  exact lp4 _ v2_1 l2_2 rfl (by exact congrArg (lpP (tp f) e 124 (-3) (evP (tp f) e (fac (tp f) e 1)) 101) g_3.1.symm) (by exact g_3.2) (by omega)
set_option maxHeartbeats 4000000 in
set_option maxRecDepth 100000 in
theorem c_factor_2 {gS : sG} (ad : Nat → Nat) (v : Nat → Int) (h : Nat) (f : Int → Int) (a : Int) (e : Int) (l : List Int) (ha : 0 ≤ a ∧ a ≤ 4) (he : 0 ≤ e ∧ e ≤ 100) (hT : ∀ j : Int, 0 ≤ j → j < e → 0 ≤ f (121 + j) ∧ f (121 + j) ≤ 127) (h4 : v 4 = a) (h6 : v 6 = e) (hB : PB e (ps v l)) (hl : (l.length : Int) ≤ v 5) (h8 : v 8 = 3) : Ct gS (S := (Nat → Int) × List Int) yX12_factor cX12_factor 5 none 11 235 0 0 [ar h] [(h, co 12 (mO ad v)), ((ad 1), cn 0 936 (wrS f a l))] (fun q => q ∈ ([] : aW)) (fun u => fac (tp f) e 2 (ps v l) = ps u.1 u.2 ∧ kp v u.1) (fun u => none) (fun u => [(h, co 12 (mO ad u.1)), ((ad 1), cn 0 936 (wrS f a u.2))]) := by
  refine ct_V RX12 [(0, ar h)] (by decide) rfl (Nat.le_of_ble_eq_true rfl) rfl (fun x hgS hnm hro hret => ?_)
  subst hgS
  have hB1 : 0 ≤ v 5 := hB.1
  have hB2 : v 5 ≤ e := hB.2.1
  have hB3 : v 7 = 0 ∨ v 7 = 1 := hB.2.2
  show V x cX12_factor RX12 5 (rmU 11 235 0 0) [(h, co 12 (mO ad v)), ((ad 1), cn 0 936 (wrS f a l))] 0 [(0, ar h)] [] 0 0
  refine v_aload_n (pc := 0) 0 rfl dX12_factor_0 ?_
  refine v_get (pc := 1) (v := ai (v 7)) 7 (Or.inr ⟨0, rfl⟩) fl_12_51_12 rfl dX12_factor_1 ?_
  refine v_if_eq (pc := 4) 8 dX12_factor_4 (by decide) (by unfold iB; omega) (fun c_1 => ?_) (fun c_1 => ?_)
  · skip
    refine v_aload_n (pc := 8) 0 rfl dX12_factor_8 ?_
    refine v_callV (pc := 9) [] [0, 1] [(h, co 12 (mO ad v)), ((ad 1), cn 0 936 (wrS f a l))] (As := []) (rest := []) (c_X12_here ad v h f a e l (v 5) (by first | omega | assumption) (by first | omega | assumption) (by show (v 6) = e; omega) (by rfl) (by first | omega | assumption)) (c := 12) rfl (Or.inr ⟨0, rfl⟩) wl_X12_55 wi_X12_here wv_X12_X12_here_X12_here wk_X12_here wz_X12 md_X12_here rfl (Nat.le_of_ble_eq_true rfl) ⟨Nat.le_of_ble_eq_true rfl, Nat.le_of_ble_eq_true rfl, Nat.le_of_ble_eq_true rfl, Nat.le_of_ble_eq_true rfl⟩ rfl rfl rfl rfl (by decide) (ro_cons (Or.inr ⟨0, rfl, by decide⟩) (ro_cons (Or.inr ⟨1, rfl, by decide⟩) ro_nil)) dX12_factor_9 (fun u hu => ?_)
    show V x cX12_factor RX12 5 (rmU 11 235 0 0) [(h, co 12 (mO ad v)), ((ad 1), cn 0 936 (wrS f a l))] 12 [(0, ar h)] [ai (hrp (tp f) e (v 5))] 0 0
    have hb_2 := hrp_b (p := (v 5)) hT (by omega)
    refine v_istore_n (pc := 12) (L2 := [(1, ai (hrp (tp f) e (v 5))), (0, ar h)]) rfl (by decide) dX12_factor_12 ?_
    refine v_iload_n (pc := 13) 0 rfl dX12_factor_13 ?_
    refine v_bipush (pc := 14) dX12_factor_14 (by decide) ?_
    refine v_icmp_eq (pc := 16) 25 dX12_factor_16 (by decide) (by unfold iB; omega) (by unfold iB; omega) (fun c_3 => ?_) (fun c_3 => ?_)
    · skip
      refine v_aload_n (pc := 25) 1 rfl dX12_factor_25 ?_
      refine v_aload_n (pc := 26) 1 rfl dX12_factor_26 ?_
      refine v_get (pc := 27) (v := ai (v 8)) 8 (Or.inr ⟨0, rfl⟩) fl_12_75_12 rfl dX12_factor_27 ?_
      refine v_iconst (pc := 30) dX12_factor_30 ?_
      refine v_icmp_ne (pc := 31) 38 dX12_factor_31 (by decide) (by unfold iB; omega) (by unfold iB; omega) (fun c_4 => ?_) (fun c_4 => ?_)
      · skip
        refine v_iconst (pc := 38) dX12_factor_38 ?_
        refine v_put (pc := 39) 7 0 rfl fl_12_51_12 ck_12 ft_12_7 okV_z0 (Nat.le_of_ble_eq_true rfl) (ws2 := [(h, co 12 (mO ad (nup v 7 0))), ((ad 1), cn 0 936 (wrS f a l))]) rfl dX12_factor_39 ?_
        refine v_aload_n (pc := 42) 1 rfl dX12_factor_42 ?_
        refine v_dup (pc := 43) rfl dX12_factor_43 ?_
        refine v_get (pc := 44) (v := ai (v 8)) 8 (Or.inr ⟨0, rfl⟩) fl_12_75_12 rfl dX12_factor_44 ?_
        refine v_iconst (pc := 47) dX12_factor_47 ?_
        refine v_iadd (pc := 48) dX12_factor_48 ?_
        refine v_put (pc := 49) 8 0 rfl fl_12_75_12 ck_12 ft_12_8 (okV_i _) (Nat.le_of_ble_eq_true rfl) (ws2 := [(h, co 12 (mO ad (nup (nup v 7 0) 8 ((v 8) + 1)))), ((ad 1), cn 0 936 (wrS f a l))]) rfl dX12_factor_49 ?_
        refine v_aload_n (pc := 52) 1 rfl dX12_factor_52 ?_
        refine v_dup (pc := 53) rfl dX12_factor_53 ?_
        refine v_get (pc := 54) (v := ai (v 5)) 5 (Or.inr ⟨0, rfl⟩) fl_12_45_12 rfl dX12_factor_54 ?_
        refine v_aload_n (pc := 57) 1 rfl dX12_factor_57 ?_
        refine v_get (pc := 58) (v := ai 0) 7 (Or.inr ⟨0, rfl⟩) fl_12_51_12 rfl dX12_factor_58 ?_
        refine v_if_eq (pc := 61) 68 dX12_factor_61 (by decide) (by unfold iB; omega) (fun c_5 => ?_) (fun c_5 => by exfalso; omega)
        refine v_iconst (pc := 68) dX12_factor_68 ?_
        refine v_iadd (pc := 69) dX12_factor_69 ?_
        refine v_put (pc := 70) 5 0 rfl fl_12_45_12 ck_12 ft_12_5 (okV_i _) (Nat.le_of_ble_eq_true rfl) (ws2 := [(h, co 12 (mO ad (nup (nup (nup v 7 0) 8 ((v 8) + 1)) 5 ((v 5) + 1)))), ((ad 1), cn 0 936 (wrS f a l))]) rfl dX12_factor_70 ?_
        refine v_iload_n (pc := 73) 0 rfl dX12_factor_73 ?_
        refine v_bipush (pc := 74) dX12_factor_74 (by decide) ?_
        refine v_icmp_ne (pc := 76) 91 dX12_factor_76 (by decide) (by unfold iB; omega) (by unfold iB; omega) (fun c_6 => ?_) (fun c_6 => ?_)
        · skip
          exfalso; omega
        · skip
          refine v_aload_n (pc := 79) 1 rfl dX12_factor_79 ?_
          refine v_callV (pc := 80) [0, 1] [] [] (As := []) (rest := []) (c_factor_1 ad (nup (nup (nup v 7 0) 8 ((v 8) + 1)) 5 ((v 5) + 1)) h f a e l (by first | omega | assumption) (by first | omega | assumption) (by exact hT) (by show (v 4) = a; omega) (by show (v 6) = e; omega) (by exact ⟨by show 0 ≤ ((v 5) + 1); omega, by show ((v 5) + 1) ≤ e; omega, by show 0 = 0 ∨ 0 = 1; omega⟩) (by show ((l.length : Nat) : Int) ≤ ((v 5) + 1); omega) (by show ((v 8) + 1) = _; omega)) (c := 12) rfl (Or.inr ⟨0, rfl⟩) wl_X12_78 wi_X12_factor wv_X12_X12_factor_X12_factor wk_X12_factor wz_X12 md_X12_factor rfl (Nat.le_of_ble_eq_true rfl) ⟨Nat.le_of_ble_eq_true rfl, Nat.le_of_ble_eq_true rfl, Nat.le_of_ble_eq_true rfl, Nat.le_of_ble_eq_true rfl⟩ rfl rfl rfl rfl (by decide) ro_nil dX12_factor_80 (fun u hu => ?_)
          obtain ⟨v2_7, l2_8⟩ := u
          have g_9 : fac (tp f) e 1 (ps (nup (nup (nup v 7 0) 8 ((v 8) + 1)) 5 ((v 5) + 1)) l) = ps v2_7 l2_8 ∧ kp (nup (nup (nup v 7 0) 8 ((v 8) + 1)) 5 ((v 5) + 1)) v2_7 := hu
          show V x cX12_factor RX12 5 (rmU 11 235 0 0) [(h, co 12 (mO ad v2_7)), ((ad 1), cn 0 936 (wrS f a l2_8))] 83 [(1, ai (hrp (tp f) e (v 5))), (0, ar h)] [] 0 0
          have hn_10 : PN e (ps (nup (nup (nup v 7 0) 8 ((v 8) + 1)) 5 ((v 5) + 1)) l) (fac (tp f) e 1 (ps (nup (nup (nup v 7 0) 8 ((v 8) + 1)) 5 ((v 5) + 1)) l)) := fac_k (t := tp f) 1 _ ⟨by show 0 ≤ ((v 5) + 1); omega, by show ((v 5) + 1) ≤ e; omega, by show 0 = 0 ∨ 0 = 1; omega⟩
          rw [g_9.1] at hn_10
          have hn_10a : (0 ≤ v2_7 5 ∧ v2_7 5 ≤ e ∧ (v2_7 7 = 0 ∨ v2_7 7 = 1)) ∧ ((v 5) + 1) ≤ v2_7 5 ∧ ((v 5) + 1) - ((l.length : Nat) : Int) ≤ v2_7 5 - ((l2_8.length : Nat) : Int) := hn_10
          have hn_10k4 : v2_7 4 = a := (g_9.2 4 (by decide) (by decide)).trans (by show (v 4) = a; omega)
          have hn_10k6 : v2_7 6 = e := (g_9.2 6 (by decide) (by decide)).trans (by show (v 6) = e; omega)
          have hn_10k8 : v2_7 8 = ((v 8) + 1) := (g_9.2 8 (by decide) (by decide)).trans (by show ((v 8) + 1) = ((v 8) + 1); omega)
          refine v_aload_n (pc := 83) 1 rfl dX12_factor_83 ?_
          refine v_iconst (pc := 84) dX12_factor_84 ?_
          refine v_callV (pc := 85) [1] [0] [(h, co 12 (mO ad v2_7))] (As := [ai (-1)]) (rest := []) (c_X12_emits ad v2_7 h f a e l2_8 (-1) (by first | omega | assumption) (by first | omega | assumption) (by exact hT) (by show (v2_7 4) = a; omega) (by show (v2_7 6) = e; omega) (by exact ⟨by show 0 ≤ (v2_7 5); omega, by show (v2_7 5) ≤ e; omega, by show (v2_7 7) = 0 ∨ (v2_7 7) = 1; omega⟩) (by show ((l2_8.length : Nat) : Int) ≤ 139; omega)) (c := 12) rfl (Or.inr ⟨0, rfl⟩) wl_X12_81 wi_X12_emits wv_X12_X12_emits_X12_emits wk_X12_emits wz_X12 md_X12_emits rfl (Nat.le_of_ble_eq_true rfl) ⟨Nat.le_of_ble_eq_true rfl, Nat.le_of_ble_eq_true rfl, Nat.le_of_ble_eq_true rfl, Nat.le_of_ble_eq_true rfl⟩ rfl rfl rfl rfl (by decide) (ro_cons (Or.inr ⟨0, rfl, by decide⟩) ro_nil) dX12_factor_85 (fun u hu => ?_)
          obtain ⟨l2_11, rfl⟩ : ∃ z, z = u := ⟨_, rfl⟩
          have g_12 : emi (-1) (ps v2_7 l2_8) = ps v2_7 l2_11 := hu
          show V x cX12_factor RX12 5 (rmU 11 235 0 0) [(h, co 12 (mO ad v2_7)), ((ad 1), cn 0 936 (wrS f a l2_11))] 88 [(1, ai (hrp (tp f) e (v 5))), (0, ar h)] [] 0 0
          refine v_goto (pc := 88) 101 dX12_factor_88 (by decide) ?_
          refine v_aload_n (pc := 101) 1 rfl dX12_factor_101 ?_
          refine v_dup (pc := 102) rfl dX12_factor_102 ?_
          refine v_get (pc := 103) (v := ai (v2_7 8)) 8 (Or.inr ⟨0, rfl⟩) fl_12_75_12 rfl dX12_factor_103 ?_
          refine v_iconst (pc := 106) dX12_factor_106 ?_
          refine v_isub (pc := 107) dX12_factor_107 ?_
          refine v_put (pc := 108) 8 0 rfl fl_12_75_12 ck_12 ft_12_8 (okV_i _) (Nat.le_of_ble_eq_true rfl) (ws2 := [(h, co 12 (mO ad (nup v2_7 8 ((v2_7 8) - 1)))), ((ad 1), cn 0 936 (wrS f a l2_11))]) rfl dX12_factor_108 ?_
          exact hret ((nup v2_7 8 ((v2_7 8) - 1)), l2_11) _ _ _ _ _ (by exact ⟨fac_not (by omega) (by omega) g_9.1 g_12 rfl rfl, kp_8 g_9.2⟩) rfl rfl (Nat.le_of_ble_eq_true rfl) (Nat.le_of_ble_eq_true rfl) dX12_factor_111
      · skip
        exfalso; omega
    · skip
      refine v_iload_n (pc := 19) 0 rfl dX12_factor_19 ?_
      refine v_bipush (pc := 20) dX12_factor_20 (by decide) ?_
      refine v_icmp_ne (pc := 22) 112 dX12_factor_22 (by decide) (by unfold iB; omega) (by unfold iB; omega) (fun c_13 => ?_) (fun c_13 => ?_)
      · skip
        refine v_aload_n (pc := 112) 1 rfl dX12_factor_112 ?_
        refine v_ldcS (pc := 113) (q := ("MatFlipModel", 87, "pkngsy", 7)) (List.mem_of_getElem? (i := 12) rfl) rfl dX12_factor_113 ?_
        refine v_callV (pc := 115) [0] [1] [((ad 1), cn 0 936 (wrS f a l))] (As := [ar (lK (xg x) 7)]) (rest := []) (c_X12_among ad v h f a e l 7 (by first | omega | assumption) (by first | omega | assumption) (by exact hT) (by show (v 4) = a; omega) (by show (v 6) = e; omega) (by exact ⟨by show 0 ≤ (v 5); omega, by show (v 5) ≤ e; omega, by show (v 7) = 0 ∨ (v 7) = 1; omega⟩) (by first | omega | assumption)) (c := 12) rfl (Or.inr ⟨0, rfl⟩) wl_X12_89 wi_X12_among wv_X12_X12_among_X12_among wk_X12_among wz_X12 md_X12_among rfl (Nat.le_of_ble_eq_true rfl) ⟨Nat.le_of_ble_eq_true rfl, Nat.le_of_ble_eq_true rfl, Nat.le_of_ble_eq_true rfl, Nat.le_of_ble_eq_true rfl⟩ rfl rfl rfl rfl (by decide) (ro_cons (Or.inr ⟨1, rfl, by decide⟩) ro_nil) dX12_factor_115 (fun u hu => ?_)
        obtain ⟨v2_14, rfl⟩ : ∃ z, z = u := ⟨_, rfl⟩
        have g_15 : (am (tp f) e 7 (ps v l)).2 = ps v2_14 l ∧ kp v v2_14 := hu
        show V x cX12_factor RX12 5 (rmU 11 235 0 0) [((ad 1), cn 0 936 (wrS f a l)), (h, co 12 (mO ad v2_14))] 118 [(1, ai (hrp (tp f) e (v 5))), (0, ar h)] [ai ((am (tp f) e 7 (ps v l)).1)] 0 0
        obtain ⟨hb7a, hb7b, -, -⟩ := am_b (t := tp f) (e := e) (i := 7) (s := ps v l) (by decide)
        have hl7 := len_b (i := 7) (by decide)
        have h77 : v2_14 7 = v 7 := by have q := am_7 (t := tp f) (e := e) (i := 7) (s := ps v l); rw [g_15.1] at q; exact congrArg Prod.fst q
        have hn_16 : PN e (ps v l) ((am (tp f) e 7 (ps v l)).2) := am_k (t := tp f) (by omega) _ ⟨by show 0 ≤ (v 5); omega, by show (v 5) ≤ e; omega, by show (v 7) = 0 ∨ (v 7) = 1; omega⟩
        rw [g_15.1] at hn_16
        have hn_16a : (0 ≤ v2_14 5 ∧ v2_14 5 ≤ e ∧ (v2_14 7 = 0 ∨ v2_14 7 = 1)) ∧ (v 5) ≤ v2_14 5 ∧ (v 5) - ((l.length : Nat) : Int) ≤ v2_14 5 - ((l.length : Nat) : Int) := hn_16
        have hn_16k4 : v2_14 4 = a := (g_15.2 4 (by decide) (by decide)).trans (by show (v 4) = a; omega)
        have hn_16k6 : v2_14 6 = e := (g_15.2 6 (by decide) (by decide)).trans (by show (v 6) = e; omega)
        have hn_16k8 : v2_14 8 = (v 8) := (g_15.2 8 (by decide) (by decide)).trans (by show (v 8) = (v 8); omega)
        refine v_istore_n (pc := 118) (L2 := [(2, ai ((am (tp f) e 7 (ps v l)).1)), (1, ai (hrp (tp f) e (v 5))), (0, ar h)]) rfl (by decide) dX12_factor_118 ?_
        refine v_aload_n (pc := 119) 2 rfl dX12_factor_119 ?_
        refine v_iload_n (pc := 120) 0 rfl dX12_factor_120 ?_
        refine v_iconst (pc := 121) dX12_factor_121 ?_
        refine v_icmp_ne (pc := 122) 129 dX12_factor_122 (by decide) (by unfold iB; omega) (by unfold iB; omega) (fun c_17 => ?_) (fun c_17 => ?_)
        · skip
          refine v_iconst (pc := 129) dX12_factor_129 ?_
          refine v_put (pc := 130) 7 1 rfl fl_12_51_12 ck_12 ft_12_7 okV_z0 (Nat.le_of_ble_eq_true rfl) (ws2 := [((ad 1), cn 0 936 (wrS f a l)), (h, co 12 (mO ad (nup v2_14 7 0)))]) rfl dX12_factor_130 ?_
          refine v_aload_n (pc := 133) 2 rfl dX12_factor_133 ?_
          refine v_get (pc := 134) (v := ai 0) 7 (Or.inr ⟨1, rfl⟩) fl_12_51_12 rfl dX12_factor_134 ?_
          refine v_if_eq (pc := 137) 144 dX12_factor_137 (by decide) (by unfold iB; omega) (fun c_18 => ?_) (fun c_18 => by exfalso; omega)
          refine v_aload_n (pc := 144) 2 rfl dX12_factor_144 ?_
          refine v_ldcS (pc := 145) (q := ("MatFlipModel", 93, "<=>", 8)) (List.mem_of_getElem? (i := 13) rfl) rfl dX12_factor_145 ?_
          refine v_callV (pc := 147) [1] [0] [((ad 1), cn 0 936 (wrS f a l))] (As := [ar (lK (xg x) 8)]) (rest := []) (c_X12_among ad (nup v2_14 7 0) h f a e l 8 (by first | omega | assumption) (by first | omega | assumption) (by exact hT) (by show (v2_14 4) = a; omega) (by show (v2_14 6) = e; omega) (by exact ⟨by show 0 ≤ (v2_14 5); omega, by show (v2_14 5) ≤ e; omega, by show 0 = 0 ∨ 0 = 1; omega⟩) (by first | omega | assumption)) (c := 12) rfl (Or.inr ⟨1, rfl⟩) wl_X12_89 wi_X12_among wv_X12_X12_among_X12_among wk_X12_among wz_X12 md_X12_among rfl (Nat.le_of_ble_eq_true rfl) ⟨Nat.le_of_ble_eq_true rfl, Nat.le_of_ble_eq_true rfl, Nat.le_of_ble_eq_true rfl, Nat.le_of_ble_eq_true rfl⟩ rfl rfl rfl rfl (by decide) (ro_cons (Or.inr ⟨0, rfl, by decide⟩) ro_nil) dX12_factor_147 (fun u hu => ?_)
          obtain ⟨v2_19, rfl⟩ : ∃ z, z = u := ⟨_, rfl⟩
          have g_20 : (am (tp f) e 8 (ps (nup v2_14 7 0) l)).2 = ps v2_19 l ∧ kp (nup v2_14 7 0) v2_19 := hu
          show V x cX12_factor RX12 5 (rmU 11 235 0 0) [((ad 1), cn 0 936 (wrS f a l)), (h, co 12 (mO ad v2_19))] 150 [(2, ai ((am (tp f) e 7 (ps v l)).1)), (1, ai (hrp (tp f) e (v 5))), (0, ar h)] [ai ((am (tp f) e 8 (ps (nup v2_14 7 0) l)).1)] 0 0
          obtain ⟨hb8a, hb8b, -, -⟩ := am_b (t := tp f) (e := e) (i := 8) (s := (ps (nup v2_14 7 0) l)) (by decide)
          have hl8 := len_b (i := 8) (by decide)
          have h87 : v2_19 7 = 0 := by have q := am_7 (t := tp f) (e := e) (i := 8) (s := (ps (nup v2_14 7 0) l)); rw [g_20.1] at q; exact congrArg Prod.fst q
          have hn_21 : PN e (ps (nup v2_14 7 0) l) ((am (tp f) e 8 (ps (nup v2_14 7 0) l)).2) := am_k (t := tp f) (by omega) _ ⟨by show 0 ≤ (v2_14 5); omega, by show (v2_14 5) ≤ e; omega, by show 0 = 0 ∨ 0 = 1; omega⟩
          rw [g_20.1] at hn_21
          have hn_21a : (0 ≤ v2_19 5 ∧ v2_19 5 ≤ e ∧ (v2_19 7 = 0 ∨ v2_19 7 = 1)) ∧ (v2_14 5) ≤ v2_19 5 ∧ (v2_14 5) - ((l.length : Nat) : Int) ≤ v2_19 5 - ((l.length : Nat) : Int) := hn_21
          have hn_21k4 : v2_19 4 = a := (g_20.2 4 (by decide) (by decide)).trans (by show (v2_14 4) = a; omega)
          have hn_21k6 : v2_19 6 = e := (g_20.2 6 (by decide) (by decide)).trans (by show (v2_14 6) = e; omega)
          have hn_21k8 : v2_19 8 = (v2_14 8) := (g_20.2 8 (by decide) (by decide)).trans (by show (v2_14 8) = (v2_14 8); omega)
          refine v_istore_n (pc := 150) (L2 := [(3, ai ((am (tp f) e 8 (ps (nup v2_14 7 0) l)).1)), (2, ai ((am (tp f) e 7 (ps v l)).1)), (1, ai (hrp (tp f) e (v 5))), (0, ar h)]) rfl (by decide) dX12_factor_150 ?_
          refine v_aload_n (pc := 151) 3 rfl dX12_factor_151 ?_
          refine v_aload_n (pc := 152) 3 rfl dX12_factor_152 ?_
          refine v_get (pc := 153) (v := ai (v2_19 7)) 7 (Or.inr ⟨1, rfl⟩) fl_12_51_12 rfl dX12_factor_153 ?_
          refine v_if_ne (pc := 156) 164 dX12_factor_156 (by decide) (by unfold iB; omega) (fun c_22 => ?_) (fun c_22 => ?_)
          · skip
            exfalso; omega
          · skip
            refine v_iload_n (pc := 159) 0 rfl dX12_factor_159 ?_
            refine v_iconst (pc := 160) dX12_factor_160 ?_
            refine v_icmp_ne (pc := 161) 168 dX12_factor_161 (by decide) (by unfold iB; omega) (by unfold iB; omega) (fun c_23 => ?_) (fun c_23 => ?_)
            · skip
              refine v_iconst (pc := 168) dX12_factor_168 ?_
              refine v_put (pc := 169) 7 1 rfl fl_12_51_12 ck_12 ft_12_7 okV_z0 (Nat.le_of_ble_eq_true rfl) (ws2 := [((ad 1), cn 0 936 (wrS f a l)), (h, co 12 (mO ad (nup v2_19 7 0)))]) rfl dX12_factor_169 ?_
              refine v_aload_n (pc := 172) 3 rfl dX12_factor_172 ?_
              refine v_callV (pc := 173) [1] [0] [((ad 1), cn 0 936 (wrS f a l))] (As := []) (rest := []) (c_X12_figures ad (nup v2_19 7 0) h f a e l (by first | omega | assumption) (by first | omega | assumption) (by exact hT) (by show (v2_19 4) = a; omega) (by show (v2_19 6) = e; omega) (by exact ⟨by show 0 ≤ (v2_19 5); omega, by show (v2_19 5) ≤ e; omega, by show 0 = 0 ∨ 0 = 1; omega⟩)) (c := 12) rfl (Or.inr ⟨1, rfl⟩) wl_X12_95 wi_X12_figures wv_X12_X12_figures_X12_figures wk_X12_figures wz_X12 md_X12_figures rfl (Nat.le_of_ble_eq_true rfl) ⟨Nat.le_of_ble_eq_true rfl, Nat.le_of_ble_eq_true rfl, Nat.le_of_ble_eq_true rfl, Nat.le_of_ble_eq_true rfl⟩ rfl rfl rfl rfl (by decide) (ro_cons (Or.inr ⟨0, rfl, by decide⟩) ro_nil) dX12_factor_173 (fun u hu => ?_)
              obtain ⟨v2_24, rfl⟩ : ∃ z, z = u := ⟨_, rfl⟩
              have g_25 : (fig (tp f) e (ps (nup v2_19 7 0) l)).2 = ps v2_24 l ∧ kp (nup v2_19 7 0) v2_24 := hu
              show V x cX12_factor RX12 5 (rmU 11 235 0 0) [((ad 1), cn 0 936 (wrS f a l)), (h, co 12 (mO ad v2_24))] 176 [(3, ai ((am (tp f) e 8 (ps (nup v2_14 7 0) l)).1)), (2, ai ((am (tp f) e 7 (ps v l)).1)), (1, ai (hrp (tp f) e (v 5))), (0, ar h)] [ai ((fig (tp f) e (ps (nup v2_19 7 0) l)).1)] 0 0
              have hn_26 : PN e (ps (nup v2_19 7 0) l) ((fig (tp f) e (ps (nup v2_19 7 0) l)).2) := fig_k (t := tp f) _ ⟨by show 0 ≤ (v2_19 5); omega, by show (v2_19 5) ≤ e; omega, by show 0 = 0 ∨ 0 = 1; omega⟩
              rw [g_25.1] at hn_26
              have hn_26a : (0 ≤ v2_24 5 ∧ v2_24 5 ≤ e ∧ (v2_24 7 = 0 ∨ v2_24 7 = 1)) ∧ (v2_19 5) ≤ v2_24 5 ∧ (v2_19 5) - ((l.length : Nat) : Int) ≤ v2_24 5 - ((l.length : Nat) : Int) := hn_26
              have hn_26k4 : v2_24 4 = a := (g_25.2 4 (by decide) (by decide)).trans (by show (v2_19 4) = a; omega)
              have hn_26k6 : v2_24 6 = e := (g_25.2 6 (by decide) (by decide)).trans (by show (v2_19 6) = e; omega)
              have hn_26k8 : v2_24 8 = (v2_19 8) := (g_25.2 8 (by decide) (by decide)).trans (by show (v2_19 8) = (v2_19 8); omega)
              refine v_istore (pc := 176) (L2 := [(4, ai ((fig (tp f) e (ps (nup v2_19 7 0) l)).1)), (3, ai ((am (tp f) e 8 (ps (nup v2_14 7 0) l)).1)), (2, ai ((am (tp f) e 7 (ps v l)).1)), (1, ai (hrp (tp f) e (v 5))), (0, ar h)]) rfl (by decide) dX12_factor_176 ?_
              refine v_aload_n (pc := 178) 4 rfl dX12_factor_178 ?_
              refine v_iload_n (pc := 179) 2 rfl dX12_factor_179 ?_
              refine v_bipush (pc := 180) dX12_factor_180 (by decide) ?_
              refine v_iload_n (pc := 182) 1 rfl dX12_factor_182 ?_
              refine v_imul (pc := 183) dX12_factor_183 ?_
              refine v_iadd (pc := 184) dX12_factor_184 ?_
              refine v_bipush (pc := 185) dX12_factor_185 (by decide) ?_
              refine v_iload (pc := 187) 0 rfl dX12_factor_187 ?_
              refine v_imul (pc := 189) dX12_factor_189 ?_
              refine v_iadd (pc := 190) dX12_factor_190 ?_
              refine v_callV (pc := 191) [0] [1] [(h, co 12 (mO ad v2_24))] (As := [ai (((am (tp f) e 7 (ps v l)).1 + (8 * (am (tp f) e 8 (ps (nup v2_14 7 0) l)).1)) + (32 * (fig (tp f) e (ps (nup v2_19 7 0) l)).1))]) (rest := []) (c_X12_emits ad v2_24 h f a e l (((am (tp f) e 7 (ps v l)).1 + (8 * (am (tp f) e 8 (ps (nup v2_14 7 0) l)).1)) + (32 * (fig (tp f) e (ps (nup v2_19 7 0) l)).1)) (by first | omega | assumption) (by first | omega | assumption) (by exact hT) (by show (v2_24 4) = a; omega) (by show (v2_24 6) = e; omega) (by exact ⟨by show 0 ≤ (v2_24 5); omega, by show (v2_24 5) ≤ e; omega, by show (v2_24 7) = 0 ∨ (v2_24 7) = 1; omega⟩) (by show ((l.length : Nat) : Int) ≤ 139; omega)) (c := 12) rfl (Or.inr ⟨1, rfl⟩) wl_X12_81 wi_X12_emits wv_X12_X12_emits_X12_emits wk_X12_emits wz_X12 md_X12_emits rfl (Nat.le_of_ble_eq_true rfl) ⟨Nat.le_of_ble_eq_true rfl, Nat.le_of_ble_eq_true rfl, Nat.le_of_ble_eq_true rfl, Nat.le_of_ble_eq_true rfl⟩ rfl rfl rfl rfl (by decide) (ro_cons (Or.inr ⟨1, rfl, by decide⟩) ro_nil) dX12_factor_191 (fun u hu => ?_)
              obtain ⟨l2_27, rfl⟩ : ∃ z, z = u := ⟨_, rfl⟩
              have g_28 : emi (((am (tp f) e 7 (ps v l)).1 + (8 * (am (tp f) e 8 (ps (nup v2_14 7 0) l)).1)) + (32 * (fig (tp f) e (ps (nup v2_19 7 0) l)).1)) (ps v2_24 l) = ps v2_24 l2_27 := hu
              show V x cX12_factor RX12 5 (rmU 11 235 0 0) [(h, co 12 (mO ad v2_24)), ((ad 1), cn 0 936 (wrS f a l2_27))] 194 [(4, ai ((fig (tp f) e (ps (nup v2_19 7 0) l)).1)), (3, ai ((am (tp f) e 8 (ps (nup v2_14 7 0) l)).1)), (2, ai ((am (tp f) e 7 (ps v l)).1)), (1, ai (hrp (tp f) e (v 5))), (0, ar h)] [] 0 0
              have ha1 : am (tp f) e 7 (ps v l) = ((am (tp f) e 7 (ps v l)).1, ps v2_14 l) := pr_of g_15.1
              have hb1 : (if (am (tp f) e 7 (ps v l)).1 = -1 then bad (ps v2_14 l) else ps v2_14 l) = ps (nup v2_14 7 0) l := by rw [if_neg (by omega)]; exact ps_70 (by omega)
              have ha2 : tsB (tp f) e (ps (nup v2_14 7 0) l) = ((am (tp f) e 8 (ps (nup v2_14 7 0) l)).1, ps v2_19 l) := (if_pos rfl).trans (pr_of g_20.1)
              have hb2 : (if (am (tp f) e 8 (ps (nup v2_14 7 0) l)).1 = -1 then bad (ps v2_19 l) else ps v2_19 l) = ps (nup v2_19 7 0) l := by first | (rw [if_pos (by omega)]; done) | (rw [if_pos (by omega)]; rfl) | (rw [if_neg (by omega)]; exact ps_70 (by omega))
              have ha3 : fig (tp f) e (ps (nup v2_19 7 0) l) = ((fig (tp f) e (ps (nup v2_19 7 0) l)).1, ps v2_24 l) := pr_of g_25.1
              exact hret (v2_24, l2_27) _ _ _ _ _ (by exact ⟨fac_tst (by omega) (by omega) (by omega) (tsp_of ha1 hb1 ha2 hb2 ha3 g_28), kp_tr (kp_7 (kp_tr (kp_7 g_15.2) g_20.2)) g_25.2⟩) rfl rfl (Nat.le_of_ble_eq_true rfl) (Nat.le_of_ble_eq_true rfl) dX12_factor_194
            · skip
              refine v_iconst (pc := 164) dX12_factor_164 ?_
              refine v_goto (pc := 165) 169 dX12_factor_165 (by decide) ?_
              refine v_put (pc := 169) 7 1 rfl fl_12_51_12 ck_12 ft_12_7 okV_z1 (Nat.le_of_ble_eq_true rfl) (ws2 := [((ad 1), cn 0 936 (wrS f a l)), (h, co 12 (mO ad (nup v2_19 7 1)))]) rfl dX12_factor_169 ?_
              refine v_aload_n (pc := 172) 3 rfl dX12_factor_172 ?_
              refine v_callV (pc := 173) [1] [0] [((ad 1), cn 0 936 (wrS f a l))] (As := []) (rest := []) (c_X12_figures ad (nup v2_19 7 1) h f a e l (by first | omega | assumption) (by first | omega | assumption) (by exact hT) (by show (v2_19 4) = a; omega) (by show (v2_19 6) = e; omega) (by exact ⟨by show 0 ≤ (v2_19 5); omega, by show (v2_19 5) ≤ e; omega, by show 1 = 0 ∨ 1 = 1; omega⟩)) (c := 12) rfl (Or.inr ⟨1, rfl⟩) wl_X12_95 wi_X12_figures wv_X12_X12_figures_X12_figures wk_X12_figures wz_X12 md_X12_figures rfl (Nat.le_of_ble_eq_true rfl) ⟨Nat.le_of_ble_eq_true rfl, Nat.le_of_ble_eq_true rfl, Nat.le_of_ble_eq_true rfl, Nat.le_of_ble_eq_true rfl⟩ rfl rfl rfl rfl (by decide) (ro_cons (Or.inr ⟨0, rfl, by decide⟩) ro_nil) dX12_factor_173 (fun u hu => ?_)
              obtain ⟨v2_29, rfl⟩ : ∃ z, z = u := ⟨_, rfl⟩
              have g_30 : (fig (tp f) e (ps (nup v2_19 7 1) l)).2 = ps v2_29 l ∧ kp (nup v2_19 7 1) v2_29 := hu
              show V x cX12_factor RX12 5 (rmU 11 235 0 0) [((ad 1), cn 0 936 (wrS f a l)), (h, co 12 (mO ad v2_29))] 176 [(3, ai ((am (tp f) e 8 (ps (nup v2_14 7 0) l)).1)), (2, ai ((am (tp f) e 7 (ps v l)).1)), (1, ai (hrp (tp f) e (v 5))), (0, ar h)] [ai ((fig (tp f) e (ps (nup v2_19 7 1) l)).1)] 0 0
              have hn_31 : PN e (ps (nup v2_19 7 1) l) ((fig (tp f) e (ps (nup v2_19 7 1) l)).2) := fig_k (t := tp f) _ ⟨by show 0 ≤ (v2_19 5); omega, by show (v2_19 5) ≤ e; omega, by show 1 = 0 ∨ 1 = 1; omega⟩
              rw [g_30.1] at hn_31
              have hn_31a : (0 ≤ v2_29 5 ∧ v2_29 5 ≤ e ∧ (v2_29 7 = 0 ∨ v2_29 7 = 1)) ∧ (v2_19 5) ≤ v2_29 5 ∧ (v2_19 5) - ((l.length : Nat) : Int) ≤ v2_29 5 - ((l.length : Nat) : Int) := hn_31
              have hn_31k4 : v2_29 4 = a := (g_30.2 4 (by decide) (by decide)).trans (by show (v2_19 4) = a; omega)
              have hn_31k6 : v2_29 6 = e := (g_30.2 6 (by decide) (by decide)).trans (by show (v2_19 6) = e; omega)
              have hn_31k8 : v2_29 8 = (v2_19 8) := (g_30.2 8 (by decide) (by decide)).trans (by show (v2_19 8) = (v2_19 8); omega)
              refine v_istore (pc := 176) (L2 := [(4, ai ((fig (tp f) e (ps (nup v2_19 7 1) l)).1)), (3, ai ((am (tp f) e 8 (ps (nup v2_14 7 0) l)).1)), (2, ai ((am (tp f) e 7 (ps v l)).1)), (1, ai (hrp (tp f) e (v 5))), (0, ar h)]) rfl (by decide) dX12_factor_176 ?_
              refine v_aload_n (pc := 178) 4 rfl dX12_factor_178 ?_
              refine v_iload_n (pc := 179) 2 rfl dX12_factor_179 ?_
              refine v_bipush (pc := 180) dX12_factor_180 (by decide) ?_
              refine v_iload_n (pc := 182) 1 rfl dX12_factor_182 ?_
              refine v_imul (pc := 183) dX12_factor_183 ?_
              refine v_iadd (pc := 184) dX12_factor_184 ?_
              refine v_bipush (pc := 185) dX12_factor_185 (by decide) ?_
              refine v_iload (pc := 187) 0 rfl dX12_factor_187 ?_
              refine v_imul (pc := 189) dX12_factor_189 ?_
              refine v_iadd (pc := 190) dX12_factor_190 ?_
              refine v_callV (pc := 191) [0] [1] [(h, co 12 (mO ad v2_29))] (As := [ai (((am (tp f) e 7 (ps v l)).1 + (8 * (am (tp f) e 8 (ps (nup v2_14 7 0) l)).1)) + (32 * (fig (tp f) e (ps (nup v2_19 7 1) l)).1))]) (rest := []) (c_X12_emits ad v2_29 h f a e l (((am (tp f) e 7 (ps v l)).1 + (8 * (am (tp f) e 8 (ps (nup v2_14 7 0) l)).1)) + (32 * (fig (tp f) e (ps (nup v2_19 7 1) l)).1)) (by first | omega | assumption) (by first | omega | assumption) (by exact hT) (by show (v2_29 4) = a; omega) (by show (v2_29 6) = e; omega) (by exact ⟨by show 0 ≤ (v2_29 5); omega, by show (v2_29 5) ≤ e; omega, by show (v2_29 7) = 0 ∨ (v2_29 7) = 1; omega⟩) (by show ((l.length : Nat) : Int) ≤ 139; omega)) (c := 12) rfl (Or.inr ⟨1, rfl⟩) wl_X12_81 wi_X12_emits wv_X12_X12_emits_X12_emits wk_X12_emits wz_X12 md_X12_emits rfl (Nat.le_of_ble_eq_true rfl) ⟨Nat.le_of_ble_eq_true rfl, Nat.le_of_ble_eq_true rfl, Nat.le_of_ble_eq_true rfl, Nat.le_of_ble_eq_true rfl⟩ rfl rfl rfl rfl (by decide) (ro_cons (Or.inr ⟨1, rfl, by decide⟩) ro_nil) dX12_factor_191 (fun u hu => ?_)
              obtain ⟨l2_32, rfl⟩ : ∃ z, z = u := ⟨_, rfl⟩
              have g_33 : emi (((am (tp f) e 7 (ps v l)).1 + (8 * (am (tp f) e 8 (ps (nup v2_14 7 0) l)).1)) + (32 * (fig (tp f) e (ps (nup v2_19 7 1) l)).1)) (ps v2_29 l) = ps v2_29 l2_32 := hu
              show V x cX12_factor RX12 5 (rmU 11 235 0 0) [(h, co 12 (mO ad v2_29)), ((ad 1), cn 0 936 (wrS f a l2_32))] 194 [(4, ai ((fig (tp f) e (ps (nup v2_19 7 1) l)).1)), (3, ai ((am (tp f) e 8 (ps (nup v2_14 7 0) l)).1)), (2, ai ((am (tp f) e 7 (ps v l)).1)), (1, ai (hrp (tp f) e (v 5))), (0, ar h)] [] 0 0
              have ha1 : am (tp f) e 7 (ps v l) = ((am (tp f) e 7 (ps v l)).1, ps v2_14 l) := pr_of g_15.1
              have hb1 : (if (am (tp f) e 7 (ps v l)).1 = -1 then bad (ps v2_14 l) else ps v2_14 l) = ps (nup v2_14 7 0) l := by rw [if_neg (by omega)]; exact ps_70 (by omega)
              have ha2 : tsB (tp f) e (ps (nup v2_14 7 0) l) = ((am (tp f) e 8 (ps (nup v2_14 7 0) l)).1, ps v2_19 l) := (if_pos rfl).trans (pr_of g_20.1)
              have hb2 : (if (am (tp f) e 8 (ps (nup v2_14 7 0) l)).1 = -1 then bad (ps v2_19 l) else ps v2_19 l) = ps (nup v2_19 7 1) l := by first | (rw [if_pos (by omega)]; done) | (rw [if_pos (by omega)]; rfl) | (rw [if_neg (by omega)]; exact ps_70 (by omega))
              have ha3 : fig (tp f) e (ps (nup v2_19 7 1) l) = ((fig (tp f) e (ps (nup v2_19 7 1) l)).1, ps v2_29 l) := pr_of g_30.1
              exact hret (v2_29, l2_32) _ _ _ _ _ (by exact ⟨fac_tst (by omega) (by omega) (by omega) (tsp_of ha1 hb1 ha2 hb2 ha3 g_33), kp_tr (kp_7 (kp_tr (kp_7 g_15.2) g_20.2)) g_30.2⟩) rfl rfl (Nat.le_of_ble_eq_true rfl) (Nat.le_of_ble_eq_true rfl) dX12_factor_194
        · skip
          refine v_iconst (pc := 125) dX12_factor_125 ?_
          refine v_goto (pc := 126) 130 dX12_factor_126 (by decide) ?_
          refine v_put (pc := 130) 7 1 rfl fl_12_51_12 ck_12 ft_12_7 okV_z1 (Nat.le_of_ble_eq_true rfl) (ws2 := [((ad 1), cn 0 936 (wrS f a l)), (h, co 12 (mO ad (nup v2_14 7 1)))]) rfl dX12_factor_130 ?_
          refine v_aload_n (pc := 133) 2 rfl dX12_factor_133 ?_
          refine v_get (pc := 134) (v := ai 1) 7 (Or.inr ⟨1, rfl⟩) fl_12_51_12 rfl dX12_factor_134 ?_
          refine v_if_eq (pc := 137) 144 dX12_factor_137 (by decide) (by unfold iB; omega) (fun c_34 => by exfalso; omega) (fun c_34 => ?_)
          refine v_iconst (pc := 140) dX12_factor_140 ?_
          refine v_goto (pc := 141) 150 dX12_factor_141 (by decide) ?_
          refine v_istore_n (pc := 150) (L2 := [(3, ai 0), (2, ai ((am (tp f) e 7 (ps v l)).1)), (1, ai (hrp (tp f) e (v 5))), (0, ar h)]) rfl (by decide) dX12_factor_150 ?_
          refine v_aload_n (pc := 151) 3 rfl dX12_factor_151 ?_
          refine v_aload_n (pc := 152) 3 rfl dX12_factor_152 ?_
          refine v_get (pc := 153) (v := ai 1) 7 (Or.inr ⟨1, rfl⟩) fl_12_51_12 rfl dX12_factor_153 ?_
          refine v_if_ne (pc := 156) 164 dX12_factor_156 (by decide) (by unfold iB; omega) (fun c_35 => ?_) (fun c_35 => by exfalso; omega)
          refine v_iconst (pc := 164) dX12_factor_164 ?_
          refine v_goto (pc := 165) 169 dX12_factor_165 (by decide) ?_
          refine v_put (pc := 169) 7 1 rfl fl_12_51_12 ck_12 ft_12_7 okV_z1 (Nat.le_of_ble_eq_true rfl) (ws2 := [((ad 1), cn 0 936 (wrS f a l)), (h, co 12 (mO ad (nup (nup v2_14 7 1) 7 1)))]) rfl dX12_factor_169 ?_
          refine v_aload_n (pc := 172) 3 rfl dX12_factor_172 ?_
          refine v_callV (pc := 173) [1] [0] [((ad 1), cn 0 936 (wrS f a l))] (As := []) (rest := []) (c_X12_figures ad (nup (nup v2_14 7 1) 7 1) h f a e l (by first | omega | assumption) (by first | omega | assumption) (by exact hT) (by show (v2_14 4) = a; omega) (by show (v2_14 6) = e; omega) (by exact ⟨by show 0 ≤ (v2_14 5); omega, by show (v2_14 5) ≤ e; omega, by show 1 = 0 ∨ 1 = 1; omega⟩)) (c := 12) rfl (Or.inr ⟨1, rfl⟩) wl_X12_95 wi_X12_figures wv_X12_X12_figures_X12_figures wk_X12_figures wz_X12 md_X12_figures rfl (Nat.le_of_ble_eq_true rfl) ⟨Nat.le_of_ble_eq_true rfl, Nat.le_of_ble_eq_true rfl, Nat.le_of_ble_eq_true rfl, Nat.le_of_ble_eq_true rfl⟩ rfl rfl rfl rfl (by decide) (ro_cons (Or.inr ⟨0, rfl, by decide⟩) ro_nil) dX12_factor_173 (fun u hu => ?_)
          obtain ⟨v2_36, rfl⟩ : ∃ z, z = u := ⟨_, rfl⟩
          have g_37 : (fig (tp f) e (ps (nup (nup v2_14 7 1) 7 1) l)).2 = ps v2_36 l ∧ kp (nup (nup v2_14 7 1) 7 1) v2_36 := hu
          show V x cX12_factor RX12 5 (rmU 11 235 0 0) [((ad 1), cn 0 936 (wrS f a l)), (h, co 12 (mO ad v2_36))] 176 [(3, ai 0), (2, ai ((am (tp f) e 7 (ps v l)).1)), (1, ai (hrp (tp f) e (v 5))), (0, ar h)] [ai ((fig (tp f) e (ps (nup (nup v2_14 7 1) 7 1) l)).1)] 0 0
          have hn_38 : PN e (ps (nup (nup v2_14 7 1) 7 1) l) ((fig (tp f) e (ps (nup (nup v2_14 7 1) 7 1) l)).2) := fig_k (t := tp f) _ ⟨by show 0 ≤ (v2_14 5); omega, by show (v2_14 5) ≤ e; omega, by show 1 = 0 ∨ 1 = 1; omega⟩
          rw [g_37.1] at hn_38
          have hn_38a : (0 ≤ v2_36 5 ∧ v2_36 5 ≤ e ∧ (v2_36 7 = 0 ∨ v2_36 7 = 1)) ∧ (v2_14 5) ≤ v2_36 5 ∧ (v2_14 5) - ((l.length : Nat) : Int) ≤ v2_36 5 - ((l.length : Nat) : Int) := hn_38
          have hn_38k4 : v2_36 4 = a := (g_37.2 4 (by decide) (by decide)).trans (by show (v2_14 4) = a; omega)
          have hn_38k6 : v2_36 6 = e := (g_37.2 6 (by decide) (by decide)).trans (by show (v2_14 6) = e; omega)
          have hn_38k8 : v2_36 8 = (v2_14 8) := (g_37.2 8 (by decide) (by decide)).trans (by show (v2_14 8) = (v2_14 8); omega)
          refine v_istore (pc := 176) (L2 := [(4, ai ((fig (tp f) e (ps (nup (nup v2_14 7 1) 7 1) l)).1)), (3, ai 0), (2, ai ((am (tp f) e 7 (ps v l)).1)), (1, ai (hrp (tp f) e (v 5))), (0, ar h)]) rfl (by decide) dX12_factor_176 ?_
          refine v_aload_n (pc := 178) 4 rfl dX12_factor_178 ?_
          refine v_iload_n (pc := 179) 2 rfl dX12_factor_179 ?_
          refine v_bipush (pc := 180) dX12_factor_180 (by decide) ?_
          refine v_iload_n (pc := 182) 1 rfl dX12_factor_182 ?_
          refine v_imul (pc := 183) dX12_factor_183 ?_
          refine v_iadd (pc := 184) dX12_factor_184 ?_
          refine v_bipush (pc := 185) dX12_factor_185 (by decide) ?_
          refine v_iload (pc := 187) 0 rfl dX12_factor_187 ?_
          refine v_imul (pc := 189) dX12_factor_189 ?_
          refine v_iadd (pc := 190) dX12_factor_190 ?_
          refine v_callV (pc := 191) [0] [1] [(h, co 12 (mO ad v2_36))] (As := [ai (((am (tp f) e 7 (ps v l)).1 + (8 * 0)) + (32 * (fig (tp f) e (ps (nup (nup v2_14 7 1) 7 1) l)).1))]) (rest := []) (c_X12_emits ad v2_36 h f a e l (((am (tp f) e 7 (ps v l)).1 + (8 * 0)) + (32 * (fig (tp f) e (ps (nup (nup v2_14 7 1) 7 1) l)).1)) (by first | omega | assumption) (by first | omega | assumption) (by exact hT) (by show (v2_36 4) = a; omega) (by show (v2_36 6) = e; omega) (by exact ⟨by show 0 ≤ (v2_36 5); omega, by show (v2_36 5) ≤ e; omega, by show (v2_36 7) = 0 ∨ (v2_36 7) = 1; omega⟩) (by show ((l.length : Nat) : Int) ≤ 139; omega)) (c := 12) rfl (Or.inr ⟨1, rfl⟩) wl_X12_81 wi_X12_emits wv_X12_X12_emits_X12_emits wk_X12_emits wz_X12 md_X12_emits rfl (Nat.le_of_ble_eq_true rfl) ⟨Nat.le_of_ble_eq_true rfl, Nat.le_of_ble_eq_true rfl, Nat.le_of_ble_eq_true rfl, Nat.le_of_ble_eq_true rfl⟩ rfl rfl rfl rfl (by decide) (ro_cons (Or.inr ⟨1, rfl, by decide⟩) ro_nil) dX12_factor_191 (fun u hu => ?_)
          obtain ⟨l2_39, rfl⟩ : ∃ z, z = u := ⟨_, rfl⟩
          have g_40 : emi (((am (tp f) e 7 (ps v l)).1 + (8 * 0)) + (32 * (fig (tp f) e (ps (nup (nup v2_14 7 1) 7 1) l)).1)) (ps v2_36 l) = ps v2_36 l2_39 := hu
          show V x cX12_factor RX12 5 (rmU 11 235 0 0) [(h, co 12 (mO ad v2_36)), ((ad 1), cn 0 936 (wrS f a l2_39))] 194 [(4, ai ((fig (tp f) e (ps (nup (nup v2_14 7 1) 7 1) l)).1)), (3, ai 0), (2, ai ((am (tp f) e 7 (ps v l)).1)), (1, ai (hrp (tp f) e (v 5))), (0, ar h)] [] 0 0
          have ha1 : am (tp f) e 7 (ps v l) = ((am (tp f) e 7 (ps v l)).1, ps v2_14 l) := pr_of g_15.1
          have hb1 : (if (am (tp f) e 7 (ps v l)).1 = -1 then bad (ps v2_14 l) else ps v2_14 l) = ps (nup v2_14 7 1) l := by rw [if_pos (by omega)]; rfl
          have ha2 : tsB (tp f) e (ps (nup v2_14 7 1) l) = (0, ps (nup v2_14 7 1) l) := if_neg (by show ¬ (1 : Int) = 0; decide)
          have hb2 : (if 0 = -1 then bad (ps (nup v2_14 7 1) l) else ps (nup v2_14 7 1) l) = ps (nup (nup v2_14 7 1) 7 1) l := by rw [if_neg (by decide)]; rfl
          have ha3 : fig (tp f) e (ps (nup (nup v2_14 7 1) 7 1) l) = ((fig (tp f) e (ps (nup (nup v2_14 7 1) 7 1) l)).1, ps v2_36 l) := pr_of g_37.1
          exact hret (v2_36, l2_39) _ _ _ _ _ (by exact ⟨fac_tst (by omega) (by omega) (by omega) (tsp_of ha1 hb1 ha2 hb2 ha3 g_40), kp_tr (kp_7 (kp_7 g_15.2)) g_37.2⟩) rfl rfl (Nat.le_of_ble_eq_true rfl) (Nat.le_of_ble_eq_true rfl) dX12_factor_194
      · skip
        refine v_aload_n (pc := 25) 1 rfl dX12_factor_25 ?_
        refine v_aload_n (pc := 26) 1 rfl dX12_factor_26 ?_
        refine v_get (pc := 27) (v := ai (v 8)) 8 (Or.inr ⟨0, rfl⟩) fl_12_75_12 rfl dX12_factor_27 ?_
        refine v_iconst (pc := 30) dX12_factor_30 ?_
        refine v_icmp_ne (pc := 31) 38 dX12_factor_31 (by decide) (by unfold iB; omega) (by unfold iB; omega) (fun c_41 => ?_) (fun c_41 => ?_)
        · skip
          refine v_iconst (pc := 38) dX12_factor_38 ?_
          refine v_put (pc := 39) 7 0 rfl fl_12_51_12 ck_12 ft_12_7 okV_z0 (Nat.le_of_ble_eq_true rfl) (ws2 := [(h, co 12 (mO ad (nup v 7 0))), ((ad 1), cn 0 936 (wrS f a l))]) rfl dX12_factor_39 ?_
          refine v_aload_n (pc := 42) 1 rfl dX12_factor_42 ?_
          refine v_dup (pc := 43) rfl dX12_factor_43 ?_
          refine v_get (pc := 44) (v := ai (v 8)) 8 (Or.inr ⟨0, rfl⟩) fl_12_75_12 rfl dX12_factor_44 ?_
          refine v_iconst (pc := 47) dX12_factor_47 ?_
          refine v_iadd (pc := 48) dX12_factor_48 ?_
          refine v_put (pc := 49) 8 0 rfl fl_12_75_12 ck_12 ft_12_8 (okV_i _) (Nat.le_of_ble_eq_true rfl) (ws2 := [(h, co 12 (mO ad (nup (nup v 7 0) 8 ((v 8) + 1)))), ((ad 1), cn 0 936 (wrS f a l))]) rfl dX12_factor_49 ?_
          refine v_aload_n (pc := 52) 1 rfl dX12_factor_52 ?_
          refine v_dup (pc := 53) rfl dX12_factor_53 ?_
          refine v_get (pc := 54) (v := ai (v 5)) 5 (Or.inr ⟨0, rfl⟩) fl_12_45_12 rfl dX12_factor_54 ?_
          refine v_aload_n (pc := 57) 1 rfl dX12_factor_57 ?_
          refine v_get (pc := 58) (v := ai 0) 7 (Or.inr ⟨0, rfl⟩) fl_12_51_12 rfl dX12_factor_58 ?_
          refine v_if_eq (pc := 61) 68 dX12_factor_61 (by decide) (by unfold iB; omega) (fun c_42 => ?_) (fun c_42 => by exfalso; omega)
          refine v_iconst (pc := 68) dX12_factor_68 ?_
          refine v_iadd (pc := 69) dX12_factor_69 ?_
          refine v_put (pc := 70) 5 0 rfl fl_12_45_12 ck_12 ft_12_5 (okV_i _) (Nat.le_of_ble_eq_true rfl) (ws2 := [(h, co 12 (mO ad (nup (nup (nup v 7 0) 8 ((v 8) + 1)) 5 ((v 5) + 1)))), ((ad 1), cn 0 936 (wrS f a l))]) rfl dX12_factor_70 ?_
          refine v_iload_n (pc := 73) 0 rfl dX12_factor_73 ?_
          refine v_bipush (pc := 74) dX12_factor_74 (by decide) ?_
          refine v_icmp_ne (pc := 76) 91 dX12_factor_76 (by decide) (by unfold iB; omega) (by unfold iB; omega) (fun c_43 => ?_) (fun c_43 => ?_)
          · skip
            refine v_aload_n (pc := 91) 1 rfl dX12_factor_91 ?_
            refine v_callV (pc := 92) [0, 1] [] [] (As := []) (rest := []) (c_some_1 ad (nup (nup (nup v 7 0) 8 ((v 8) + 1)) 5 ((v 5) + 1)) h f a e l (by first | omega | assumption) (by first | omega | assumption) (by exact hT) (by show (v 4) = a; omega) (by show (v 6) = e; omega) (by exact ⟨by show 0 ≤ ((v 5) + 1); omega, by show ((v 5) + 1) ≤ e; omega, by show 0 = 0 ∨ 0 = 1; omega⟩) (by show ((l.length : Nat) : Int) ≤ ((v 5) + 1); omega) (by show ((v 8) + 1) = _; omega)) (c := 12) rfl (Or.inr ⟨0, rfl⟩) wl_X12_84 wi_X12_some wv_X12_X12_some_X12_some wk_X12_some wz_X12 md_X12_some rfl (Nat.le_of_ble_eq_true rfl) ⟨Nat.le_of_ble_eq_true rfl, Nat.le_of_ble_eq_true rfl, Nat.le_of_ble_eq_true rfl, Nat.le_of_ble_eq_true rfl⟩ rfl rfl rfl rfl (by decide) ro_nil dX12_factor_92 (fun u hu => ?_)
            obtain ⟨v2_44, l2_45⟩ := u
            have g_46 : soP (tp f) e (fac (tp f) e 1) (ps (nup (nup (nup v 7 0) 8 ((v 8) + 1)) 5 ((v 5) + 1)) l) = ps v2_44 l2_45 ∧ kp (nup (nup (nup v 7 0) 8 ((v 8) + 1)) 5 ((v 5) + 1)) v2_44 := hu
            show V x cX12_factor RX12 5 (rmU 11 235 0 0) [(h, co 12 (mO ad v2_44)), ((ad 1), cn 0 936 (wrS f a l2_45))] 95 [(1, ai (hrp (tp f) e (v 5))), (0, ar h)] [] 0 0
            have hn_47 : PN e (ps (nup (nup (nup v 7 0) 8 ((v 8) + 1)) 5 ((v 5) + 1)) l) (soP (tp f) e (fac (tp f) e 1) (ps (nup (nup (nup v 7 0) 8 ((v 8) + 1)) 5 ((v 5) + 1)) l)) := soP_k (fac_k (t := tp f) 1) _ ⟨by show 0 ≤ ((v 5) + 1); omega, by show ((v 5) + 1) ≤ e; omega, by show 0 = 0 ∨ 0 = 1; omega⟩
            rw [g_46.1] at hn_47
            have hn_47a : (0 ≤ v2_44 5 ∧ v2_44 5 ≤ e ∧ (v2_44 7 = 0 ∨ v2_44 7 = 1)) ∧ ((v 5) + 1) ≤ v2_44 5 ∧ ((v 5) + 1) - ((l.length : Nat) : Int) ≤ v2_44 5 - ((l2_45.length : Nat) : Int) := hn_47
            have hn_47k4 : v2_44 4 = a := (g_46.2 4 (by decide) (by decide)).trans (by show (v 4) = a; omega)
            have hn_47k6 : v2_44 6 = e := (g_46.2 6 (by decide) (by decide)).trans (by show (v 6) = e; omega)
            have hn_47k8 : v2_44 8 = ((v 8) + 1) := (g_46.2 8 (by decide) (by decide)).trans (by show ((v 8) + 1) = ((v 8) + 1); omega)
            refine v_aload_n (pc := 95) 1 rfl dX12_factor_95 ?_
            refine v_bipush (pc := 96) dX12_factor_96 (by decide) ?_
            refine v_callV (pc := 98) [0] [1] [((ad 1), cn 0 936 (wrS f a l2_45))] (As := [ai 41]) (rest := []) (c_X12_must ad v2_44 h f a e l2_45 41 (by first | omega | assumption) (by first | omega | assumption) (by exact hT) (by show (v2_44 4) = a; omega) (by show (v2_44 6) = e; omega) (by exact ⟨by show 0 ≤ (v2_44 5); omega, by show (v2_44 5) ≤ e; omega, by show (v2_44 7) = 0 ∨ (v2_44 7) = 1; omega⟩) (by first | omega | assumption)) (c := 12) rfl (Or.inr ⟨0, rfl⟩) wl_X12_68 wi_X12_must wv_X12_X12_must_X12_must wk_X12_must wz_X12 md_X12_must rfl (Nat.le_of_ble_eq_true rfl) ⟨Nat.le_of_ble_eq_true rfl, Nat.le_of_ble_eq_true rfl, Nat.le_of_ble_eq_true rfl, Nat.le_of_ble_eq_true rfl⟩ rfl rfl rfl rfl (by decide) (ro_cons (Or.inr ⟨1, rfl, by decide⟩) ro_nil) dX12_factor_98 (fun u hu => ?_)
            obtain ⟨v2_48, rfl⟩ : ∃ z, z = u := ⟨_, rfl⟩
            have g_49 : mstP (tp f) e 41 (ps v2_44 l2_45) = ps v2_48 l2_45 ∧ kp v2_44 v2_48 := hu
            show V x cX12_factor RX12 5 (rmU 11 235 0 0) [((ad 1), cn 0 936 (wrS f a l2_45)), (h, co 12 (mO ad v2_48))] 101 [(1, ai (hrp (tp f) e (v 5))), (0, ar h)] [] 0 0
            have hn_50 : PN e (ps v2_44 l2_45) (mstP (tp f) e 41 (ps v2_44 l2_45)) := mstP_k (t := tp f) (by omega) _ ⟨by show 0 ≤ (v2_44 5); omega, by show (v2_44 5) ≤ e; omega, by show (v2_44 7) = 0 ∨ (v2_44 7) = 1; omega⟩
            rw [g_49.1] at hn_50
            have hn_50a : (0 ≤ v2_48 5 ∧ v2_48 5 ≤ e ∧ (v2_48 7 = 0 ∨ v2_48 7 = 1)) ∧ (v2_44 5) ≤ v2_48 5 ∧ (v2_44 5) - ((l2_45.length : Nat) : Int) ≤ v2_48 5 - ((l2_45.length : Nat) : Int) := hn_50
            have hn_50k4 : v2_48 4 = a := (g_49.2 4 (by decide) (by decide)).trans (by show (v2_44 4) = a; omega)
            have hn_50k6 : v2_48 6 = e := (g_49.2 6 (by decide) (by decide)).trans (by show (v2_44 6) = e; omega)
            have hn_50k8 : v2_48 8 = (v2_44 8) := (g_49.2 8 (by decide) (by decide)).trans (by show (v2_44 8) = (v2_44 8); omega)
            refine v_aload_n (pc := 101) 1 rfl dX12_factor_101 ?_
            refine v_dup (pc := 102) rfl dX12_factor_102 ?_
            refine v_get (pc := 103) (v := ai (v2_48 8)) 8 (Or.inr ⟨1, rfl⟩) fl_12_75_12 rfl dX12_factor_103 ?_
            refine v_iconst (pc := 106) dX12_factor_106 ?_
            refine v_isub (pc := 107) dX12_factor_107 ?_
            refine v_put (pc := 108) 8 1 rfl fl_12_75_12 ck_12 ft_12_8 (okV_i _) (Nat.le_of_ble_eq_true rfl) (ws2 := [((ad 1), cn 0 936 (wrS f a l2_45)), (h, co 12 (mO ad (nup v2_48 8 ((v2_48 8) - 1))))]) rfl dX12_factor_108 ?_
            refine v_wsub (ws2 := [(h, co 12 (mO ad (nup v2_48 8 ((v2_48 8) - 1)))), ((ad 1), cn 0 936 (wrS f a l2_45))]) [1, 0] rfl rfl ?_
            exact hret ((nup v2_48 8 ((v2_48 8) - 1)), l2_45) _ _ _ _ _ (by exact ⟨fac_par (by omega) (by omega) g_46.1 g_49.1 rfl rfl, kp_8 (kp_tr g_46.2 g_49.2)⟩) rfl rfl (Nat.le_of_ble_eq_true rfl) (Nat.le_of_ble_eq_true rfl) dX12_factor_111
          · skip
            exfalso; omega
        · skip
          exfalso; omega
  · skip
    exact hret (v, l) _ _ _ _ _ (by exact ⟨fac_w (by omega), kp_rf v⟩) rfl rfl (Nat.le_of_ble_eq_true rfl) (Nat.le_of_ble_eq_true rfl) dX12_factor_7
set_option maxHeartbeats 4000000 in
set_option maxRecDepth 100000 in
theorem c_every_2 {gS : sG} (ad : Nat → Nat) (v : Nat → Int) (h : Nat) (f : Int → Int) (a : Int) (e : Int) (l : List Int) (ha : 0 ≤ a ∧ a ≤ 4) (he : 0 ≤ e ∧ e ≤ 100) (hT : ∀ j : Int, 0 ≤ j → j < e → 0 ≤ f (121 + j) ∧ f (121 + j) ≤ 127) (h4 : v 4 = a) (h6 : v 6 = e) (hB : PB e (ps v l)) (hl : (l.length : Int) ≤ v 5) (h8 : v 8 = 3) : Ct gS (S := (Nat → Int) × List Int) yX12_every cX12_every 1 none 12 259 0 0 [ar h] [(h, co 12 (mO ad v)), ((ad 1), cn 0 936 (wrS f a l))] (fun q => q ∈ ([] : aW)) (fun u => evP (tp f) e (fac (tp f) e 2) (ps v l) = ps u.1 u.2 ∧ kp v u.1) (fun u => none) (fun u => [(h, co 12 (mO ad u.1)), ((ad 1), cn 0 936 (wrS f a u.2))]) := by
  refine ct_V RX12 [(0, ar h)] (by decide) rfl (Nat.le_of_ble_eq_true rfl) rfl (fun x hgS hnm hro hret => ?_)
  subst hgS
  have hB1 : 0 ≤ v 5 := hB.1
  have hB2 : v 5 ≤ e := hB.2.1
  have hB3 : v 7 = 0 ∨ v 7 = 1 := hB.2.2
  show V x cX12_every RX12 1 (rmU 12 259 0 0) [(h, co 12 (mO ad v)), ((ad 1), cn 0 936 (wrS f a l))] 0 [(0, ar h)] [] 0 0
  refine v_aload_n (pc := 0) 0 rfl dX12_every_0 ?_
  refine v_callV (pc := 1) [0, 1] [] [] (As := []) (rest := []) (c_factor_2 ad v h f a e l (by first | omega | assumption) (by first | omega | assumption) (by exact hT) (by show (v 4) = a; omega) (by show (v 6) = e; omega) (by exact ⟨by show 0 ≤ (v 5); omega, by show (v 5) ≤ e; omega, by show (v 7) = 0 ∨ (v 7) = 1; omega⟩) (by show ((l.length : Nat) : Int) ≤ (v 5); omega) (by show (v 8) = _; omega)) (c := 12) rfl (Or.inr ⟨0, rfl⟩) wl_X12_78 wi_X12_factor wv_X12_X12_factor_X12_factor wk_X12_factor wz_X12 md_X12_factor rfl (Nat.le_of_ble_eq_true rfl) ⟨Nat.le_of_ble_eq_true rfl, Nat.le_of_ble_eq_true rfl, Nat.le_of_ble_eq_true rfl, Nat.le_of_ble_eq_true rfl⟩ rfl rfl rfl rfl (by decide) ro_nil dX12_every_1 (fun u hu => ?_)
  obtain ⟨v2_1, l2_2⟩ := u
  have g_3 : fac (tp f) e 2 (ps v l) = ps v2_1 l2_2 ∧ kp v v2_1 := hu
  show V x cX12_every RX12 1 (rmU 12 259 0 0) [(h, co 12 (mO ad v2_1)), ((ad 1), cn 0 936 (wrS f a l2_2))] 4 [(0, ar h)] [] 0 0
  have hn_4 : PN e (ps v l) (fac (tp f) e 2 (ps v l)) := fac_k (t := tp f) 2 _ ⟨by show 0 ≤ (v 5); omega, by show (v 5) ≤ e; omega, by show (v 7) = 0 ∨ (v 7) = 1; omega⟩
  rw [g_3.1] at hn_4
  have hn_4a : (0 ≤ v2_1 5 ∧ v2_1 5 ≤ e ∧ (v2_1 7 = 0 ∨ v2_1 7 = 1)) ∧ (v 5) ≤ v2_1 5 ∧ (v 5) - ((l.length : Nat) : Int) ≤ v2_1 5 - ((l2_2.length : Nat) : Int) := hn_4
  have hn_4k4 : v2_1 4 = a := (g_3.2 4 (by decide) (by decide)).trans (by show (v 4) = a; omega)
  have hn_4k6 : v2_1 6 = e := (g_3.2 6 (by decide) (by decide)).trans (by show (v 6) = e; omega)
  have hn_4k8 : v2_1 8 = (v 8) := (g_3.2 8 (by decide) (by decide)).trans (by show (v 8) = (v 8); omega)
  have lp4 : ∀ (mm : Nat) (v1 : Nat → Int) (l1 : List Int), (e - v1 5).toNat = mm → (lpP (tp f) e 38 (-2) (fac (tp f) e 2) 101 (ps v1 l1) = evP (tp f) e (fac (tp f) e 2) (ps v l)) → (kp v v1) → (0 ≤ v1 5 ∧ v1 5 ≤ e ∧ (v1 7 = 0 ∨ v1 7 = 1) ∧ (l1.length : Int) ≤ v1 5) → V x cX12_every RX12 1 (rmU 12 259 0 0) [(h, co 12 (mO ad v1)), ((ad 1), cn 0 936 (wrS f a l1))] 4 [(0, ar h)] [] 0 0 := by
    intro mm
    induction mm using Nat.strongRecOn with
    | _ mm ih =>
      intro v1 l1 hmm hrr hkp hb1
      have hk4 : v1 4 = a := (hkp 4 (by decide) (by decide)).trans h4
      have hk6 : v1 6 = e := (hkp 6 (by decide) (by decide)).trans h6
      have hk8 : v1 8 = v 8 := hkp 8 (by decide) (by decide)
      refine v_aload_n (pc := 4) 0 rfl dX12_every_4 ?_
      refine v_get (pc := 5) (v := ai (v1 7)) 7 (Or.inr ⟨0, rfl⟩) fl_12_51_12 rfl dX12_every_5 ?_
      refine v_if_ne (pc := 8) 43 dX12_every_8 (by decide) (by unfold iB; omega) (fun c_5 => ?_) (fun c_5 => ?_)
      · skip
        exact hret (v1, l1) _ _ _ _ _ (by exact ⟨by rw [← hrr]; exact lpP_st (by show ¬ (v1 7 = 0 ∧ hrp (tp f) e (v1 5) = 38); omega), hkp⟩) rfl rfl (Nat.le_of_ble_eq_true rfl) (Nat.le_of_ble_eq_true rfl) dX12_every_43
      · skip
        refine v_aload_n (pc := 11) 0 rfl dX12_every_11 ?_
        refine v_callV (pc := 12) [] [0, 1] [(h, co 12 (mO ad v1)), ((ad 1), cn 0 936 (wrS f a l1))] (As := []) (rest := []) (c_X12_here ad v1 h f a e l1 (v1 5) (by first | omega | assumption) (by first | omega | assumption) (by show (v1 6) = e; omega) (by rfl) (by first | omega | assumption)) (c := 12) rfl (Or.inr ⟨0, rfl⟩) wl_X12_55 wi_X12_here wv_X12_X12_here_X12_here wk_X12_here wz_X12 md_X12_here rfl (Nat.le_of_ble_eq_true rfl) ⟨Nat.le_of_ble_eq_true rfl, Nat.le_of_ble_eq_true rfl, Nat.le_of_ble_eq_true rfl, Nat.le_of_ble_eq_true rfl⟩ rfl rfl rfl rfl (by decide) (ro_cons (Or.inr ⟨0, rfl, by decide⟩) (ro_cons (Or.inr ⟨1, rfl, by decide⟩) ro_nil)) dX12_every_12 (fun u hu => ?_)
        show V x cX12_every RX12 1 (rmU 12 259 0 0) [(h, co 12 (mO ad v1)), ((ad 1), cn 0 936 (wrS f a l1))] 15 [(0, ar h)] [ai (hrp (tp f) e (v1 5))] 0 0
        have hb_6 := hrp_b (p := (v1 5)) hT (by omega)
        refine v_bipush (pc := 15) dX12_every_15 (by decide) ?_
        refine v_icmp_ne (pc := 17) 43 dX12_every_17 (by decide) (by unfold iB; omega) (by unfold iB; omega) (fun c_7 => ?_) (fun c_7 => ?_)
        · skip
          exact hret (v1, l1) _ _ _ _ _ (by exact ⟨by rw [← hrr]; exact lpP_st (by show ¬ (v1 7 = 0 ∧ hrp (tp f) e (v1 5) = 38); omega), hkp⟩) rfl rfl (Nat.le_of_ble_eq_true rfl) (Nat.le_of_ble_eq_true rfl) dX12_every_43
        · skip
          refine v_aload_n (pc := 20) 0 rfl dX12_every_20 ?_
          refine v_dup (pc := 21) rfl dX12_every_21 ?_
          refine v_get (pc := 22) (v := ai (v1 5)) 5 (Or.inr ⟨0, rfl⟩) fl_12_45_12 rfl dX12_every_22 ?_
          refine v_iconst (pc := 25) dX12_every_25 ?_
          refine v_iadd (pc := 26) dX12_every_26 ?_
          refine v_put (pc := 27) 5 0 rfl fl_12_45_12 ck_12 ft_12_5 (okV_i _) (Nat.le_of_ble_eq_true rfl) (ws2 := [(h, co 12 (mO ad (nup v1 5 ((v1 5) + 1)))), ((ad 1), cn 0 936 (wrS f a l1))]) rfl dX12_every_27 ?_
          refine v_aload_n (pc := 30) 0 rfl dX12_every_30 ?_
          refine v_callV (pc := 31) [0, 1] [] [] (As := []) (rest := []) (c_factor_2 ad (nup v1 5 ((v1 5) + 1)) h f a e l1 (by first | omega | assumption) (by first | omega | assumption) (by exact hT) (by show (v1 4) = a; omega) (by show (v1 6) = e; omega) (by exact ⟨by show 0 ≤ ((v1 5) + 1); omega, by show ((v1 5) + 1) ≤ e; omega, by show (v1 7) = 0 ∨ (v1 7) = 1; omega⟩) (by show ((l1.length : Nat) : Int) ≤ ((v1 5) + 1); omega) (by show (v1 8) = _; omega)) (c := 12) rfl (Or.inr ⟨0, rfl⟩) wl_X12_78 wi_X12_factor wv_X12_X12_factor_X12_factor wk_X12_factor wz_X12 md_X12_factor rfl (Nat.le_of_ble_eq_true rfl) ⟨Nat.le_of_ble_eq_true rfl, Nat.le_of_ble_eq_true rfl, Nat.le_of_ble_eq_true rfl, Nat.le_of_ble_eq_true rfl⟩ rfl rfl rfl rfl (by decide) ro_nil dX12_every_31 (fun u hu => ?_)
          obtain ⟨v2_8, l2_9⟩ := u
          have g_10 : fac (tp f) e 2 (ps (nup v1 5 ((v1 5) + 1)) l1) = ps v2_8 l2_9 ∧ kp (nup v1 5 ((v1 5) + 1)) v2_8 := hu
          show V x cX12_every RX12 1 (rmU 12 259 0 0) [(h, co 12 (mO ad v2_8)), ((ad 1), cn 0 936 (wrS f a l2_9))] 34 [(0, ar h)] [] 0 0
          have hn_11 : PN e (ps (nup v1 5 ((v1 5) + 1)) l1) (fac (tp f) e 2 (ps (nup v1 5 ((v1 5) + 1)) l1)) := fac_k (t := tp f) 2 _ ⟨by show 0 ≤ ((v1 5) + 1); omega, by show ((v1 5) + 1) ≤ e; omega, by show (v1 7) = 0 ∨ (v1 7) = 1; omega⟩
          rw [g_10.1] at hn_11
          have hn_11a : (0 ≤ v2_8 5 ∧ v2_8 5 ≤ e ∧ (v2_8 7 = 0 ∨ v2_8 7 = 1)) ∧ ((v1 5) + 1) ≤ v2_8 5 ∧ ((v1 5) + 1) - ((l1.length : Nat) : Int) ≤ v2_8 5 - ((l2_9.length : Nat) : Int) := hn_11
          have hn_11k4 : v2_8 4 = a := (g_10.2 4 (by decide) (by decide)).trans (by show (v1 4) = a; omega)
          have hn_11k6 : v2_8 6 = e := (g_10.2 6 (by decide) (by decide)).trans (by show (v1 6) = e; omega)
          have hn_11k8 : v2_8 8 = (v1 8) := (g_10.2 8 (by decide) (by decide)).trans (by show (v1 8) = (v1 8); omega)
          refine v_aload_n (pc := 34) 0 rfl dX12_every_34 ?_
          refine v_bipush (pc := 35) dX12_every_35 (by decide) ?_
          refine v_callV (pc := 37) [1] [0] [(h, co 12 (mO ad v2_8))] (As := [ai (-2)]) (rest := []) (c_X12_emits ad v2_8 h f a e l2_9 (-2) (by first | omega | assumption) (by first | omega | assumption) (by exact hT) (by show (v2_8 4) = a; omega) (by show (v2_8 6) = e; omega) (by exact ⟨by show 0 ≤ (v2_8 5); omega, by show (v2_8 5) ≤ e; omega, by show (v2_8 7) = 0 ∨ (v2_8 7) = 1; omega⟩) (by show ((l2_9.length : Nat) : Int) ≤ 139; omega)) (c := 12) rfl (Or.inr ⟨0, rfl⟩) wl_X12_81 wi_X12_emits wv_X12_X12_emits_X12_emits wk_X12_emits wz_X12 md_X12_emits rfl (Nat.le_of_ble_eq_true rfl) ⟨Nat.le_of_ble_eq_true rfl, Nat.le_of_ble_eq_true rfl, Nat.le_of_ble_eq_true rfl, Nat.le_of_ble_eq_true rfl⟩ rfl rfl rfl rfl (by decide) (ro_cons (Or.inr ⟨0, rfl, by decide⟩) ro_nil) dX12_every_37 (fun u hu => ?_)
          obtain ⟨l2_12, rfl⟩ : ∃ z, z = u := ⟨_, rfl⟩
          have g_13 : emi (-2) (ps v2_8 l2_9) = ps v2_8 l2_12 := hu
          show V x cX12_every RX12 1 (rmU 12 259 0 0) [(h, co 12 (mO ad v2_8)), ((ad 1), cn 0 936 (wrS f a l2_12))] 40 [(0, ar h)] [] 0 0
          refine v_goto (pc := 40) 4 dX12_every_40 (by decide) ?_
          exact ih _ (by omega) v2_8 l2_12 rfl (by rw [← hrr, lpP_go (s := ps v1 l1) (by decide) (fac_k 2) he.2 ⟨hb1.1, hb1.2.1, hb1.2.2.1⟩ (by show v1 7 = 0; omega) (by show hrp (tp f) e (v1 5) = _; omega)]; congr 1; rw [show fac (tp f) e 2 (adv (ps v1 l1)) = _ from g_10.1]; exact g_13.symm) (by exact kp_tr (kp_5 hkp) g_10.2) (by have q := emi_len g_13; omega)
  exact lp4 _ v2_1 l2_2 rfl (by exact congrArg (lpP (tp f) e 38 (-2) (fac (tp f) e 2) 101) g_3.1.symm) (by exact g_3.2) (by omega)
set_option maxHeartbeats 4000000 in
set_option maxRecDepth 100000 in
theorem c_some_2 {gS : sG} (ad : Nat → Nat) (v : Nat → Int) (h : Nat) (f : Int → Int) (a : Int) (e : Int) (l : List Int) (ha : 0 ≤ a ∧ a ≤ 4) (he : 0 ≤ e ∧ e ≤ 100) (hT : ∀ j : Int, 0 ≤ j → j < e → 0 ≤ f (121 + j) ∧ f (121 + j) ≤ 127) (h4 : v 4 = a) (h6 : v 6 = e) (hB : PB e (ps v l)) (hl : (l.length : Int) ≤ v 5) (h8 : v 8 = 3) : Ct gS (S := (Nat → Int) × List Int) yX12_some cX12_some 1 none 13 279 0 0 [ar h] [(h, co 12 (mO ad v)), ((ad 1), cn 0 936 (wrS f a l))] (fun q => q ∈ ([] : aW)) (fun u => soP (tp f) e (fac (tp f) e 2) (ps v l) = ps u.1 u.2 ∧ kp v u.1) (fun u => none) (fun u => [(h, co 12 (mO ad u.1)), ((ad 1), cn 0 936 (wrS f a u.2))]) := by
  refine ct_V RX12 [(0, ar h)] (by decide) rfl (Nat.le_of_ble_eq_true rfl) rfl (fun x hgS hnm hro hret => ?_)
  subst hgS
  have hB1 : 0 ≤ v 5 := hB.1
  have hB2 : v 5 ≤ e := hB.2.1
  have hB3 : v 7 = 0 ∨ v 7 = 1 := hB.2.2
  show V x cX12_some RX12 1 (rmU 13 279 0 0) [(h, co 12 (mO ad v)), ((ad 1), cn 0 936 (wrS f a l))] 0 [(0, ar h)] [] 0 0
  refine v_aload_n (pc := 0) 0 rfl dX12_some_0 ?_
  refine v_callV (pc := 1) [0, 1] [] [] (As := []) (rest := []) (c_every_2 ad v h f a e l (by first | omega | assumption) (by first | omega | assumption) (by exact hT) (by show (v 4) = a; omega) (by show (v 6) = e; omega) (by exact ⟨by show 0 ≤ (v 5); omega, by show (v 5) ≤ e; omega, by show (v 7) = 0 ∨ (v 7) = 1; omega⟩) (by show ((l.length : Nat) : Int) ≤ (v 5); omega) (by show (v 8) = _; omega)) (c := 12) rfl (Or.inr ⟨0, rfl⟩) wl_X12_98 wi_X12_every wv_X12_X12_every_X12_every wk_X12_every wz_X12 md_X12_every rfl (Nat.le_of_ble_eq_true rfl) ⟨Nat.le_of_ble_eq_true rfl, Nat.le_of_ble_eq_true rfl, Nat.le_of_ble_eq_true rfl, Nat.le_of_ble_eq_true rfl⟩ rfl rfl rfl rfl (by decide) ro_nil dX12_some_1 (fun u hu => ?_)
  obtain ⟨v2_1, l2_2⟩ := u
  have g_3 : evP (tp f) e (fac (tp f) e 2) (ps v l) = ps v2_1 l2_2 ∧ kp v v2_1 := hu
  show V x cX12_some RX12 1 (rmU 13 279 0 0) [(h, co 12 (mO ad v2_1)), ((ad 1), cn 0 936 (wrS f a l2_2))] 4 [(0, ar h)] [] 0 0
  have hn_4 : PN e (ps v l) (evP (tp f) e (fac (tp f) e 2) (ps v l)) := evP_k (fac_k (t := tp f) 2) _ ⟨by show 0 ≤ (v 5); omega, by show (v 5) ≤ e; omega, by show (v 7) = 0 ∨ (v 7) = 1; omega⟩
  rw [g_3.1] at hn_4
  have hn_4a : (0 ≤ v2_1 5 ∧ v2_1 5 ≤ e ∧ (v2_1 7 = 0 ∨ v2_1 7 = 1)) ∧ (v 5) ≤ v2_1 5 ∧ (v 5) - ((l.length : Nat) : Int) ≤ v2_1 5 - ((l2_2.length : Nat) : Int) := hn_4
  have hn_4k4 : v2_1 4 = a := (g_3.2 4 (by decide) (by decide)).trans (by show (v 4) = a; omega)
  have hn_4k6 : v2_1 6 = e := (g_3.2 6 (by decide) (by decide)).trans (by show (v 6) = e; omega)
  have hn_4k8 : v2_1 8 = (v 8) := (g_3.2 8 (by decide) (by decide)).trans (by show (v 8) = (v 8); omega)
  have lp4 : ∀ (mm : Nat) (v1 : Nat → Int) (l1 : List Int), (e - v1 5).toNat = mm → (lpP (tp f) e 124 (-3) (evP (tp f) e (fac (tp f) e 2)) 101 (ps v1 l1) = soP (tp f) e (fac (tp f) e 2) (ps v l)) → (kp v v1) → (0 ≤ v1 5 ∧ v1 5 ≤ e ∧ (v1 7 = 0 ∨ v1 7 = 1) ∧ (l1.length : Int) ≤ v1 5) → V x cX12_some RX12 1 (rmU 13 279 0 0) [(h, co 12 (mO ad v1)), ((ad 1), cn 0 936 (wrS f a l1))] 4 [(0, ar h)] [] 0 0 := by
    intro mm
    induction mm using Nat.strongRecOn with
    | _ mm ih =>
      intro v1 l1 hmm hrr hkp hb1
      have hk4 : v1 4 = a := (hkp 4 (by decide) (by decide)).trans h4
      have hk6 : v1 6 = e := (hkp 6 (by decide) (by decide)).trans h6
      have hk8 : v1 8 = v 8 := hkp 8 (by decide) (by decide)
      refine v_aload_n (pc := 4) 0 rfl dX12_some_4 ?_
      refine v_get (pc := 5) (v := ai (v1 7)) 7 (Or.inr ⟨0, rfl⟩) fl_12_51_12 rfl dX12_some_5 ?_
      refine v_if_ne (pc := 8) 43 dX12_some_8 (by decide) (by unfold iB; omega) (fun c_5 => ?_) (fun c_5 => ?_)
      · skip
        exact hret (v1, l1) _ _ _ _ _ (by exact ⟨by rw [← hrr]; exact lpP_st (by show ¬ (v1 7 = 0 ∧ hrp (tp f) e (v1 5) = 124); omega), hkp⟩) rfl rfl (Nat.le_of_ble_eq_true rfl) (Nat.le_of_ble_eq_true rfl) dX12_some_43
      · skip
        refine v_aload_n (pc := 11) 0 rfl dX12_some_11 ?_
        refine v_callV (pc := 12) [] [0, 1] [(h, co 12 (mO ad v1)), ((ad 1), cn 0 936 (wrS f a l1))] (As := []) (rest := []) (c_X12_here ad v1 h f a e l1 (v1 5) (by first | omega | assumption) (by first | omega | assumption) (by show (v1 6) = e; omega) (by rfl) (by first | omega | assumption)) (c := 12) rfl (Or.inr ⟨0, rfl⟩) wl_X12_55 wi_X12_here wv_X12_X12_here_X12_here wk_X12_here wz_X12 md_X12_here rfl (Nat.le_of_ble_eq_true rfl) ⟨Nat.le_of_ble_eq_true rfl, Nat.le_of_ble_eq_true rfl, Nat.le_of_ble_eq_true rfl, Nat.le_of_ble_eq_true rfl⟩ rfl rfl rfl rfl (by decide) (ro_cons (Or.inr ⟨0, rfl, by decide⟩) (ro_cons (Or.inr ⟨1, rfl, by decide⟩) ro_nil)) dX12_some_12 (fun u hu => ?_)
        show V x cX12_some RX12 1 (rmU 13 279 0 0) [(h, co 12 (mO ad v1)), ((ad 1), cn 0 936 (wrS f a l1))] 15 [(0, ar h)] [ai (hrp (tp f) e (v1 5))] 0 0
        have hb_6 := hrp_b (p := (v1 5)) hT (by omega)
        refine v_bipush (pc := 15) dX12_some_15 (by decide) ?_
        refine v_icmp_ne (pc := 17) 43 dX12_some_17 (by decide) (by unfold iB; omega) (by unfold iB; omega) (fun c_7 => ?_) (fun c_7 => ?_)
        · skip
          exact hret (v1, l1) _ _ _ _ _ (by exact ⟨by rw [← hrr]; exact lpP_st (by show ¬ (v1 7 = 0 ∧ hrp (tp f) e (v1 5) = 124); omega), hkp⟩) rfl rfl (Nat.le_of_ble_eq_true rfl) (Nat.le_of_ble_eq_true rfl) dX12_some_43
        · skip
          refine v_aload_n (pc := 20) 0 rfl dX12_some_20 ?_
          refine v_dup (pc := 21) rfl dX12_some_21 ?_
          refine v_get (pc := 22) (v := ai (v1 5)) 5 (Or.inr ⟨0, rfl⟩) fl_12_45_12 rfl dX12_some_22 ?_
          refine v_iconst (pc := 25) dX12_some_25 ?_
          refine v_iadd (pc := 26) dX12_some_26 ?_
          refine v_put (pc := 27) 5 0 rfl fl_12_45_12 ck_12 ft_12_5 (okV_i _) (Nat.le_of_ble_eq_true rfl) (ws2 := [(h, co 12 (mO ad (nup v1 5 ((v1 5) + 1)))), ((ad 1), cn 0 936 (wrS f a l1))]) rfl dX12_some_27 ?_
          refine v_aload_n (pc := 30) 0 rfl dX12_some_30 ?_
          refine v_callV (pc := 31) [0, 1] [] [] (As := []) (rest := []) (c_every_2 ad (nup v1 5 ((v1 5) + 1)) h f a e l1 (by first | omega | assumption) (by first | omega | assumption) (by exact hT) (by show (v1 4) = a; omega) (by show (v1 6) = e; omega) (by exact ⟨by show 0 ≤ ((v1 5) + 1); omega, by show ((v1 5) + 1) ≤ e; omega, by show (v1 7) = 0 ∨ (v1 7) = 1; omega⟩) (by show ((l1.length : Nat) : Int) ≤ ((v1 5) + 1); omega) (by show (v1 8) = _; omega)) (c := 12) rfl (Or.inr ⟨0, rfl⟩) wl_X12_98 wi_X12_every wv_X12_X12_every_X12_every wk_X12_every wz_X12 md_X12_every rfl (Nat.le_of_ble_eq_true rfl) ⟨Nat.le_of_ble_eq_true rfl, Nat.le_of_ble_eq_true rfl, Nat.le_of_ble_eq_true rfl, Nat.le_of_ble_eq_true rfl⟩ rfl rfl rfl rfl (by decide) ro_nil dX12_some_31 (fun u hu => ?_)
          obtain ⟨v2_8, l2_9⟩ := u
          have g_10 : evP (tp f) e (fac (tp f) e 2) (ps (nup v1 5 ((v1 5) + 1)) l1) = ps v2_8 l2_9 ∧ kp (nup v1 5 ((v1 5) + 1)) v2_8 := hu
          show V x cX12_some RX12 1 (rmU 13 279 0 0) [(h, co 12 (mO ad v2_8)), ((ad 1), cn 0 936 (wrS f a l2_9))] 34 [(0, ar h)] [] 0 0
          have hn_11 : PN e (ps (nup v1 5 ((v1 5) + 1)) l1) (evP (tp f) e (fac (tp f) e 2) (ps (nup v1 5 ((v1 5) + 1)) l1)) := evP_k (fac_k (t := tp f) 2) _ ⟨by show 0 ≤ ((v1 5) + 1); omega, by show ((v1 5) + 1) ≤ e; omega, by show (v1 7) = 0 ∨ (v1 7) = 1; omega⟩
          rw [g_10.1] at hn_11
          have hn_11a : (0 ≤ v2_8 5 ∧ v2_8 5 ≤ e ∧ (v2_8 7 = 0 ∨ v2_8 7 = 1)) ∧ ((v1 5) + 1) ≤ v2_8 5 ∧ ((v1 5) + 1) - ((l1.length : Nat) : Int) ≤ v2_8 5 - ((l2_9.length : Nat) : Int) := hn_11
          have hn_11k4 : v2_8 4 = a := (g_10.2 4 (by decide) (by decide)).trans (by show (v1 4) = a; omega)
          have hn_11k6 : v2_8 6 = e := (g_10.2 6 (by decide) (by decide)).trans (by show (v1 6) = e; omega)
          have hn_11k8 : v2_8 8 = (v1 8) := (g_10.2 8 (by decide) (by decide)).trans (by show (v1 8) = (v1 8); omega)
          refine v_aload_n (pc := 34) 0 rfl dX12_some_34 ?_
          refine v_bipush (pc := 35) dX12_some_35 (by decide) ?_
          refine v_callV (pc := 37) [1] [0] [(h, co 12 (mO ad v2_8))] (As := [ai (-3)]) (rest := []) (c_X12_emits ad v2_8 h f a e l2_9 (-3) (by first | omega | assumption) (by first | omega | assumption) (by exact hT) (by show (v2_8 4) = a; omega) (by show (v2_8 6) = e; omega) (by exact ⟨by show 0 ≤ (v2_8 5); omega, by show (v2_8 5) ≤ e; omega, by show (v2_8 7) = 0 ∨ (v2_8 7) = 1; omega⟩) (by show ((l2_9.length : Nat) : Int) ≤ 139; omega)) (c := 12) rfl (Or.inr ⟨0, rfl⟩) wl_X12_81 wi_X12_emits wv_X12_X12_emits_X12_emits wk_X12_emits wz_X12 md_X12_emits rfl (Nat.le_of_ble_eq_true rfl) ⟨Nat.le_of_ble_eq_true rfl, Nat.le_of_ble_eq_true rfl, Nat.le_of_ble_eq_true rfl, Nat.le_of_ble_eq_true rfl⟩ rfl rfl rfl rfl (by decide) (ro_cons (Or.inr ⟨0, rfl, by decide⟩) ro_nil) dX12_some_37 (fun u hu => ?_)
          obtain ⟨l2_12, rfl⟩ : ∃ z, z = u := ⟨_, rfl⟩
          have g_13 : emi (-3) (ps v2_8 l2_9) = ps v2_8 l2_12 := hu
          show V x cX12_some RX12 1 (rmU 13 279 0 0) [(h, co 12 (mO ad v2_8)), ((ad 1), cn 0 936 (wrS f a l2_12))] 40 [(0, ar h)] [] 0 0
          refine v_goto (pc := 40) 4 dX12_some_40 (by decide) ?_
          exact ih _ (by omega) v2_8 l2_12 rfl (by rw [← hrr, lpP_go (s := ps v1 l1) (by decide) (evP_k (fac_k 2)) he.2 ⟨hb1.1, hb1.2.1, hb1.2.2.1⟩ (by show v1 7 = 0; omega) (by show hrp (tp f) e (v1 5) = _; omega)]; congr 1; rw [show evP (tp f) e (fac (tp f) e 2) (adv (ps v1 l1)) = _ from g_10.1]; exact g_13.symm) (by exact kp_tr (kp_5 hkp) g_10.2) (by have q := emi_len g_13; omega)
  exact lp4 _ v2_1 l2_2 rfl (by exact congrArg (lpP (tp f) e 124 (-3) (evP (tp f) e (fac (tp f) e 2)) 101) g_3.1.symm) (by exact g_3.2) (by omega)
set_option maxHeartbeats 4000000 in
set_option maxRecDepth 100000 in
theorem c_factor_3 {gS : sG} (ad : Nat → Nat) (v : Nat → Int) (h : Nat) (f : Int → Int) (a : Int) (e : Int) (l : List Int) (ha : 0 ≤ a ∧ a ≤ 4) (he : 0 ≤ e ∧ e ≤ 100) (hT : ∀ j : Int, 0 ≤ j → j < e → 0 ≤ f (121 + j) ∧ f (121 + j) ≤ 127) (h4 : v 4 = a) (h6 : v 6 = e) (hB : PB e (ps v l)) (hl : (l.length : Int) ≤ v 5) (h8 : v 8 = 2) : Ct gS (S := (Nat → Int) × List Int) yX12_factor cX12_factor 5 none 14 299 0 0 [ar h] [(h, co 12 (mO ad v)), ((ad 1), cn 0 936 (wrS f a l))] (fun q => q ∈ ([] : aW)) (fun u => fac (tp f) e 3 (ps v l) = ps u.1 u.2 ∧ kp v u.1) (fun u => none) (fun u => [(h, co 12 (mO ad u.1)), ((ad 1), cn 0 936 (wrS f a u.2))]) := by
  refine ct_V RX12 [(0, ar h)] (by decide) rfl (Nat.le_of_ble_eq_true rfl) rfl (fun x hgS hnm hro hret => ?_)
  subst hgS
  have hB1 : 0 ≤ v 5 := hB.1
  have hB2 : v 5 ≤ e := hB.2.1
  have hB3 : v 7 = 0 ∨ v 7 = 1 := hB.2.2
  show V x cX12_factor RX12 5 (rmU 14 299 0 0) [(h, co 12 (mO ad v)), ((ad 1), cn 0 936 (wrS f a l))] 0 [(0, ar h)] [] 0 0
  refine v_aload_n (pc := 0) 0 rfl dX12_factor_0 ?_
  refine v_get (pc := 1) (v := ai (v 7)) 7 (Or.inr ⟨0, rfl⟩) fl_12_51_12 rfl dX12_factor_1 ?_
  refine v_if_eq (pc := 4) 8 dX12_factor_4 (by decide) (by unfold iB; omega) (fun c_1 => ?_) (fun c_1 => ?_)
  · skip
    refine v_aload_n (pc := 8) 0 rfl dX12_factor_8 ?_
    refine v_callV (pc := 9) [] [0, 1] [(h, co 12 (mO ad v)), ((ad 1), cn 0 936 (wrS f a l))] (As := []) (rest := []) (c_X12_here ad v h f a e l (v 5) (by first | omega | assumption) (by first | omega | assumption) (by show (v 6) = e; omega) (by rfl) (by first | omega | assumption)) (c := 12) rfl (Or.inr ⟨0, rfl⟩) wl_X12_55 wi_X12_here wv_X12_X12_here_X12_here wk_X12_here wz_X12 md_X12_here rfl (Nat.le_of_ble_eq_true rfl) ⟨Nat.le_of_ble_eq_true rfl, Nat.le_of_ble_eq_true rfl, Nat.le_of_ble_eq_true rfl, Nat.le_of_ble_eq_true rfl⟩ rfl rfl rfl rfl (by decide) (ro_cons (Or.inr ⟨0, rfl, by decide⟩) (ro_cons (Or.inr ⟨1, rfl, by decide⟩) ro_nil)) dX12_factor_9 (fun u hu => ?_)
    show V x cX12_factor RX12 5 (rmU 14 299 0 0) [(h, co 12 (mO ad v)), ((ad 1), cn 0 936 (wrS f a l))] 12 [(0, ar h)] [ai (hrp (tp f) e (v 5))] 0 0
    have hb_2 := hrp_b (p := (v 5)) hT (by omega)
    refine v_istore_n (pc := 12) (L2 := [(1, ai (hrp (tp f) e (v 5))), (0, ar h)]) rfl (by decide) dX12_factor_12 ?_
    refine v_iload_n (pc := 13) 0 rfl dX12_factor_13 ?_
    refine v_bipush (pc := 14) dX12_factor_14 (by decide) ?_
    refine v_icmp_eq (pc := 16) 25 dX12_factor_16 (by decide) (by unfold iB; omega) (by unfold iB; omega) (fun c_3 => ?_) (fun c_3 => ?_)
    · skip
      refine v_aload_n (pc := 25) 1 rfl dX12_factor_25 ?_
      refine v_aload_n (pc := 26) 1 rfl dX12_factor_26 ?_
      refine v_get (pc := 27) (v := ai (v 8)) 8 (Or.inr ⟨0, rfl⟩) fl_12_75_12 rfl dX12_factor_27 ?_
      refine v_iconst (pc := 30) dX12_factor_30 ?_
      refine v_icmp_ne (pc := 31) 38 dX12_factor_31 (by decide) (by unfold iB; omega) (by unfold iB; omega) (fun c_4 => ?_) (fun c_4 => ?_)
      · skip
        refine v_iconst (pc := 38) dX12_factor_38 ?_
        refine v_put (pc := 39) 7 0 rfl fl_12_51_12 ck_12 ft_12_7 okV_z0 (Nat.le_of_ble_eq_true rfl) (ws2 := [(h, co 12 (mO ad (nup v 7 0))), ((ad 1), cn 0 936 (wrS f a l))]) rfl dX12_factor_39 ?_
        refine v_aload_n (pc := 42) 1 rfl dX12_factor_42 ?_
        refine v_dup (pc := 43) rfl dX12_factor_43 ?_
        refine v_get (pc := 44) (v := ai (v 8)) 8 (Or.inr ⟨0, rfl⟩) fl_12_75_12 rfl dX12_factor_44 ?_
        refine v_iconst (pc := 47) dX12_factor_47 ?_
        refine v_iadd (pc := 48) dX12_factor_48 ?_
        refine v_put (pc := 49) 8 0 rfl fl_12_75_12 ck_12 ft_12_8 (okV_i _) (Nat.le_of_ble_eq_true rfl) (ws2 := [(h, co 12 (mO ad (nup (nup v 7 0) 8 ((v 8) + 1)))), ((ad 1), cn 0 936 (wrS f a l))]) rfl dX12_factor_49 ?_
        refine v_aload_n (pc := 52) 1 rfl dX12_factor_52 ?_
        refine v_dup (pc := 53) rfl dX12_factor_53 ?_
        refine v_get (pc := 54) (v := ai (v 5)) 5 (Or.inr ⟨0, rfl⟩) fl_12_45_12 rfl dX12_factor_54 ?_
        refine v_aload_n (pc := 57) 1 rfl dX12_factor_57 ?_
        refine v_get (pc := 58) (v := ai 0) 7 (Or.inr ⟨0, rfl⟩) fl_12_51_12 rfl dX12_factor_58 ?_
        refine v_if_eq (pc := 61) 68 dX12_factor_61 (by decide) (by unfold iB; omega) (fun c_5 => ?_) (fun c_5 => by exfalso; omega)
        refine v_iconst (pc := 68) dX12_factor_68 ?_
        refine v_iadd (pc := 69) dX12_factor_69 ?_
        refine v_put (pc := 70) 5 0 rfl fl_12_45_12 ck_12 ft_12_5 (okV_i _) (Nat.le_of_ble_eq_true rfl) (ws2 := [(h, co 12 (mO ad (nup (nup (nup v 7 0) 8 ((v 8) + 1)) 5 ((v 5) + 1)))), ((ad 1), cn 0 936 (wrS f a l))]) rfl dX12_factor_70 ?_
        refine v_iload_n (pc := 73) 0 rfl dX12_factor_73 ?_
        refine v_bipush (pc := 74) dX12_factor_74 (by decide) ?_
        refine v_icmp_ne (pc := 76) 91 dX12_factor_76 (by decide) (by unfold iB; omega) (by unfold iB; omega) (fun c_6 => ?_) (fun c_6 => ?_)
        · skip
          exfalso; omega
        · skip
          refine v_aload_n (pc := 79) 1 rfl dX12_factor_79 ?_
          refine v_callV (pc := 80) [0, 1] [] [] (As := []) (rest := []) (c_factor_2 ad (nup (nup (nup v 7 0) 8 ((v 8) + 1)) 5 ((v 5) + 1)) h f a e l (by first | omega | assumption) (by first | omega | assumption) (by exact hT) (by show (v 4) = a; omega) (by show (v 6) = e; omega) (by exact ⟨by show 0 ≤ ((v 5) + 1); omega, by show ((v 5) + 1) ≤ e; omega, by show 0 = 0 ∨ 0 = 1; omega⟩) (by show ((l.length : Nat) : Int) ≤ ((v 5) + 1); omega) (by show ((v 8) + 1) = _; omega)) (c := 12) rfl (Or.inr ⟨0, rfl⟩) wl_X12_78 wi_X12_factor wv_X12_X12_factor_X12_factor wk_X12_factor wz_X12 md_X12_factor rfl (Nat.le_of_ble_eq_true rfl) ⟨Nat.le_of_ble_eq_true rfl, Nat.le_of_ble_eq_true rfl, Nat.le_of_ble_eq_true rfl, Nat.le_of_ble_eq_true rfl⟩ rfl rfl rfl rfl (by decide) ro_nil dX12_factor_80 (fun u hu => ?_)
          obtain ⟨v2_7, l2_8⟩ := u
          have g_9 : fac (tp f) e 2 (ps (nup (nup (nup v 7 0) 8 ((v 8) + 1)) 5 ((v 5) + 1)) l) = ps v2_7 l2_8 ∧ kp (nup (nup (nup v 7 0) 8 ((v 8) + 1)) 5 ((v 5) + 1)) v2_7 := hu
          show V x cX12_factor RX12 5 (rmU 14 299 0 0) [(h, co 12 (mO ad v2_7)), ((ad 1), cn 0 936 (wrS f a l2_8))] 83 [(1, ai (hrp (tp f) e (v 5))), (0, ar h)] [] 0 0
          have hn_10 : PN e (ps (nup (nup (nup v 7 0) 8 ((v 8) + 1)) 5 ((v 5) + 1)) l) (fac (tp f) e 2 (ps (nup (nup (nup v 7 0) 8 ((v 8) + 1)) 5 ((v 5) + 1)) l)) := fac_k (t := tp f) 2 _ ⟨by show 0 ≤ ((v 5) + 1); omega, by show ((v 5) + 1) ≤ e; omega, by show 0 = 0 ∨ 0 = 1; omega⟩
          rw [g_9.1] at hn_10
          have hn_10a : (0 ≤ v2_7 5 ∧ v2_7 5 ≤ e ∧ (v2_7 7 = 0 ∨ v2_7 7 = 1)) ∧ ((v 5) + 1) ≤ v2_7 5 ∧ ((v 5) + 1) - ((l.length : Nat) : Int) ≤ v2_7 5 - ((l2_8.length : Nat) : Int) := hn_10
          have hn_10k4 : v2_7 4 = a := (g_9.2 4 (by decide) (by decide)).trans (by show (v 4) = a; omega)
          have hn_10k6 : v2_7 6 = e := (g_9.2 6 (by decide) (by decide)).trans (by show (v 6) = e; omega)
          have hn_10k8 : v2_7 8 = ((v 8) + 1) := (g_9.2 8 (by decide) (by decide)).trans (by show ((v 8) + 1) = ((v 8) + 1); omega)
          refine v_aload_n (pc := 83) 1 rfl dX12_factor_83 ?_
          refine v_iconst (pc := 84) dX12_factor_84 ?_
          refine v_callV (pc := 85) [1] [0] [(h, co 12 (mO ad v2_7))] (As := [ai (-1)]) (rest := []) (c_X12_emits ad v2_7 h f a e l2_8 (-1) (by first | omega | assumption) (by first | omega | assumption) (by exact hT) (by show (v2_7 4) = a; omega) (by show (v2_7 6) = e; omega) (by exact ⟨by show 0 ≤ (v2_7 5); omega, by show (v2_7 5) ≤ e; omega, by show (v2_7 7) = 0 ∨ (v2_7 7) = 1; omega⟩) (by show ((l2_8.length : Nat) : Int) ≤ 139; omega)) (c := 12) rfl (Or.inr ⟨0, rfl⟩) wl_X12_81 wi_X12_emits wv_X12_X12_emits_X12_emits wk_X12_emits wz_X12 md_X12_emits rfl (Nat.le_of_ble_eq_true rfl) ⟨Nat.le_of_ble_eq_true rfl, Nat.le_of_ble_eq_true rfl, Nat.le_of_ble_eq_true rfl, Nat.le_of_ble_eq_true rfl⟩ rfl rfl rfl rfl (by decide) (ro_cons (Or.inr ⟨0, rfl, by decide⟩) ro_nil) dX12_factor_85 (fun u hu => ?_)
          obtain ⟨l2_11, rfl⟩ : ∃ z, z = u := ⟨_, rfl⟩
          have g_12 : emi (-1) (ps v2_7 l2_8) = ps v2_7 l2_11 := hu
          show V x cX12_factor RX12 5 (rmU 14 299 0 0) [(h, co 12 (mO ad v2_7)), ((ad 1), cn 0 936 (wrS f a l2_11))] 88 [(1, ai (hrp (tp f) e (v 5))), (0, ar h)] [] 0 0
          refine v_goto (pc := 88) 101 dX12_factor_88 (by decide) ?_
          refine v_aload_n (pc := 101) 1 rfl dX12_factor_101 ?_
          refine v_dup (pc := 102) rfl dX12_factor_102 ?_
          refine v_get (pc := 103) (v := ai (v2_7 8)) 8 (Or.inr ⟨0, rfl⟩) fl_12_75_12 rfl dX12_factor_103 ?_
          refine v_iconst (pc := 106) dX12_factor_106 ?_
          refine v_isub (pc := 107) dX12_factor_107 ?_
          refine v_put (pc := 108) 8 0 rfl fl_12_75_12 ck_12 ft_12_8 (okV_i _) (Nat.le_of_ble_eq_true rfl) (ws2 := [(h, co 12 (mO ad (nup v2_7 8 ((v2_7 8) - 1)))), ((ad 1), cn 0 936 (wrS f a l2_11))]) rfl dX12_factor_108 ?_
          exact hret ((nup v2_7 8 ((v2_7 8) - 1)), l2_11) _ _ _ _ _ (by exact ⟨fac_not (by omega) (by omega) g_9.1 g_12 rfl rfl, kp_8 g_9.2⟩) rfl rfl (Nat.le_of_ble_eq_true rfl) (Nat.le_of_ble_eq_true rfl) dX12_factor_111
      · skip
        exfalso; omega
    · skip
      refine v_iload_n (pc := 19) 0 rfl dX12_factor_19 ?_
      refine v_bipush (pc := 20) dX12_factor_20 (by decide) ?_
      refine v_icmp_ne (pc := 22) 112 dX12_factor_22 (by decide) (by unfold iB; omega) (by unfold iB; omega) (fun c_13 => ?_) (fun c_13 => ?_)
      · skip
        refine v_aload_n (pc := 112) 1 rfl dX12_factor_112 ?_
        refine v_ldcS (pc := 113) (q := ("MatFlipModel", 87, "pkngsy", 7)) (List.mem_of_getElem? (i := 12) rfl) rfl dX12_factor_113 ?_
        refine v_callV (pc := 115) [0] [1] [((ad 1), cn 0 936 (wrS f a l))] (As := [ar (lK (xg x) 7)]) (rest := []) (c_X12_among ad v h f a e l 7 (by first | omega | assumption) (by first | omega | assumption) (by exact hT) (by show (v 4) = a; omega) (by show (v 6) = e; omega) (by exact ⟨by show 0 ≤ (v 5); omega, by show (v 5) ≤ e; omega, by show (v 7) = 0 ∨ (v 7) = 1; omega⟩) (by first | omega | assumption)) (c := 12) rfl (Or.inr ⟨0, rfl⟩) wl_X12_89 wi_X12_among wv_X12_X12_among_X12_among wk_X12_among wz_X12 md_X12_among rfl (Nat.le_of_ble_eq_true rfl) ⟨Nat.le_of_ble_eq_true rfl, Nat.le_of_ble_eq_true rfl, Nat.le_of_ble_eq_true rfl, Nat.le_of_ble_eq_true rfl⟩ rfl rfl rfl rfl (by decide) (ro_cons (Or.inr ⟨1, rfl, by decide⟩) ro_nil) dX12_factor_115 (fun u hu => ?_)
        obtain ⟨v2_14, rfl⟩ : ∃ z, z = u := ⟨_, rfl⟩
        have g_15 : (am (tp f) e 7 (ps v l)).2 = ps v2_14 l ∧ kp v v2_14 := hu
        show V x cX12_factor RX12 5 (rmU 14 299 0 0) [((ad 1), cn 0 936 (wrS f a l)), (h, co 12 (mO ad v2_14))] 118 [(1, ai (hrp (tp f) e (v 5))), (0, ar h)] [ai ((am (tp f) e 7 (ps v l)).1)] 0 0
        obtain ⟨hb7a, hb7b, -, -⟩ := am_b (t := tp f) (e := e) (i := 7) (s := ps v l) (by decide)
        have hl7 := len_b (i := 7) (by decide)
        have h77 : v2_14 7 = v 7 := by have q := am_7 (t := tp f) (e := e) (i := 7) (s := ps v l); rw [g_15.1] at q; exact congrArg Prod.fst q
        have hn_16 : PN e (ps v l) ((am (tp f) e 7 (ps v l)).2) := am_k (t := tp f) (by omega) _ ⟨by show 0 ≤ (v 5); omega, by show (v 5) ≤ e; omega, by show (v 7) = 0 ∨ (v 7) = 1; omega⟩
        rw [g_15.1] at hn_16
        have hn_16a : (0 ≤ v2_14 5 ∧ v2_14 5 ≤ e ∧ (v2_14 7 = 0 ∨ v2_14 7 = 1)) ∧ (v 5) ≤ v2_14 5 ∧ (v 5) - ((l.length : Nat) : Int) ≤ v2_14 5 - ((l.length : Nat) : Int) := hn_16
        have hn_16k4 : v2_14 4 = a := (g_15.2 4 (by decide) (by decide)).trans (by show (v 4) = a; omega)
        have hn_16k6 : v2_14 6 = e := (g_15.2 6 (by decide) (by decide)).trans (by show (v 6) = e; omega)
        have hn_16k8 : v2_14 8 = (v 8) := (g_15.2 8 (by decide) (by decide)).trans (by show (v 8) = (v 8); omega)
        refine v_istore_n (pc := 118) (L2 := [(2, ai ((am (tp f) e 7 (ps v l)).1)), (1, ai (hrp (tp f) e (v 5))), (0, ar h)]) rfl (by decide) dX12_factor_118 ?_
        refine v_aload_n (pc := 119) 2 rfl dX12_factor_119 ?_
        refine v_iload_n (pc := 120) 0 rfl dX12_factor_120 ?_
        refine v_iconst (pc := 121) dX12_factor_121 ?_
        refine v_icmp_ne (pc := 122) 129 dX12_factor_122 (by decide) (by unfold iB; omega) (by unfold iB; omega) (fun c_17 => ?_) (fun c_17 => ?_)
        · skip
          refine v_iconst (pc := 129) dX12_factor_129 ?_
          refine v_put (pc := 130) 7 1 rfl fl_12_51_12 ck_12 ft_12_7 okV_z0 (Nat.le_of_ble_eq_true rfl) (ws2 := [((ad 1), cn 0 936 (wrS f a l)), (h, co 12 (mO ad (nup v2_14 7 0)))]) rfl dX12_factor_130 ?_
          refine v_aload_n (pc := 133) 2 rfl dX12_factor_133 ?_
          refine v_get (pc := 134) (v := ai 0) 7 (Or.inr ⟨1, rfl⟩) fl_12_51_12 rfl dX12_factor_134 ?_
          refine v_if_eq (pc := 137) 144 dX12_factor_137 (by decide) (by unfold iB; omega) (fun c_18 => ?_) (fun c_18 => by exfalso; omega)
          refine v_aload_n (pc := 144) 2 rfl dX12_factor_144 ?_
          refine v_ldcS (pc := 145) (q := ("MatFlipModel", 93, "<=>", 8)) (List.mem_of_getElem? (i := 13) rfl) rfl dX12_factor_145 ?_
          refine v_callV (pc := 147) [1] [0] [((ad 1), cn 0 936 (wrS f a l))] (As := [ar (lK (xg x) 8)]) (rest := []) (c_X12_among ad (nup v2_14 7 0) h f a e l 8 (by first | omega | assumption) (by first | omega | assumption) (by exact hT) (by show (v2_14 4) = a; omega) (by show (v2_14 6) = e; omega) (by exact ⟨by show 0 ≤ (v2_14 5); omega, by show (v2_14 5) ≤ e; omega, by show 0 = 0 ∨ 0 = 1; omega⟩) (by first | omega | assumption)) (c := 12) rfl (Or.inr ⟨1, rfl⟩) wl_X12_89 wi_X12_among wv_X12_X12_among_X12_among wk_X12_among wz_X12 md_X12_among rfl (Nat.le_of_ble_eq_true rfl) ⟨Nat.le_of_ble_eq_true rfl, Nat.le_of_ble_eq_true rfl, Nat.le_of_ble_eq_true rfl, Nat.le_of_ble_eq_true rfl⟩ rfl rfl rfl rfl (by decide) (ro_cons (Or.inr ⟨0, rfl, by decide⟩) ro_nil) dX12_factor_147 (fun u hu => ?_)
          obtain ⟨v2_19, rfl⟩ : ∃ z, z = u := ⟨_, rfl⟩
          have g_20 : (am (tp f) e 8 (ps (nup v2_14 7 0) l)).2 = ps v2_19 l ∧ kp (nup v2_14 7 0) v2_19 := hu
          show V x cX12_factor RX12 5 (rmU 14 299 0 0) [((ad 1), cn 0 936 (wrS f a l)), (h, co 12 (mO ad v2_19))] 150 [(2, ai ((am (tp f) e 7 (ps v l)).1)), (1, ai (hrp (tp f) e (v 5))), (0, ar h)] [ai ((am (tp f) e 8 (ps (nup v2_14 7 0) l)).1)] 0 0
          obtain ⟨hb8a, hb8b, -, -⟩ := am_b (t := tp f) (e := e) (i := 8) (s := (ps (nup v2_14 7 0) l)) (by decide)
          have hl8 := len_b (i := 8) (by decide)
          have h87 : v2_19 7 = 0 := by have q := am_7 (t := tp f) (e := e) (i := 8) (s := (ps (nup v2_14 7 0) l)); rw [g_20.1] at q; exact congrArg Prod.fst q
          have hn_21 : PN e (ps (nup v2_14 7 0) l) ((am (tp f) e 8 (ps (nup v2_14 7 0) l)).2) := am_k (t := tp f) (by omega) _ ⟨by show 0 ≤ (v2_14 5); omega, by show (v2_14 5) ≤ e; omega, by show 0 = 0 ∨ 0 = 1; omega⟩
          rw [g_20.1] at hn_21
          have hn_21a : (0 ≤ v2_19 5 ∧ v2_19 5 ≤ e ∧ (v2_19 7 = 0 ∨ v2_19 7 = 1)) ∧ (v2_14 5) ≤ v2_19 5 ∧ (v2_14 5) - ((l.length : Nat) : Int) ≤ v2_19 5 - ((l.length : Nat) : Int) := hn_21
          have hn_21k4 : v2_19 4 = a := (g_20.2 4 (by decide) (by decide)).trans (by show (v2_14 4) = a; omega)
          have hn_21k6 : v2_19 6 = e := (g_20.2 6 (by decide) (by decide)).trans (by show (v2_14 6) = e; omega)
          have hn_21k8 : v2_19 8 = (v2_14 8) := (g_20.2 8 (by decide) (by decide)).trans (by show (v2_14 8) = (v2_14 8); omega)
          refine v_istore_n (pc := 150) (L2 := [(3, ai ((am (tp f) e 8 (ps (nup v2_14 7 0) l)).1)), (2, ai ((am (tp f) e 7 (ps v l)).1)), (1, ai (hrp (tp f) e (v 5))), (0, ar h)]) rfl (by decide) dX12_factor_150 ?_
          refine v_aload_n (pc := 151) 3 rfl dX12_factor_151 ?_
          refine v_aload_n (pc := 152) 3 rfl dX12_factor_152 ?_
          refine v_get (pc := 153) (v := ai (v2_19 7)) 7 (Or.inr ⟨1, rfl⟩) fl_12_51_12 rfl dX12_factor_153 ?_
          refine v_if_ne (pc := 156) 164 dX12_factor_156 (by decide) (by unfold iB; omega) (fun c_22 => ?_) (fun c_22 => ?_)
          · skip
            exfalso; omega
          · skip
            refine v_iload_n (pc := 159) 0 rfl dX12_factor_159 ?_
            refine v_iconst (pc := 160) dX12_factor_160 ?_
            refine v_icmp_ne (pc := 161) 168 dX12_factor_161 (by decide) (by unfold iB; omega) (by unfold iB; omega) (fun c_23 => ?_) (fun c_23 => ?_)
            · skip
              refine v_iconst (pc := 168) dX12_factor_168 ?_
              refine v_put (pc := 169) 7 1 rfl fl_12_51_12 ck_12 ft_12_7 okV_z0 (Nat.le_of_ble_eq_true rfl) (ws2 := [((ad 1), cn 0 936 (wrS f a l)), (h, co 12 (mO ad (nup v2_19 7 0)))]) rfl dX12_factor_169 ?_
              refine v_aload_n (pc := 172) 3 rfl dX12_factor_172 ?_
              refine v_callV (pc := 173) [1] [0] [((ad 1), cn 0 936 (wrS f a l))] (As := []) (rest := []) (c_X12_figures ad (nup v2_19 7 0) h f a e l (by first | omega | assumption) (by first | omega | assumption) (by exact hT) (by show (v2_19 4) = a; omega) (by show (v2_19 6) = e; omega) (by exact ⟨by show 0 ≤ (v2_19 5); omega, by show (v2_19 5) ≤ e; omega, by show 0 = 0 ∨ 0 = 1; omega⟩)) (c := 12) rfl (Or.inr ⟨1, rfl⟩) wl_X12_95 wi_X12_figures wv_X12_X12_figures_X12_figures wk_X12_figures wz_X12 md_X12_figures rfl (Nat.le_of_ble_eq_true rfl) ⟨Nat.le_of_ble_eq_true rfl, Nat.le_of_ble_eq_true rfl, Nat.le_of_ble_eq_true rfl, Nat.le_of_ble_eq_true rfl⟩ rfl rfl rfl rfl (by decide) (ro_cons (Or.inr ⟨0, rfl, by decide⟩) ro_nil) dX12_factor_173 (fun u hu => ?_)
              obtain ⟨v2_24, rfl⟩ : ∃ z, z = u := ⟨_, rfl⟩
              have g_25 : (fig (tp f) e (ps (nup v2_19 7 0) l)).2 = ps v2_24 l ∧ kp (nup v2_19 7 0) v2_24 := hu
              show V x cX12_factor RX12 5 (rmU 14 299 0 0) [((ad 1), cn 0 936 (wrS f a l)), (h, co 12 (mO ad v2_24))] 176 [(3, ai ((am (tp f) e 8 (ps (nup v2_14 7 0) l)).1)), (2, ai ((am (tp f) e 7 (ps v l)).1)), (1, ai (hrp (tp f) e (v 5))), (0, ar h)] [ai ((fig (tp f) e (ps (nup v2_19 7 0) l)).1)] 0 0
              have hn_26 : PN e (ps (nup v2_19 7 0) l) ((fig (tp f) e (ps (nup v2_19 7 0) l)).2) := fig_k (t := tp f) _ ⟨by show 0 ≤ (v2_19 5); omega, by show (v2_19 5) ≤ e; omega, by show 0 = 0 ∨ 0 = 1; omega⟩
              rw [g_25.1] at hn_26
              have hn_26a : (0 ≤ v2_24 5 ∧ v2_24 5 ≤ e ∧ (v2_24 7 = 0 ∨ v2_24 7 = 1)) ∧ (v2_19 5) ≤ v2_24 5 ∧ (v2_19 5) - ((l.length : Nat) : Int) ≤ v2_24 5 - ((l.length : Nat) : Int) := hn_26
              have hn_26k4 : v2_24 4 = a := (g_25.2 4 (by decide) (by decide)).trans (by show (v2_19 4) = a; omega)
              have hn_26k6 : v2_24 6 = e := (g_25.2 6 (by decide) (by decide)).trans (by show (v2_19 6) = e; omega)
              have hn_26k8 : v2_24 8 = (v2_19 8) := (g_25.2 8 (by decide) (by decide)).trans (by show (v2_19 8) = (v2_19 8); omega)
              refine v_istore (pc := 176) (L2 := [(4, ai ((fig (tp f) e (ps (nup v2_19 7 0) l)).1)), (3, ai ((am (tp f) e 8 (ps (nup v2_14 7 0) l)).1)), (2, ai ((am (tp f) e 7 (ps v l)).1)), (1, ai (hrp (tp f) e (v 5))), (0, ar h)]) rfl (by decide) dX12_factor_176 ?_
              refine v_aload_n (pc := 178) 4 rfl dX12_factor_178 ?_
              refine v_iload_n (pc := 179) 2 rfl dX12_factor_179 ?_
              refine v_bipush (pc := 180) dX12_factor_180 (by decide) ?_
              refine v_iload_n (pc := 182) 1 rfl dX12_factor_182 ?_
              refine v_imul (pc := 183) dX12_factor_183 ?_
              refine v_iadd (pc := 184) dX12_factor_184 ?_
              refine v_bipush (pc := 185) dX12_factor_185 (by decide) ?_
              refine v_iload (pc := 187) 0 rfl dX12_factor_187 ?_
              refine v_imul (pc := 189) dX12_factor_189 ?_
              refine v_iadd (pc := 190) dX12_factor_190 ?_
              refine v_callV (pc := 191) [0] [1] [(h, co 12 (mO ad v2_24))] (As := [ai (((am (tp f) e 7 (ps v l)).1 + (8 * (am (tp f) e 8 (ps (nup v2_14 7 0) l)).1)) + (32 * (fig (tp f) e (ps (nup v2_19 7 0) l)).1))]) (rest := []) (c_X12_emits ad v2_24 h f a e l (((am (tp f) e 7 (ps v l)).1 + (8 * (am (tp f) e 8 (ps (nup v2_14 7 0) l)).1)) + (32 * (fig (tp f) e (ps (nup v2_19 7 0) l)).1)) (by first | omega | assumption) (by first | omega | assumption) (by exact hT) (by show (v2_24 4) = a; omega) (by show (v2_24 6) = e; omega) (by exact ⟨by show 0 ≤ (v2_24 5); omega, by show (v2_24 5) ≤ e; omega, by show (v2_24 7) = 0 ∨ (v2_24 7) = 1; omega⟩) (by show ((l.length : Nat) : Int) ≤ 139; omega)) (c := 12) rfl (Or.inr ⟨1, rfl⟩) wl_X12_81 wi_X12_emits wv_X12_X12_emits_X12_emits wk_X12_emits wz_X12 md_X12_emits rfl (Nat.le_of_ble_eq_true rfl) ⟨Nat.le_of_ble_eq_true rfl, Nat.le_of_ble_eq_true rfl, Nat.le_of_ble_eq_true rfl, Nat.le_of_ble_eq_true rfl⟩ rfl rfl rfl rfl (by decide) (ro_cons (Or.inr ⟨1, rfl, by decide⟩) ro_nil) dX12_factor_191 (fun u hu => ?_)
              obtain ⟨l2_27, rfl⟩ : ∃ z, z = u := ⟨_, rfl⟩
              have g_28 : emi (((am (tp f) e 7 (ps v l)).1 + (8 * (am (tp f) e 8 (ps (nup v2_14 7 0) l)).1)) + (32 * (fig (tp f) e (ps (nup v2_19 7 0) l)).1)) (ps v2_24 l) = ps v2_24 l2_27 := hu
              show V x cX12_factor RX12 5 (rmU 14 299 0 0) [(h, co 12 (mO ad v2_24)), ((ad 1), cn 0 936 (wrS f a l2_27))] 194 [(4, ai ((fig (tp f) e (ps (nup v2_19 7 0) l)).1)), (3, ai ((am (tp f) e 8 (ps (nup v2_14 7 0) l)).1)), (2, ai ((am (tp f) e 7 (ps v l)).1)), (1, ai (hrp (tp f) e (v 5))), (0, ar h)] [] 0 0
              have ha1 : am (tp f) e 7 (ps v l) = ((am (tp f) e 7 (ps v l)).1, ps v2_14 l) := pr_of g_15.1
              have hb1 : (if (am (tp f) e 7 (ps v l)).1 = -1 then bad (ps v2_14 l) else ps v2_14 l) = ps (nup v2_14 7 0) l := by rw [if_neg (by omega)]; exact ps_70 (by omega)
              have ha2 : tsB (tp f) e (ps (nup v2_14 7 0) l) = ((am (tp f) e 8 (ps (nup v2_14 7 0) l)).1, ps v2_19 l) := (if_pos rfl).trans (pr_of g_20.1)
              have hb2 : (if (am (tp f) e 8 (ps (nup v2_14 7 0) l)).1 = -1 then bad (ps v2_19 l) else ps v2_19 l) = ps (nup v2_19 7 0) l := by first | (rw [if_pos (by omega)]; done) | (rw [if_pos (by omega)]; rfl) | (rw [if_neg (by omega)]; exact ps_70 (by omega))
              have ha3 : fig (tp f) e (ps (nup v2_19 7 0) l) = ((fig (tp f) e (ps (nup v2_19 7 0) l)).1, ps v2_24 l) := pr_of g_25.1
              exact hret (v2_24, l2_27) _ _ _ _ _ (by exact ⟨fac_tst (by omega) (by omega) (by omega) (tsp_of ha1 hb1 ha2 hb2 ha3 g_28), kp_tr (kp_7 (kp_tr (kp_7 g_15.2) g_20.2)) g_25.2⟩) rfl rfl (Nat.le_of_ble_eq_true rfl) (Nat.le_of_ble_eq_true rfl) dX12_factor_194
            · skip
              refine v_iconst (pc := 164) dX12_factor_164 ?_
              refine v_goto (pc := 165) 169 dX12_factor_165 (by decide) ?_
              refine v_put (pc := 169) 7 1 rfl fl_12_51_12 ck_12 ft_12_7 okV_z1 (Nat.le_of_ble_eq_true rfl) (ws2 := [((ad 1), cn 0 936 (wrS f a l)), (h, co 12 (mO ad (nup v2_19 7 1)))]) rfl dX12_factor_169 ?_
              refine v_aload_n (pc := 172) 3 rfl dX12_factor_172 ?_
              refine v_callV (pc := 173) [1] [0] [((ad 1), cn 0 936 (wrS f a l))] (As := []) (rest := []) (c_X12_figures ad (nup v2_19 7 1) h f a e l (by first | omega | assumption) (by first | omega | assumption) (by exact hT) (by show (v2_19 4) = a; omega) (by show (v2_19 6) = e; omega) (by exact ⟨by show 0 ≤ (v2_19 5); omega, by show (v2_19 5) ≤ e; omega, by show 1 = 0 ∨ 1 = 1; omega⟩)) (c := 12) rfl (Or.inr ⟨1, rfl⟩) wl_X12_95 wi_X12_figures wv_X12_X12_figures_X12_figures wk_X12_figures wz_X12 md_X12_figures rfl (Nat.le_of_ble_eq_true rfl) ⟨Nat.le_of_ble_eq_true rfl, Nat.le_of_ble_eq_true rfl, Nat.le_of_ble_eq_true rfl, Nat.le_of_ble_eq_true rfl⟩ rfl rfl rfl rfl (by decide) (ro_cons (Or.inr ⟨0, rfl, by decide⟩) ro_nil) dX12_factor_173 (fun u hu => ?_)
              obtain ⟨v2_29, rfl⟩ : ∃ z, z = u := ⟨_, rfl⟩
              have g_30 : (fig (tp f) e (ps (nup v2_19 7 1) l)).2 = ps v2_29 l ∧ kp (nup v2_19 7 1) v2_29 := hu
              show V x cX12_factor RX12 5 (rmU 14 299 0 0) [((ad 1), cn 0 936 (wrS f a l)), (h, co 12 (mO ad v2_29))] 176 [(3, ai ((am (tp f) e 8 (ps (nup v2_14 7 0) l)).1)), (2, ai ((am (tp f) e 7 (ps v l)).1)), (1, ai (hrp (tp f) e (v 5))), (0, ar h)] [ai ((fig (tp f) e (ps (nup v2_19 7 1) l)).1)] 0 0
              have hn_31 : PN e (ps (nup v2_19 7 1) l) ((fig (tp f) e (ps (nup v2_19 7 1) l)).2) := fig_k (t := tp f) _ ⟨by show 0 ≤ (v2_19 5); omega, by show (v2_19 5) ≤ e; omega, by show 1 = 0 ∨ 1 = 1; omega⟩
              rw [g_30.1] at hn_31
              have hn_31a : (0 ≤ v2_29 5 ∧ v2_29 5 ≤ e ∧ (v2_29 7 = 0 ∨ v2_29 7 = 1)) ∧ (v2_19 5) ≤ v2_29 5 ∧ (v2_19 5) - ((l.length : Nat) : Int) ≤ v2_29 5 - ((l.length : Nat) : Int) := hn_31
              have hn_31k4 : v2_29 4 = a := (g_30.2 4 (by decide) (by decide)).trans (by show (v2_19 4) = a; omega)
              have hn_31k6 : v2_29 6 = e := (g_30.2 6 (by decide) (by decide)).trans (by show (v2_19 6) = e; omega)
              have hn_31k8 : v2_29 8 = (v2_19 8) := (g_30.2 8 (by decide) (by decide)).trans (by show (v2_19 8) = (v2_19 8); omega)
              refine v_istore (pc := 176) (L2 := [(4, ai ((fig (tp f) e (ps (nup v2_19 7 1) l)).1)), (3, ai ((am (tp f) e 8 (ps (nup v2_14 7 0) l)).1)), (2, ai ((am (tp f) e 7 (ps v l)).1)), (1, ai (hrp (tp f) e (v 5))), (0, ar h)]) rfl (by decide) dX12_factor_176 ?_
              refine v_aload_n (pc := 178) 4 rfl dX12_factor_178 ?_
              refine v_iload_n (pc := 179) 2 rfl dX12_factor_179 ?_
              refine v_bipush (pc := 180) dX12_factor_180 (by decide) ?_
              refine v_iload_n (pc := 182) 1 rfl dX12_factor_182 ?_
              refine v_imul (pc := 183) dX12_factor_183 ?_
              refine v_iadd (pc := 184) dX12_factor_184 ?_
              refine v_bipush (pc := 185) dX12_factor_185 (by decide) ?_
              refine v_iload (pc := 187) 0 rfl dX12_factor_187 ?_
              refine v_imul (pc := 189) dX12_factor_189 ?_
              refine v_iadd (pc := 190) dX12_factor_190 ?_
              refine v_callV (pc := 191) [0] [1] [(h, co 12 (mO ad v2_29))] (As := [ai (((am (tp f) e 7 (ps v l)).1 + (8 * (am (tp f) e 8 (ps (nup v2_14 7 0) l)).1)) + (32 * (fig (tp f) e (ps (nup v2_19 7 1) l)).1))]) (rest := []) (c_X12_emits ad v2_29 h f a e l (((am (tp f) e 7 (ps v l)).1 + (8 * (am (tp f) e 8 (ps (nup v2_14 7 0) l)).1)) + (32 * (fig (tp f) e (ps (nup v2_19 7 1) l)).1)) (by first | omega | assumption) (by first | omega | assumption) (by exact hT) (by show (v2_29 4) = a; omega) (by show (v2_29 6) = e; omega) (by exact ⟨by show 0 ≤ (v2_29 5); omega, by show (v2_29 5) ≤ e; omega, by show (v2_29 7) = 0 ∨ (v2_29 7) = 1; omega⟩) (by show ((l.length : Nat) : Int) ≤ 139; omega)) (c := 12) rfl (Or.inr ⟨1, rfl⟩) wl_X12_81 wi_X12_emits wv_X12_X12_emits_X12_emits wk_X12_emits wz_X12 md_X12_emits rfl (Nat.le_of_ble_eq_true rfl) ⟨Nat.le_of_ble_eq_true rfl, Nat.le_of_ble_eq_true rfl, Nat.le_of_ble_eq_true rfl, Nat.le_of_ble_eq_true rfl⟩ rfl rfl rfl rfl (by decide) (ro_cons (Or.inr ⟨1, rfl, by decide⟩) ro_nil) dX12_factor_191 (fun u hu => ?_)
              obtain ⟨l2_32, rfl⟩ : ∃ z, z = u := ⟨_, rfl⟩
              have g_33 : emi (((am (tp f) e 7 (ps v l)).1 + (8 * (am (tp f) e 8 (ps (nup v2_14 7 0) l)).1)) + (32 * (fig (tp f) e (ps (nup v2_19 7 1) l)).1)) (ps v2_29 l) = ps v2_29 l2_32 := hu
              show V x cX12_factor RX12 5 (rmU 14 299 0 0) [(h, co 12 (mO ad v2_29)), ((ad 1), cn 0 936 (wrS f a l2_32))] 194 [(4, ai ((fig (tp f) e (ps (nup v2_19 7 1) l)).1)), (3, ai ((am (tp f) e 8 (ps (nup v2_14 7 0) l)).1)), (2, ai ((am (tp f) e 7 (ps v l)).1)), (1, ai (hrp (tp f) e (v 5))), (0, ar h)] [] 0 0
              have ha1 : am (tp f) e 7 (ps v l) = ((am (tp f) e 7 (ps v l)).1, ps v2_14 l) := pr_of g_15.1
              have hb1 : (if (am (tp f) e 7 (ps v l)).1 = -1 then bad (ps v2_14 l) else ps v2_14 l) = ps (nup v2_14 7 0) l := by rw [if_neg (by omega)]; exact ps_70 (by omega)
              have ha2 : tsB (tp f) e (ps (nup v2_14 7 0) l) = ((am (tp f) e 8 (ps (nup v2_14 7 0) l)).1, ps v2_19 l) := (if_pos rfl).trans (pr_of g_20.1)
              have hb2 : (if (am (tp f) e 8 (ps (nup v2_14 7 0) l)).1 = -1 then bad (ps v2_19 l) else ps v2_19 l) = ps (nup v2_19 7 1) l := by first | (rw [if_pos (by omega)]; done) | (rw [if_pos (by omega)]; rfl) | (rw [if_neg (by omega)]; exact ps_70 (by omega))
              have ha3 : fig (tp f) e (ps (nup v2_19 7 1) l) = ((fig (tp f) e (ps (nup v2_19 7 1) l)).1, ps v2_29 l) := pr_of g_30.1
              exact hret (v2_29, l2_32) _ _ _ _ _ (by exact ⟨fac_tst (by omega) (by omega) (by omega) (tsp_of ha1 hb1 ha2 hb2 ha3 g_33), kp_tr (kp_7 (kp_tr (kp_7 g_15.2) g_20.2)) g_30.2⟩) rfl rfl (Nat.le_of_ble_eq_true rfl) (Nat.le_of_ble_eq_true rfl) dX12_factor_194
        · skip
          refine v_iconst (pc := 125) dX12_factor_125 ?_
          refine v_goto (pc := 126) 130 dX12_factor_126 (by decide) ?_
          refine v_put (pc := 130) 7 1 rfl fl_12_51_12 ck_12 ft_12_7 okV_z1 (Nat.le_of_ble_eq_true rfl) (ws2 := [((ad 1), cn 0 936 (wrS f a l)), (h, co 12 (mO ad (nup v2_14 7 1)))]) rfl dX12_factor_130 ?_
          refine v_aload_n (pc := 133) 2 rfl dX12_factor_133 ?_
          refine v_get (pc := 134) (v := ai 1) 7 (Or.inr ⟨1, rfl⟩) fl_12_51_12 rfl dX12_factor_134 ?_
          refine v_if_eq (pc := 137) 144 dX12_factor_137 (by decide) (by unfold iB; omega) (fun c_34 => by exfalso; omega) (fun c_34 => ?_)
          refine v_iconst (pc := 140) dX12_factor_140 ?_
          refine v_goto (pc := 141) 150 dX12_factor_141 (by decide) ?_
          refine v_istore_n (pc := 150) (L2 := [(3, ai 0), (2, ai ((am (tp f) e 7 (ps v l)).1)), (1, ai (hrp (tp f) e (v 5))), (0, ar h)]) rfl (by decide) dX12_factor_150 ?_
          refine v_aload_n (pc := 151) 3 rfl dX12_factor_151 ?_
          refine v_aload_n (pc := 152) 3 rfl dX12_factor_152 ?_
          refine v_get (pc := 153) (v := ai 1) 7 (Or.inr ⟨1, rfl⟩) fl_12_51_12 rfl dX12_factor_153 ?_
          refine v_if_ne (pc := 156) 164 dX12_factor_156 (by decide) (by unfold iB; omega) (fun c_35 => ?_) (fun c_35 => by exfalso; omega)
          refine v_iconst (pc := 164) dX12_factor_164 ?_
          refine v_goto (pc := 165) 169 dX12_factor_165 (by decide) ?_
          refine v_put (pc := 169) 7 1 rfl fl_12_51_12 ck_12 ft_12_7 okV_z1 (Nat.le_of_ble_eq_true rfl) (ws2 := [((ad 1), cn 0 936 (wrS f a l)), (h, co 12 (mO ad (nup (nup v2_14 7 1) 7 1)))]) rfl dX12_factor_169 ?_
          refine v_aload_n (pc := 172) 3 rfl dX12_factor_172 ?_
          refine v_callV (pc := 173) [1] [0] [((ad 1), cn 0 936 (wrS f a l))] (As := []) (rest := []) (c_X12_figures ad (nup (nup v2_14 7 1) 7 1) h f a e l (by first | omega | assumption) (by first | omega | assumption) (by exact hT) (by show (v2_14 4) = a; omega) (by show (v2_14 6) = e; omega) (by exact ⟨by show 0 ≤ (v2_14 5); omega, by show (v2_14 5) ≤ e; omega, by show 1 = 0 ∨ 1 = 1; omega⟩)) (c := 12) rfl (Or.inr ⟨1, rfl⟩) wl_X12_95 wi_X12_figures wv_X12_X12_figures_X12_figures wk_X12_figures wz_X12 md_X12_figures rfl (Nat.le_of_ble_eq_true rfl) ⟨Nat.le_of_ble_eq_true rfl, Nat.le_of_ble_eq_true rfl, Nat.le_of_ble_eq_true rfl, Nat.le_of_ble_eq_true rfl⟩ rfl rfl rfl rfl (by decide) (ro_cons (Or.inr ⟨0, rfl, by decide⟩) ro_nil) dX12_factor_173 (fun u hu => ?_)
          obtain ⟨v2_36, rfl⟩ : ∃ z, z = u := ⟨_, rfl⟩
          have g_37 : (fig (tp f) e (ps (nup (nup v2_14 7 1) 7 1) l)).2 = ps v2_36 l ∧ kp (nup (nup v2_14 7 1) 7 1) v2_36 := hu
          show V x cX12_factor RX12 5 (rmU 14 299 0 0) [((ad 1), cn 0 936 (wrS f a l)), (h, co 12 (mO ad v2_36))] 176 [(3, ai 0), (2, ai ((am (tp f) e 7 (ps v l)).1)), (1, ai (hrp (tp f) e (v 5))), (0, ar h)] [ai ((fig (tp f) e (ps (nup (nup v2_14 7 1) 7 1) l)).1)] 0 0
          have hn_38 : PN e (ps (nup (nup v2_14 7 1) 7 1) l) ((fig (tp f) e (ps (nup (nup v2_14 7 1) 7 1) l)).2) := fig_k (t := tp f) _ ⟨by show 0 ≤ (v2_14 5); omega, by show (v2_14 5) ≤ e; omega, by show 1 = 0 ∨ 1 = 1; omega⟩
          rw [g_37.1] at hn_38
          have hn_38a : (0 ≤ v2_36 5 ∧ v2_36 5 ≤ e ∧ (v2_36 7 = 0 ∨ v2_36 7 = 1)) ∧ (v2_14 5) ≤ v2_36 5 ∧ (v2_14 5) - ((l.length : Nat) : Int) ≤ v2_36 5 - ((l.length : Nat) : Int) := hn_38
          have hn_38k4 : v2_36 4 = a := (g_37.2 4 (by decide) (by decide)).trans (by show (v2_14 4) = a; omega)
          have hn_38k6 : v2_36 6 = e := (g_37.2 6 (by decide) (by decide)).trans (by show (v2_14 6) = e; omega)
          have hn_38k8 : v2_36 8 = (v2_14 8) := (g_37.2 8 (by decide) (by decide)).trans (by show (v2_14 8) = (v2_14 8); omega)
          refine v_istore (pc := 176) (L2 := [(4, ai ((fig (tp f) e (ps (nup (nup v2_14 7 1) 7 1) l)).1)), (3, ai 0), (2, ai ((am (tp f) e 7 (ps v l)).1)), (1, ai (hrp (tp f) e (v 5))), (0, ar h)]) rfl (by decide) dX12_factor_176 ?_
          refine v_aload_n (pc := 178) 4 rfl dX12_factor_178 ?_
          refine v_iload_n (pc := 179) 2 rfl dX12_factor_179 ?_
          refine v_bipush (pc := 180) dX12_factor_180 (by decide) ?_
          refine v_iload_n (pc := 182) 1 rfl dX12_factor_182 ?_
          refine v_imul (pc := 183) dX12_factor_183 ?_
          refine v_iadd (pc := 184) dX12_factor_184 ?_
          refine v_bipush (pc := 185) dX12_factor_185 (by decide) ?_
          refine v_iload (pc := 187) 0 rfl dX12_factor_187 ?_
          refine v_imul (pc := 189) dX12_factor_189 ?_
          refine v_iadd (pc := 190) dX12_factor_190 ?_
          refine v_callV (pc := 191) [0] [1] [(h, co 12 (mO ad v2_36))] (As := [ai (((am (tp f) e 7 (ps v l)).1 + (8 * 0)) + (32 * (fig (tp f) e (ps (nup (nup v2_14 7 1) 7 1) l)).1))]) (rest := []) (c_X12_emits ad v2_36 h f a e l (((am (tp f) e 7 (ps v l)).1 + (8 * 0)) + (32 * (fig (tp f) e (ps (nup (nup v2_14 7 1) 7 1) l)).1)) (by first | omega | assumption) (by first | omega | assumption) (by exact hT) (by show (v2_36 4) = a; omega) (by show (v2_36 6) = e; omega) (by exact ⟨by show 0 ≤ (v2_36 5); omega, by show (v2_36 5) ≤ e; omega, by show (v2_36 7) = 0 ∨ (v2_36 7) = 1; omega⟩) (by show ((l.length : Nat) : Int) ≤ 139; omega)) (c := 12) rfl (Or.inr ⟨1, rfl⟩) wl_X12_81 wi_X12_emits wv_X12_X12_emits_X12_emits wk_X12_emits wz_X12 md_X12_emits rfl (Nat.le_of_ble_eq_true rfl) ⟨Nat.le_of_ble_eq_true rfl, Nat.le_of_ble_eq_true rfl, Nat.le_of_ble_eq_true rfl, Nat.le_of_ble_eq_true rfl⟩ rfl rfl rfl rfl (by decide) (ro_cons (Or.inr ⟨1, rfl, by decide⟩) ro_nil) dX12_factor_191 (fun u hu => ?_)
          obtain ⟨l2_39, rfl⟩ : ∃ z, z = u := ⟨_, rfl⟩
          have g_40 : emi (((am (tp f) e 7 (ps v l)).1 + (8 * 0)) + (32 * (fig (tp f) e (ps (nup (nup v2_14 7 1) 7 1) l)).1)) (ps v2_36 l) = ps v2_36 l2_39 := hu
          show V x cX12_factor RX12 5 (rmU 14 299 0 0) [(h, co 12 (mO ad v2_36)), ((ad 1), cn 0 936 (wrS f a l2_39))] 194 [(4, ai ((fig (tp f) e (ps (nup (nup v2_14 7 1) 7 1) l)).1)), (3, ai 0), (2, ai ((am (tp f) e 7 (ps v l)).1)), (1, ai (hrp (tp f) e (v 5))), (0, ar h)] [] 0 0
          have ha1 : am (tp f) e 7 (ps v l) = ((am (tp f) e 7 (ps v l)).1, ps v2_14 l) := pr_of g_15.1
          have hb1 : (if (am (tp f) e 7 (ps v l)).1 = -1 then bad (ps v2_14 l) else ps v2_14 l) = ps (nup v2_14 7 1) l := by rw [if_pos (by omega)]; rfl
          have ha2 : tsB (tp f) e (ps (nup v2_14 7 1) l) = (0, ps (nup v2_14 7 1) l) := if_neg (by show ¬ (1 : Int) = 0; decide)
          have hb2 : (if 0 = -1 then bad (ps (nup v2_14 7 1) l) else ps (nup v2_14 7 1) l) = ps (nup (nup v2_14 7 1) 7 1) l := by rw [if_neg (by decide)]; rfl
          have ha3 : fig (tp f) e (ps (nup (nup v2_14 7 1) 7 1) l) = ((fig (tp f) e (ps (nup (nup v2_14 7 1) 7 1) l)).1, ps v2_36 l) := pr_of g_37.1
          exact hret (v2_36, l2_39) _ _ _ _ _ (by exact ⟨fac_tst (by omega) (by omega) (by omega) (tsp_of ha1 hb1 ha2 hb2 ha3 g_40), kp_tr (kp_7 (kp_7 g_15.2)) g_37.2⟩) rfl rfl (Nat.le_of_ble_eq_true rfl) (Nat.le_of_ble_eq_true rfl) dX12_factor_194
      · skip
        refine v_aload_n (pc := 25) 1 rfl dX12_factor_25 ?_
        refine v_aload_n (pc := 26) 1 rfl dX12_factor_26 ?_
        refine v_get (pc := 27) (v := ai (v 8)) 8 (Or.inr ⟨0, rfl⟩) fl_12_75_12 rfl dX12_factor_27 ?_
        refine v_iconst (pc := 30) dX12_factor_30 ?_
        refine v_icmp_ne (pc := 31) 38 dX12_factor_31 (by decide) (by unfold iB; omega) (by unfold iB; omega) (fun c_41 => ?_) (fun c_41 => ?_)
        · skip
          refine v_iconst (pc := 38) dX12_factor_38 ?_
          refine v_put (pc := 39) 7 0 rfl fl_12_51_12 ck_12 ft_12_7 okV_z0 (Nat.le_of_ble_eq_true rfl) (ws2 := [(h, co 12 (mO ad (nup v 7 0))), ((ad 1), cn 0 936 (wrS f a l))]) rfl dX12_factor_39 ?_
          refine v_aload_n (pc := 42) 1 rfl dX12_factor_42 ?_
          refine v_dup (pc := 43) rfl dX12_factor_43 ?_
          refine v_get (pc := 44) (v := ai (v 8)) 8 (Or.inr ⟨0, rfl⟩) fl_12_75_12 rfl dX12_factor_44 ?_
          refine v_iconst (pc := 47) dX12_factor_47 ?_
          refine v_iadd (pc := 48) dX12_factor_48 ?_
          refine v_put (pc := 49) 8 0 rfl fl_12_75_12 ck_12 ft_12_8 (okV_i _) (Nat.le_of_ble_eq_true rfl) (ws2 := [(h, co 12 (mO ad (nup (nup v 7 0) 8 ((v 8) + 1)))), ((ad 1), cn 0 936 (wrS f a l))]) rfl dX12_factor_49 ?_
          refine v_aload_n (pc := 52) 1 rfl dX12_factor_52 ?_
          refine v_dup (pc := 53) rfl dX12_factor_53 ?_
          refine v_get (pc := 54) (v := ai (v 5)) 5 (Or.inr ⟨0, rfl⟩) fl_12_45_12 rfl dX12_factor_54 ?_
          refine v_aload_n (pc := 57) 1 rfl dX12_factor_57 ?_
          refine v_get (pc := 58) (v := ai 0) 7 (Or.inr ⟨0, rfl⟩) fl_12_51_12 rfl dX12_factor_58 ?_
          refine v_if_eq (pc := 61) 68 dX12_factor_61 (by decide) (by unfold iB; omega) (fun c_42 => ?_) (fun c_42 => by exfalso; omega)
          refine v_iconst (pc := 68) dX12_factor_68 ?_
          refine v_iadd (pc := 69) dX12_factor_69 ?_
          refine v_put (pc := 70) 5 0 rfl fl_12_45_12 ck_12 ft_12_5 (okV_i _) (Nat.le_of_ble_eq_true rfl) (ws2 := [(h, co 12 (mO ad (nup (nup (nup v 7 0) 8 ((v 8) + 1)) 5 ((v 5) + 1)))), ((ad 1), cn 0 936 (wrS f a l))]) rfl dX12_factor_70 ?_
          refine v_iload_n (pc := 73) 0 rfl dX12_factor_73 ?_
          refine v_bipush (pc := 74) dX12_factor_74 (by decide) ?_
          refine v_icmp_ne (pc := 76) 91 dX12_factor_76 (by decide) (by unfold iB; omega) (by unfold iB; omega) (fun c_43 => ?_) (fun c_43 => ?_)
          · skip
            refine v_aload_n (pc := 91) 1 rfl dX12_factor_91 ?_
            refine v_callV (pc := 92) [0, 1] [] [] (As := []) (rest := []) (c_some_2 ad (nup (nup (nup v 7 0) 8 ((v 8) + 1)) 5 ((v 5) + 1)) h f a e l (by first | omega | assumption) (by first | omega | assumption) (by exact hT) (by show (v 4) = a; omega) (by show (v 6) = e; omega) (by exact ⟨by show 0 ≤ ((v 5) + 1); omega, by show ((v 5) + 1) ≤ e; omega, by show 0 = 0 ∨ 0 = 1; omega⟩) (by show ((l.length : Nat) : Int) ≤ ((v 5) + 1); omega) (by show ((v 8) + 1) = _; omega)) (c := 12) rfl (Or.inr ⟨0, rfl⟩) wl_X12_84 wi_X12_some wv_X12_X12_some_X12_some wk_X12_some wz_X12 md_X12_some rfl (Nat.le_of_ble_eq_true rfl) ⟨Nat.le_of_ble_eq_true rfl, Nat.le_of_ble_eq_true rfl, Nat.le_of_ble_eq_true rfl, Nat.le_of_ble_eq_true rfl⟩ rfl rfl rfl rfl (by decide) ro_nil dX12_factor_92 (fun u hu => ?_)
            obtain ⟨v2_44, l2_45⟩ := u
            have g_46 : soP (tp f) e (fac (tp f) e 2) (ps (nup (nup (nup v 7 0) 8 ((v 8) + 1)) 5 ((v 5) + 1)) l) = ps v2_44 l2_45 ∧ kp (nup (nup (nup v 7 0) 8 ((v 8) + 1)) 5 ((v 5) + 1)) v2_44 := hu
            show V x cX12_factor RX12 5 (rmU 14 299 0 0) [(h, co 12 (mO ad v2_44)), ((ad 1), cn 0 936 (wrS f a l2_45))] 95 [(1, ai (hrp (tp f) e (v 5))), (0, ar h)] [] 0 0
            have hn_47 : PN e (ps (nup (nup (nup v 7 0) 8 ((v 8) + 1)) 5 ((v 5) + 1)) l) (soP (tp f) e (fac (tp f) e 2) (ps (nup (nup (nup v 7 0) 8 ((v 8) + 1)) 5 ((v 5) + 1)) l)) := soP_k (fac_k (t := tp f) 2) _ ⟨by show 0 ≤ ((v 5) + 1); omega, by show ((v 5) + 1) ≤ e; omega, by show 0 = 0 ∨ 0 = 1; omega⟩
            rw [g_46.1] at hn_47
            have hn_47a : (0 ≤ v2_44 5 ∧ v2_44 5 ≤ e ∧ (v2_44 7 = 0 ∨ v2_44 7 = 1)) ∧ ((v 5) + 1) ≤ v2_44 5 ∧ ((v 5) + 1) - ((l.length : Nat) : Int) ≤ v2_44 5 - ((l2_45.length : Nat) : Int) := hn_47
            have hn_47k4 : v2_44 4 = a := (g_46.2 4 (by decide) (by decide)).trans (by show (v 4) = a; omega)
            have hn_47k6 : v2_44 6 = e := (g_46.2 6 (by decide) (by decide)).trans (by show (v 6) = e; omega)
            have hn_47k8 : v2_44 8 = ((v 8) + 1) := (g_46.2 8 (by decide) (by decide)).trans (by show ((v 8) + 1) = ((v 8) + 1); omega)
            refine v_aload_n (pc := 95) 1 rfl dX12_factor_95 ?_
            refine v_bipush (pc := 96) dX12_factor_96 (by decide) ?_
            refine v_callV (pc := 98) [0] [1] [((ad 1), cn 0 936 (wrS f a l2_45))] (As := [ai 41]) (rest := []) (c_X12_must ad v2_44 h f a e l2_45 41 (by first | omega | assumption) (by first | omega | assumption) (by exact hT) (by show (v2_44 4) = a; omega) (by show (v2_44 6) = e; omega) (by exact ⟨by show 0 ≤ (v2_44 5); omega, by show (v2_44 5) ≤ e; omega, by show (v2_44 7) = 0 ∨ (v2_44 7) = 1; omega⟩) (by first | omega | assumption)) (c := 12) rfl (Or.inr ⟨0, rfl⟩) wl_X12_68 wi_X12_must wv_X12_X12_must_X12_must wk_X12_must wz_X12 md_X12_must rfl (Nat.le_of_ble_eq_true rfl) ⟨Nat.le_of_ble_eq_true rfl, Nat.le_of_ble_eq_true rfl, Nat.le_of_ble_eq_true rfl, Nat.le_of_ble_eq_true rfl⟩ rfl rfl rfl rfl (by decide) (ro_cons (Or.inr ⟨1, rfl, by decide⟩) ro_nil) dX12_factor_98 (fun u hu => ?_)
            obtain ⟨v2_48, rfl⟩ : ∃ z, z = u := ⟨_, rfl⟩
            have g_49 : mstP (tp f) e 41 (ps v2_44 l2_45) = ps v2_48 l2_45 ∧ kp v2_44 v2_48 := hu
            show V x cX12_factor RX12 5 (rmU 14 299 0 0) [((ad 1), cn 0 936 (wrS f a l2_45)), (h, co 12 (mO ad v2_48))] 101 [(1, ai (hrp (tp f) e (v 5))), (0, ar h)] [] 0 0
            have hn_50 : PN e (ps v2_44 l2_45) (mstP (tp f) e 41 (ps v2_44 l2_45)) := mstP_k (t := tp f) (by omega) _ ⟨by show 0 ≤ (v2_44 5); omega, by show (v2_44 5) ≤ e; omega, by show (v2_44 7) = 0 ∨ (v2_44 7) = 1; omega⟩
            rw [g_49.1] at hn_50
            have hn_50a : (0 ≤ v2_48 5 ∧ v2_48 5 ≤ e ∧ (v2_48 7 = 0 ∨ v2_48 7 = 1)) ∧ (v2_44 5) ≤ v2_48 5 ∧ (v2_44 5) - ((l2_45.length : Nat) : Int) ≤ v2_48 5 - ((l2_45.length : Nat) : Int) := hn_50
            have hn_50k4 : v2_48 4 = a := (g_49.2 4 (by decide) (by decide)).trans (by show (v2_44 4) = a; omega)
            have hn_50k6 : v2_48 6 = e := (g_49.2 6 (by decide) (by decide)).trans (by show (v2_44 6) = e; omega)
            have hn_50k8 : v2_48 8 = (v2_44 8) := (g_49.2 8 (by decide) (by decide)).trans (by show (v2_44 8) = (v2_44 8); omega)
            refine v_aload_n (pc := 101) 1 rfl dX12_factor_101 ?_
            refine v_dup (pc := 102) rfl dX12_factor_102 ?_
            refine v_get (pc := 103) (v := ai (v2_48 8)) 8 (Or.inr ⟨1, rfl⟩) fl_12_75_12 rfl dX12_factor_103 ?_
            refine v_iconst (pc := 106) dX12_factor_106 ?_
            refine v_isub (pc := 107) dX12_factor_107 ?_
            refine v_put (pc := 108) 8 1 rfl fl_12_75_12 ck_12 ft_12_8 (okV_i _) (Nat.le_of_ble_eq_true rfl) (ws2 := [((ad 1), cn 0 936 (wrS f a l2_45)), (h, co 12 (mO ad (nup v2_48 8 ((v2_48 8) - 1))))]) rfl dX12_factor_108 ?_
            refine v_wsub (ws2 := [(h, co 12 (mO ad (nup v2_48 8 ((v2_48 8) - 1)))), ((ad 1), cn 0 936 (wrS f a l2_45))]) [1, 0] rfl rfl ?_
            exact hret ((nup v2_48 8 ((v2_48 8) - 1)), l2_45) _ _ _ _ _ (by exact ⟨fac_par (by omega) (by omega) g_46.1 g_49.1 rfl rfl, kp_8 (kp_tr g_46.2 g_49.2)⟩) rfl rfl (Nat.le_of_ble_eq_true rfl) (Nat.le_of_ble_eq_true rfl) dX12_factor_111
          · skip
            exfalso; omega
        · skip
          exfalso; omega
  · skip
    exact hret (v, l) _ _ _ _ _ (by exact ⟨fac_w (by omega), kp_rf v⟩) rfl rfl (Nat.le_of_ble_eq_true rfl) (Nat.le_of_ble_eq_true rfl) dX12_factor_7
set_option maxHeartbeats 4000000 in
set_option maxRecDepth 100000 in
theorem c_every_3 {gS : sG} (ad : Nat → Nat) (v : Nat → Int) (h : Nat) (f : Int → Int) (a : Int) (e : Int) (l : List Int) (ha : 0 ≤ a ∧ a ≤ 4) (he : 0 ≤ e ∧ e ≤ 100) (hT : ∀ j : Int, 0 ≤ j → j < e → 0 ≤ f (121 + j) ∧ f (121 + j) ≤ 127) (h4 : v 4 = a) (h6 : v 6 = e) (hB : PB e (ps v l)) (hl : (l.length : Int) ≤ v 5) (h8 : v 8 = 2) : Ct gS (S := (Nat → Int) × List Int) yX12_every cX12_every 1 none 15 323 0 0 [ar h] [(h, co 12 (mO ad v)), ((ad 1), cn 0 936 (wrS f a l))] (fun q => q ∈ ([] : aW)) (fun u => evP (tp f) e (fac (tp f) e 3) (ps v l) = ps u.1 u.2 ∧ kp v u.1) (fun u => none) (fun u => [(h, co 12 (mO ad u.1)), ((ad 1), cn 0 936 (wrS f a u.2))]) := by
  refine ct_V RX12 [(0, ar h)] (by decide) rfl (Nat.le_of_ble_eq_true rfl) rfl (fun x hgS hnm hro hret => ?_)
  subst hgS
  have hB1 : 0 ≤ v 5 := hB.1
  have hB2 : v 5 ≤ e := hB.2.1
  have hB3 : v 7 = 0 ∨ v 7 = 1 := hB.2.2
  show V x cX12_every RX12 1 (rmU 15 323 0 0) [(h, co 12 (mO ad v)), ((ad 1), cn 0 936 (wrS f a l))] 0 [(0, ar h)] [] 0 0
  refine v_aload_n (pc := 0) 0 rfl dX12_every_0 ?_
  refine v_callV (pc := 1) [0, 1] [] [] (As := []) (rest := []) (c_factor_3 ad v h f a e l (by first | omega | assumption) (by first | omega | assumption) (by exact hT) (by show (v 4) = a; omega) (by show (v 6) = e; omega) (by exact ⟨by show 0 ≤ (v 5); omega, by show (v 5) ≤ e; omega, by show (v 7) = 0 ∨ (v 7) = 1; omega⟩) (by show ((l.length : Nat) : Int) ≤ (v 5); omega) (by show (v 8) = _; omega)) (c := 12) rfl (Or.inr ⟨0, rfl⟩) wl_X12_78 wi_X12_factor wv_X12_X12_factor_X12_factor wk_X12_factor wz_X12 md_X12_factor rfl (Nat.le_of_ble_eq_true rfl) ⟨Nat.le_of_ble_eq_true rfl, Nat.le_of_ble_eq_true rfl, Nat.le_of_ble_eq_true rfl, Nat.le_of_ble_eq_true rfl⟩ rfl rfl rfl rfl (by decide) ro_nil dX12_every_1 (fun u hu => ?_)
  obtain ⟨v2_1, l2_2⟩ := u
  have g_3 : fac (tp f) e 3 (ps v l) = ps v2_1 l2_2 ∧ kp v v2_1 := hu
  show V x cX12_every RX12 1 (rmU 15 323 0 0) [(h, co 12 (mO ad v2_1)), ((ad 1), cn 0 936 (wrS f a l2_2))] 4 [(0, ar h)] [] 0 0
  have hn_4 : PN e (ps v l) (fac (tp f) e 3 (ps v l)) := fac_k (t := tp f) 3 _ ⟨by show 0 ≤ (v 5); omega, by show (v 5) ≤ e; omega, by show (v 7) = 0 ∨ (v 7) = 1; omega⟩
  rw [g_3.1] at hn_4
  have hn_4a : (0 ≤ v2_1 5 ∧ v2_1 5 ≤ e ∧ (v2_1 7 = 0 ∨ v2_1 7 = 1)) ∧ (v 5) ≤ v2_1 5 ∧ (v 5) - ((l.length : Nat) : Int) ≤ v2_1 5 - ((l2_2.length : Nat) : Int) := hn_4
  have hn_4k4 : v2_1 4 = a := (g_3.2 4 (by decide) (by decide)).trans (by show (v 4) = a; omega)
  have hn_4k6 : v2_1 6 = e := (g_3.2 6 (by decide) (by decide)).trans (by show (v 6) = e; omega)
  have hn_4k8 : v2_1 8 = (v 8) := (g_3.2 8 (by decide) (by decide)).trans (by show (v 8) = (v 8); omega)
  have lp4 : ∀ (mm : Nat) (v1 : Nat → Int) (l1 : List Int), (e - v1 5).toNat = mm → (lpP (tp f) e 38 (-2) (fac (tp f) e 3) 101 (ps v1 l1) = evP (tp f) e (fac (tp f) e 3) (ps v l)) → (kp v v1) → (0 ≤ v1 5 ∧ v1 5 ≤ e ∧ (v1 7 = 0 ∨ v1 7 = 1) ∧ (l1.length : Int) ≤ v1 5) → V x cX12_every RX12 1 (rmU 15 323 0 0) [(h, co 12 (mO ad v1)), ((ad 1), cn 0 936 (wrS f a l1))] 4 [(0, ar h)] [] 0 0 := by
    intro mm
    induction mm using Nat.strongRecOn with
    | _ mm ih =>
      intro v1 l1 hmm hrr hkp hb1
      have hk4 : v1 4 = a := (hkp 4 (by decide) (by decide)).trans h4
      have hk6 : v1 6 = e := (hkp 6 (by decide) (by decide)).trans h6
      have hk8 : v1 8 = v 8 := hkp 8 (by decide) (by decide)
      refine v_aload_n (pc := 4) 0 rfl dX12_every_4 ?_
      refine v_get (pc := 5) (v := ai (v1 7)) 7 (Or.inr ⟨0, rfl⟩) fl_12_51_12 rfl dX12_every_5 ?_
      refine v_if_ne (pc := 8) 43 dX12_every_8 (by decide) (by unfold iB; omega) (fun c_5 => ?_) (fun c_5 => ?_)
      · skip
        exact hret (v1, l1) _ _ _ _ _ (by exact ⟨by rw [← hrr]; exact lpP_st (by show ¬ (v1 7 = 0 ∧ hrp (tp f) e (v1 5) = 38); omega), hkp⟩) rfl rfl (Nat.le_of_ble_eq_true rfl) (Nat.le_of_ble_eq_true rfl) dX12_every_43
      · skip
        refine v_aload_n (pc := 11) 0 rfl dX12_every_11 ?_
        refine v_callV (pc := 12) [] [0, 1] [(h, co 12 (mO ad v1)), ((ad 1), cn 0 936 (wrS f a l1))] (As := []) (rest := []) (c_X12_here ad v1 h f a e l1 (v1 5) (by first | omega | assumption) (by first | omega | assumption) (by show (v1 6) = e; omega) (by rfl) (by first | omega | assumption)) (c := 12) rfl (Or.inr ⟨0, rfl⟩) wl_X12_55 wi_X12_here wv_X12_X12_here_X12_here wk_X12_here wz_X12 md_X12_here rfl (Nat.le_of_ble_eq_true rfl) ⟨Nat.le_of_ble_eq_true rfl, Nat.le_of_ble_eq_true rfl, Nat.le_of_ble_eq_true rfl, Nat.le_of_ble_eq_true rfl⟩ rfl rfl rfl rfl (by decide) (ro_cons (Or.inr ⟨0, rfl, by decide⟩) (ro_cons (Or.inr ⟨1, rfl, by decide⟩) ro_nil)) dX12_every_12 (fun u hu => ?_)
        show V x cX12_every RX12 1 (rmU 15 323 0 0) [(h, co 12 (mO ad v1)), ((ad 1), cn 0 936 (wrS f a l1))] 15 [(0, ar h)] [ai (hrp (tp f) e (v1 5))] 0 0
        have hb_6 := hrp_b (p := (v1 5)) hT (by omega)
        refine v_bipush (pc := 15) dX12_every_15 (by decide) ?_
        refine v_icmp_ne (pc := 17) 43 dX12_every_17 (by decide) (by unfold iB; omega) (by unfold iB; omega) (fun c_7 => ?_) (fun c_7 => ?_)
        · skip
          exact hret (v1, l1) _ _ _ _ _ (by exact ⟨by rw [← hrr]; exact lpP_st (by show ¬ (v1 7 = 0 ∧ hrp (tp f) e (v1 5) = 38); omega), hkp⟩) rfl rfl (Nat.le_of_ble_eq_true rfl) (Nat.le_of_ble_eq_true rfl) dX12_every_43
        · skip
          refine v_aload_n (pc := 20) 0 rfl dX12_every_20 ?_
          refine v_dup (pc := 21) rfl dX12_every_21 ?_
          refine v_get (pc := 22) (v := ai (v1 5)) 5 (Or.inr ⟨0, rfl⟩) fl_12_45_12 rfl dX12_every_22 ?_
          refine v_iconst (pc := 25) dX12_every_25 ?_
          refine v_iadd (pc := 26) dX12_every_26 ?_
          refine v_put (pc := 27) 5 0 rfl fl_12_45_12 ck_12 ft_12_5 (okV_i _) (Nat.le_of_ble_eq_true rfl) (ws2 := [(h, co 12 (mO ad (nup v1 5 ((v1 5) + 1)))), ((ad 1), cn 0 936 (wrS f a l1))]) rfl dX12_every_27 ?_
          refine v_aload_n (pc := 30) 0 rfl dX12_every_30 ?_
          refine v_callV (pc := 31) [0, 1] [] [] (As := []) (rest := []) (c_factor_3 ad (nup v1 5 ((v1 5) + 1)) h f a e l1 (by first | omega | assumption) (by first | omega | assumption) (by exact hT) (by show (v1 4) = a; omega) (by show (v1 6) = e; omega) (by exact ⟨by show 0 ≤ ((v1 5) + 1); omega, by show ((v1 5) + 1) ≤ e; omega, by show (v1 7) = 0 ∨ (v1 7) = 1; omega⟩) (by show ((l1.length : Nat) : Int) ≤ ((v1 5) + 1); omega) (by show (v1 8) = _; omega)) (c := 12) rfl (Or.inr ⟨0, rfl⟩) wl_X12_78 wi_X12_factor wv_X12_X12_factor_X12_factor wk_X12_factor wz_X12 md_X12_factor rfl (Nat.le_of_ble_eq_true rfl) ⟨Nat.le_of_ble_eq_true rfl, Nat.le_of_ble_eq_true rfl, Nat.le_of_ble_eq_true rfl, Nat.le_of_ble_eq_true rfl⟩ rfl rfl rfl rfl (by decide) ro_nil dX12_every_31 (fun u hu => ?_)
          obtain ⟨v2_8, l2_9⟩ := u
          have g_10 : fac (tp f) e 3 (ps (nup v1 5 ((v1 5) + 1)) l1) = ps v2_8 l2_9 ∧ kp (nup v1 5 ((v1 5) + 1)) v2_8 := hu
          show V x cX12_every RX12 1 (rmU 15 323 0 0) [(h, co 12 (mO ad v2_8)), ((ad 1), cn 0 936 (wrS f a l2_9))] 34 [(0, ar h)] [] 0 0
          have hn_11 : PN e (ps (nup v1 5 ((v1 5) + 1)) l1) (fac (tp f) e 3 (ps (nup v1 5 ((v1 5) + 1)) l1)) := fac_k (t := tp f) 3 _ ⟨by show 0 ≤ ((v1 5) + 1); omega, by show ((v1 5) + 1) ≤ e; omega, by show (v1 7) = 0 ∨ (v1 7) = 1; omega⟩
          rw [g_10.1] at hn_11
          have hn_11a : (0 ≤ v2_8 5 ∧ v2_8 5 ≤ e ∧ (v2_8 7 = 0 ∨ v2_8 7 = 1)) ∧ ((v1 5) + 1) ≤ v2_8 5 ∧ ((v1 5) + 1) - ((l1.length : Nat) : Int) ≤ v2_8 5 - ((l2_9.length : Nat) : Int) := hn_11
          have hn_11k4 : v2_8 4 = a := (g_10.2 4 (by decide) (by decide)).trans (by show (v1 4) = a; omega)
          have hn_11k6 : v2_8 6 = e := (g_10.2 6 (by decide) (by decide)).trans (by show (v1 6) = e; omega)
          have hn_11k8 : v2_8 8 = (v1 8) := (g_10.2 8 (by decide) (by decide)).trans (by show (v1 8) = (v1 8); omega)
          refine v_aload_n (pc := 34) 0 rfl dX12_every_34 ?_
          refine v_bipush (pc := 35) dX12_every_35 (by decide) ?_
          refine v_callV (pc := 37) [1] [0] [(h, co 12 (mO ad v2_8))] (As := [ai (-2)]) (rest := []) (c_X12_emits ad v2_8 h f a e l2_9 (-2) (by first | omega | assumption) (by first | omega | assumption) (by exact hT) (by show (v2_8 4) = a; omega) (by show (v2_8 6) = e; omega) (by exact ⟨by show 0 ≤ (v2_8 5); omega, by show (v2_8 5) ≤ e; omega, by show (v2_8 7) = 0 ∨ (v2_8 7) = 1; omega⟩) (by show ((l2_9.length : Nat) : Int) ≤ 139; omega)) (c := 12) rfl (Or.inr ⟨0, rfl⟩) wl_X12_81 wi_X12_emits wv_X12_X12_emits_X12_emits wk_X12_emits wz_X12 md_X12_emits rfl (Nat.le_of_ble_eq_true rfl) ⟨Nat.le_of_ble_eq_true rfl, Nat.le_of_ble_eq_true rfl, Nat.le_of_ble_eq_true rfl, Nat.le_of_ble_eq_true rfl⟩ rfl rfl rfl rfl (by decide) (ro_cons (Or.inr ⟨0, rfl, by decide⟩) ro_nil) dX12_every_37 (fun u hu => ?_)
          obtain ⟨l2_12, rfl⟩ : ∃ z, z = u := ⟨_, rfl⟩
          have g_13 : emi (-2) (ps v2_8 l2_9) = ps v2_8 l2_12 := hu
          show V x cX12_every RX12 1 (rmU 15 323 0 0) [(h, co 12 (mO ad v2_8)), ((ad 1), cn 0 936 (wrS f a l2_12))] 40 [(0, ar h)] [] 0 0
          refine v_goto (pc := 40) 4 dX12_every_40 (by decide) ?_
          exact ih _ (by omega) v2_8 l2_12 rfl (by rw [← hrr, lpP_go (s := ps v1 l1) (by decide) (fac_k 3) he.2 ⟨hb1.1, hb1.2.1, hb1.2.2.1⟩ (by show v1 7 = 0; omega) (by show hrp (tp f) e (v1 5) = _; omega)]; congr 1; rw [show fac (tp f) e 3 (adv (ps v1 l1)) = _ from g_10.1]; exact g_13.symm) (by exact kp_tr (kp_5 hkp) g_10.2) (by have q := emi_len g_13; omega)
  exact lp4 _ v2_1 l2_2 rfl (by exact congrArg (lpP (tp f) e 38 (-2) (fac (tp f) e 3) 101) g_3.1.symm) (by exact g_3.2) (by omega)
set_option maxHeartbeats 4000000 in
set_option maxRecDepth 100000 in
theorem c_some_3 {gS : sG} (ad : Nat → Nat) (v : Nat → Int) (h : Nat) (f : Int → Int) (a : Int) (e : Int) (l : List Int) (ha : 0 ≤ a ∧ a ≤ 4) (he : 0 ≤ e ∧ e ≤ 100) (hT : ∀ j : Int, 0 ≤ j → j < e → 0 ≤ f (121 + j) ∧ f (121 + j) ≤ 127) (h4 : v 4 = a) (h6 : v 6 = e) (hB : PB e (ps v l)) (hl : (l.length : Int) ≤ v 5) (h8 : v 8 = 2) : Ct gS (S := (Nat → Int) × List Int) yX12_some cX12_some 1 none 16 343 0 0 [ar h] [(h, co 12 (mO ad v)), ((ad 1), cn 0 936 (wrS f a l))] (fun q => q ∈ ([] : aW)) (fun u => soP (tp f) e (fac (tp f) e 3) (ps v l) = ps u.1 u.2 ∧ kp v u.1) (fun u => none) (fun u => [(h, co 12 (mO ad u.1)), ((ad 1), cn 0 936 (wrS f a u.2))]) := by
  refine ct_V RX12 [(0, ar h)] (by decide) rfl (Nat.le_of_ble_eq_true rfl) rfl (fun x hgS hnm hro hret => ?_)
  subst hgS
  have hB1 : 0 ≤ v 5 := hB.1
  have hB2 : v 5 ≤ e := hB.2.1
  have hB3 : v 7 = 0 ∨ v 7 = 1 := hB.2.2
  show V x cX12_some RX12 1 (rmU 16 343 0 0) [(h, co 12 (mO ad v)), ((ad 1), cn 0 936 (wrS f a l))] 0 [(0, ar h)] [] 0 0
  refine v_aload_n (pc := 0) 0 rfl dX12_some_0 ?_
  refine v_callV (pc := 1) [0, 1] [] [] (As := []) (rest := []) (c_every_3 ad v h f a e l (by first | omega | assumption) (by first | omega | assumption) (by exact hT) (by show (v 4) = a; omega) (by show (v 6) = e; omega) (by exact ⟨by show 0 ≤ (v 5); omega, by show (v 5) ≤ e; omega, by show (v 7) = 0 ∨ (v 7) = 1; omega⟩) (by show ((l.length : Nat) : Int) ≤ (v 5); omega) (by show (v 8) = _; omega)) (c := 12) rfl (Or.inr ⟨0, rfl⟩) wl_X12_98 wi_X12_every wv_X12_X12_every_X12_every wk_X12_every wz_X12 md_X12_every rfl (Nat.le_of_ble_eq_true rfl) ⟨Nat.le_of_ble_eq_true rfl, Nat.le_of_ble_eq_true rfl, Nat.le_of_ble_eq_true rfl, Nat.le_of_ble_eq_true rfl⟩ rfl rfl rfl rfl (by decide) ro_nil dX12_some_1 (fun u hu => ?_)
  obtain ⟨v2_1, l2_2⟩ := u
  have g_3 : evP (tp f) e (fac (tp f) e 3) (ps v l) = ps v2_1 l2_2 ∧ kp v v2_1 := hu
  show V x cX12_some RX12 1 (rmU 16 343 0 0) [(h, co 12 (mO ad v2_1)), ((ad 1), cn 0 936 (wrS f a l2_2))] 4 [(0, ar h)] [] 0 0
  have hn_4 : PN e (ps v l) (evP (tp f) e (fac (tp f) e 3) (ps v l)) := evP_k (fac_k (t := tp f) 3) _ ⟨by show 0 ≤ (v 5); omega, by show (v 5) ≤ e; omega, by show (v 7) = 0 ∨ (v 7) = 1; omega⟩
  rw [g_3.1] at hn_4
  have hn_4a : (0 ≤ v2_1 5 ∧ v2_1 5 ≤ e ∧ (v2_1 7 = 0 ∨ v2_1 7 = 1)) ∧ (v 5) ≤ v2_1 5 ∧ (v 5) - ((l.length : Nat) : Int) ≤ v2_1 5 - ((l2_2.length : Nat) : Int) := hn_4
  have hn_4k4 : v2_1 4 = a := (g_3.2 4 (by decide) (by decide)).trans (by show (v 4) = a; omega)
  have hn_4k6 : v2_1 6 = e := (g_3.2 6 (by decide) (by decide)).trans (by show (v 6) = e; omega)
  have hn_4k8 : v2_1 8 = (v 8) := (g_3.2 8 (by decide) (by decide)).trans (by show (v 8) = (v 8); omega)
  have lp4 : ∀ (mm : Nat) (v1 : Nat → Int) (l1 : List Int), (e - v1 5).toNat = mm → (lpP (tp f) e 124 (-3) (evP (tp f) e (fac (tp f) e 3)) 101 (ps v1 l1) = soP (tp f) e (fac (tp f) e 3) (ps v l)) → (kp v v1) → (0 ≤ v1 5 ∧ v1 5 ≤ e ∧ (v1 7 = 0 ∨ v1 7 = 1) ∧ (l1.length : Int) ≤ v1 5) → V x cX12_some RX12 1 (rmU 16 343 0 0) [(h, co 12 (mO ad v1)), ((ad 1), cn 0 936 (wrS f a l1))] 4 [(0, ar h)] [] 0 0 := by
    intro mm
    induction mm using Nat.strongRecOn with
    | _ mm ih =>
      intro v1 l1 hmm hrr hkp hb1
      have hk4 : v1 4 = a := (hkp 4 (by decide) (by decide)).trans h4
      have hk6 : v1 6 = e := (hkp 6 (by decide) (by decide)).trans h6
      have hk8 : v1 8 = v 8 := hkp 8 (by decide) (by decide)
      refine v_aload_n (pc := 4) 0 rfl dX12_some_4 ?_
      refine v_get (pc := 5) (v := ai (v1 7)) 7 (Or.inr ⟨0, rfl⟩) fl_12_51_12 rfl dX12_some_5 ?_
      refine v_if_ne (pc := 8) 43 dX12_some_8 (by decide) (by unfold iB; omega) (fun c_5 => ?_) (fun c_5 => ?_)
      · skip
        exact hret (v1, l1) _ _ _ _ _ (by exact ⟨by rw [← hrr]; exact lpP_st (by show ¬ (v1 7 = 0 ∧ hrp (tp f) e (v1 5) = 124); omega), hkp⟩) rfl rfl (Nat.le_of_ble_eq_true rfl) (Nat.le_of_ble_eq_true rfl) dX12_some_43
      · skip
        refine v_aload_n (pc := 11) 0 rfl dX12_some_11 ?_
        refine v_callV (pc := 12) [] [0, 1] [(h, co 12 (mO ad v1)), ((ad 1), cn 0 936 (wrS f a l1))] (As := []) (rest := []) (c_X12_here ad v1 h f a e l1 (v1 5) (by first | omega | assumption) (by first | omega | assumption) (by show (v1 6) = e; omega) (by rfl) (by first | omega | assumption)) (c := 12) rfl (Or.inr ⟨0, rfl⟩) wl_X12_55 wi_X12_here wv_X12_X12_here_X12_here wk_X12_here wz_X12 md_X12_here rfl (Nat.le_of_ble_eq_true rfl) ⟨Nat.le_of_ble_eq_true rfl, Nat.le_of_ble_eq_true rfl, Nat.le_of_ble_eq_true rfl, Nat.le_of_ble_eq_true rfl⟩ rfl rfl rfl rfl (by decide) (ro_cons (Or.inr ⟨0, rfl, by decide⟩) (ro_cons (Or.inr ⟨1, rfl, by decide⟩) ro_nil)) dX12_some_12 (fun u hu => ?_)
        show V x cX12_some RX12 1 (rmU 16 343 0 0) [(h, co 12 (mO ad v1)), ((ad 1), cn 0 936 (wrS f a l1))] 15 [(0, ar h)] [ai (hrp (tp f) e (v1 5))] 0 0
        have hb_6 := hrp_b (p := (v1 5)) hT (by omega)
        refine v_bipush (pc := 15) dX12_some_15 (by decide) ?_
        refine v_icmp_ne (pc := 17) 43 dX12_some_17 (by decide) (by unfold iB; omega) (by unfold iB; omega) (fun c_7 => ?_) (fun c_7 => ?_)
        · skip
          exact hret (v1, l1) _ _ _ _ _ (by exact ⟨by rw [← hrr]; exact lpP_st (by show ¬ (v1 7 = 0 ∧ hrp (tp f) e (v1 5) = 124); omega), hkp⟩) rfl rfl (Nat.le_of_ble_eq_true rfl) (Nat.le_of_ble_eq_true rfl) dX12_some_43
        · skip
          refine v_aload_n (pc := 20) 0 rfl dX12_some_20 ?_
          refine v_dup (pc := 21) rfl dX12_some_21 ?_
          refine v_get (pc := 22) (v := ai (v1 5)) 5 (Or.inr ⟨0, rfl⟩) fl_12_45_12 rfl dX12_some_22 ?_
          refine v_iconst (pc := 25) dX12_some_25 ?_
          refine v_iadd (pc := 26) dX12_some_26 ?_
          refine v_put (pc := 27) 5 0 rfl fl_12_45_12 ck_12 ft_12_5 (okV_i _) (Nat.le_of_ble_eq_true rfl) (ws2 := [(h, co 12 (mO ad (nup v1 5 ((v1 5) + 1)))), ((ad 1), cn 0 936 (wrS f a l1))]) rfl dX12_some_27 ?_
          refine v_aload_n (pc := 30) 0 rfl dX12_some_30 ?_
          refine v_callV (pc := 31) [0, 1] [] [] (As := []) (rest := []) (c_every_3 ad (nup v1 5 ((v1 5) + 1)) h f a e l1 (by first | omega | assumption) (by first | omega | assumption) (by exact hT) (by show (v1 4) = a; omega) (by show (v1 6) = e; omega) (by exact ⟨by show 0 ≤ ((v1 5) + 1); omega, by show ((v1 5) + 1) ≤ e; omega, by show (v1 7) = 0 ∨ (v1 7) = 1; omega⟩) (by show ((l1.length : Nat) : Int) ≤ ((v1 5) + 1); omega) (by show (v1 8) = _; omega)) (c := 12) rfl (Or.inr ⟨0, rfl⟩) wl_X12_98 wi_X12_every wv_X12_X12_every_X12_every wk_X12_every wz_X12 md_X12_every rfl (Nat.le_of_ble_eq_true rfl) ⟨Nat.le_of_ble_eq_true rfl, Nat.le_of_ble_eq_true rfl, Nat.le_of_ble_eq_true rfl, Nat.le_of_ble_eq_true rfl⟩ rfl rfl rfl rfl (by decide) ro_nil dX12_some_31 (fun u hu => ?_)
          obtain ⟨v2_8, l2_9⟩ := u
          have g_10 : evP (tp f) e (fac (tp f) e 3) (ps (nup v1 5 ((v1 5) + 1)) l1) = ps v2_8 l2_9 ∧ kp (nup v1 5 ((v1 5) + 1)) v2_8 := hu
          show V x cX12_some RX12 1 (rmU 16 343 0 0) [(h, co 12 (mO ad v2_8)), ((ad 1), cn 0 936 (wrS f a l2_9))] 34 [(0, ar h)] [] 0 0
          have hn_11 : PN e (ps (nup v1 5 ((v1 5) + 1)) l1) (evP (tp f) e (fac (tp f) e 3) (ps (nup v1 5 ((v1 5) + 1)) l1)) := evP_k (fac_k (t := tp f) 3) _ ⟨by show 0 ≤ ((v1 5) + 1); omega, by show ((v1 5) + 1) ≤ e; omega, by show (v1 7) = 0 ∨ (v1 7) = 1; omega⟩
          rw [g_10.1] at hn_11
          have hn_11a : (0 ≤ v2_8 5 ∧ v2_8 5 ≤ e ∧ (v2_8 7 = 0 ∨ v2_8 7 = 1)) ∧ ((v1 5) + 1) ≤ v2_8 5 ∧ ((v1 5) + 1) - ((l1.length : Nat) : Int) ≤ v2_8 5 - ((l2_9.length : Nat) : Int) := hn_11
          have hn_11k4 : v2_8 4 = a := (g_10.2 4 (by decide) (by decide)).trans (by show (v1 4) = a; omega)
          have hn_11k6 : v2_8 6 = e := (g_10.2 6 (by decide) (by decide)).trans (by show (v1 6) = e; omega)
          have hn_11k8 : v2_8 8 = (v1 8) := (g_10.2 8 (by decide) (by decide)).trans (by show (v1 8) = (v1 8); omega)
          refine v_aload_n (pc := 34) 0 rfl dX12_some_34 ?_
          refine v_bipush (pc := 35) dX12_some_35 (by decide) ?_
          refine v_callV (pc := 37) [1] [0] [(h, co 12 (mO ad v2_8))] (As := [ai (-3)]) (rest := []) (c_X12_emits ad v2_8 h f a e l2_9 (-3) (by first | omega | assumption) (by first | omega | assumption) (by exact hT) (by show (v2_8 4) = a; omega) (by show (v2_8 6) = e; omega) (by exact ⟨by show 0 ≤ (v2_8 5); omega, by show (v2_8 5) ≤ e; omega, by show (v2_8 7) = 0 ∨ (v2_8 7) = 1; omega⟩) (by show ((l2_9.length : Nat) : Int) ≤ 139; omega)) (c := 12) rfl (Or.inr ⟨0, rfl⟩) wl_X12_81 wi_X12_emits wv_X12_X12_emits_X12_emits wk_X12_emits wz_X12 md_X12_emits rfl (Nat.le_of_ble_eq_true rfl) ⟨Nat.le_of_ble_eq_true rfl, Nat.le_of_ble_eq_true rfl, Nat.le_of_ble_eq_true rfl, Nat.le_of_ble_eq_true rfl⟩ rfl rfl rfl rfl (by decide) (ro_cons (Or.inr ⟨0, rfl, by decide⟩) ro_nil) dX12_some_37 (fun u hu => ?_)
          obtain ⟨l2_12, rfl⟩ : ∃ z, z = u := ⟨_, rfl⟩
          have g_13 : emi (-3) (ps v2_8 l2_9) = ps v2_8 l2_12 := hu
          show V x cX12_some RX12 1 (rmU 16 343 0 0) [(h, co 12 (mO ad v2_8)), ((ad 1), cn 0 936 (wrS f a l2_12))] 40 [(0, ar h)] [] 0 0
          refine v_goto (pc := 40) 4 dX12_some_40 (by decide) ?_
          exact ih _ (by omega) v2_8 l2_12 rfl (by rw [← hrr, lpP_go (s := ps v1 l1) (by decide) (evP_k (fac_k 3)) he.2 ⟨hb1.1, hb1.2.1, hb1.2.2.1⟩ (by show v1 7 = 0; omega) (by show hrp (tp f) e (v1 5) = _; omega)]; congr 1; rw [show evP (tp f) e (fac (tp f) e 3) (adv (ps v1 l1)) = _ from g_10.1]; exact g_13.symm) (by exact kp_tr (kp_5 hkp) g_10.2) (by have q := emi_len g_13; omega)
  exact lp4 _ v2_1 l2_2 rfl (by exact congrArg (lpP (tp f) e 124 (-3) (evP (tp f) e (fac (tp f) e 3)) 101) g_3.1.symm) (by exact g_3.2) (by omega)
set_option maxHeartbeats 4000000 in
set_option maxRecDepth 100000 in
theorem c_factor_4 {gS : sG} (ad : Nat → Nat) (v : Nat → Int) (h : Nat) (f : Int → Int) (a : Int) (e : Int) (l : List Int) (ha : 0 ≤ a ∧ a ≤ 4) (he : 0 ≤ e ∧ e ≤ 100) (hT : ∀ j : Int, 0 ≤ j → j < e → 0 ≤ f (121 + j) ∧ f (121 + j) ≤ 127) (h4 : v 4 = a) (h6 : v 6 = e) (hB : PB e (ps v l)) (hl : (l.length : Int) ≤ v 5) (h8 : v 8 = 1) : Ct gS (S := (Nat → Int) × List Int) yX12_factor cX12_factor 5 none 17 363 0 0 [ar h] [(h, co 12 (mO ad v)), ((ad 1), cn 0 936 (wrS f a l))] (fun q => q ∈ ([] : aW)) (fun u => fac (tp f) e 4 (ps v l) = ps u.1 u.2 ∧ kp v u.1) (fun u => none) (fun u => [(h, co 12 (mO ad u.1)), ((ad 1), cn 0 936 (wrS f a u.2))]) := by
  refine ct_V RX12 [(0, ar h)] (by decide) rfl (Nat.le_of_ble_eq_true rfl) rfl (fun x hgS hnm hro hret => ?_)
  subst hgS
  have hB1 : 0 ≤ v 5 := hB.1
  have hB2 : v 5 ≤ e := hB.2.1
  have hB3 : v 7 = 0 ∨ v 7 = 1 := hB.2.2
  show V x cX12_factor RX12 5 (rmU 17 363 0 0) [(h, co 12 (mO ad v)), ((ad 1), cn 0 936 (wrS f a l))] 0 [(0, ar h)] [] 0 0
  refine v_aload_n (pc := 0) 0 rfl dX12_factor_0 ?_
  refine v_get (pc := 1) (v := ai (v 7)) 7 (Or.inr ⟨0, rfl⟩) fl_12_51_12 rfl dX12_factor_1 ?_
  refine v_if_eq (pc := 4) 8 dX12_factor_4 (by decide) (by unfold iB; omega) (fun c_1 => ?_) (fun c_1 => ?_)
  · skip
    refine v_aload_n (pc := 8) 0 rfl dX12_factor_8 ?_
    refine v_callV (pc := 9) [] [0, 1] [(h, co 12 (mO ad v)), ((ad 1), cn 0 936 (wrS f a l))] (As := []) (rest := []) (c_X12_here ad v h f a e l (v 5) (by first | omega | assumption) (by first | omega | assumption) (by show (v 6) = e; omega) (by rfl) (by first | omega | assumption)) (c := 12) rfl (Or.inr ⟨0, rfl⟩) wl_X12_55 wi_X12_here wv_X12_X12_here_X12_here wk_X12_here wz_X12 md_X12_here rfl (Nat.le_of_ble_eq_true rfl) ⟨Nat.le_of_ble_eq_true rfl, Nat.le_of_ble_eq_true rfl, Nat.le_of_ble_eq_true rfl, Nat.le_of_ble_eq_true rfl⟩ rfl rfl rfl rfl (by decide) (ro_cons (Or.inr ⟨0, rfl, by decide⟩) (ro_cons (Or.inr ⟨1, rfl, by decide⟩) ro_nil)) dX12_factor_9 (fun u hu => ?_)
    show V x cX12_factor RX12 5 (rmU 17 363 0 0) [(h, co 12 (mO ad v)), ((ad 1), cn 0 936 (wrS f a l))] 12 [(0, ar h)] [ai (hrp (tp f) e (v 5))] 0 0
    have hb_2 := hrp_b (p := (v 5)) hT (by omega)
    refine v_istore_n (pc := 12) (L2 := [(1, ai (hrp (tp f) e (v 5))), (0, ar h)]) rfl (by decide) dX12_factor_12 ?_
    refine v_iload_n (pc := 13) 0 rfl dX12_factor_13 ?_
    refine v_bipush (pc := 14) dX12_factor_14 (by decide) ?_
    refine v_icmp_eq (pc := 16) 25 dX12_factor_16 (by decide) (by unfold iB; omega) (by unfold iB; omega) (fun c_3 => ?_) (fun c_3 => ?_)
    · skip
      refine v_aload_n (pc := 25) 1 rfl dX12_factor_25 ?_
      refine v_aload_n (pc := 26) 1 rfl dX12_factor_26 ?_
      refine v_get (pc := 27) (v := ai (v 8)) 8 (Or.inr ⟨0, rfl⟩) fl_12_75_12 rfl dX12_factor_27 ?_
      refine v_iconst (pc := 30) dX12_factor_30 ?_
      refine v_icmp_ne (pc := 31) 38 dX12_factor_31 (by decide) (by unfold iB; omega) (by unfold iB; omega) (fun c_4 => ?_) (fun c_4 => ?_)
      · skip
        refine v_iconst (pc := 38) dX12_factor_38 ?_
        refine v_put (pc := 39) 7 0 rfl fl_12_51_12 ck_12 ft_12_7 okV_z0 (Nat.le_of_ble_eq_true rfl) (ws2 := [(h, co 12 (mO ad (nup v 7 0))), ((ad 1), cn 0 936 (wrS f a l))]) rfl dX12_factor_39 ?_
        refine v_aload_n (pc := 42) 1 rfl dX12_factor_42 ?_
        refine v_dup (pc := 43) rfl dX12_factor_43 ?_
        refine v_get (pc := 44) (v := ai (v 8)) 8 (Or.inr ⟨0, rfl⟩) fl_12_75_12 rfl dX12_factor_44 ?_
        refine v_iconst (pc := 47) dX12_factor_47 ?_
        refine v_iadd (pc := 48) dX12_factor_48 ?_
        refine v_put (pc := 49) 8 0 rfl fl_12_75_12 ck_12 ft_12_8 (okV_i _) (Nat.le_of_ble_eq_true rfl) (ws2 := [(h, co 12 (mO ad (nup (nup v 7 0) 8 ((v 8) + 1)))), ((ad 1), cn 0 936 (wrS f a l))]) rfl dX12_factor_49 ?_
        refine v_aload_n (pc := 52) 1 rfl dX12_factor_52 ?_
        refine v_dup (pc := 53) rfl dX12_factor_53 ?_
        refine v_get (pc := 54) (v := ai (v 5)) 5 (Or.inr ⟨0, rfl⟩) fl_12_45_12 rfl dX12_factor_54 ?_
        refine v_aload_n (pc := 57) 1 rfl dX12_factor_57 ?_
        refine v_get (pc := 58) (v := ai 0) 7 (Or.inr ⟨0, rfl⟩) fl_12_51_12 rfl dX12_factor_58 ?_
        refine v_if_eq (pc := 61) 68 dX12_factor_61 (by decide) (by unfold iB; omega) (fun c_5 => ?_) (fun c_5 => by exfalso; omega)
        refine v_iconst (pc := 68) dX12_factor_68 ?_
        refine v_iadd (pc := 69) dX12_factor_69 ?_
        refine v_put (pc := 70) 5 0 rfl fl_12_45_12 ck_12 ft_12_5 (okV_i _) (Nat.le_of_ble_eq_true rfl) (ws2 := [(h, co 12 (mO ad (nup (nup (nup v 7 0) 8 ((v 8) + 1)) 5 ((v 5) + 1)))), ((ad 1), cn 0 936 (wrS f a l))]) rfl dX12_factor_70 ?_
        refine v_iload_n (pc := 73) 0 rfl dX12_factor_73 ?_
        refine v_bipush (pc := 74) dX12_factor_74 (by decide) ?_
        refine v_icmp_ne (pc := 76) 91 dX12_factor_76 (by decide) (by unfold iB; omega) (by unfold iB; omega) (fun c_6 => ?_) (fun c_6 => ?_)
        · skip
          exfalso; omega
        · skip
          refine v_aload_n (pc := 79) 1 rfl dX12_factor_79 ?_
          refine v_callV (pc := 80) [0, 1] [] [] (As := []) (rest := []) (c_factor_3 ad (nup (nup (nup v 7 0) 8 ((v 8) + 1)) 5 ((v 5) + 1)) h f a e l (by first | omega | assumption) (by first | omega | assumption) (by exact hT) (by show (v 4) = a; omega) (by show (v 6) = e; omega) (by exact ⟨by show 0 ≤ ((v 5) + 1); omega, by show ((v 5) + 1) ≤ e; omega, by show 0 = 0 ∨ 0 = 1; omega⟩) (by show ((l.length : Nat) : Int) ≤ ((v 5) + 1); omega) (by show ((v 8) + 1) = _; omega)) (c := 12) rfl (Or.inr ⟨0, rfl⟩) wl_X12_78 wi_X12_factor wv_X12_X12_factor_X12_factor wk_X12_factor wz_X12 md_X12_factor rfl (Nat.le_of_ble_eq_true rfl) ⟨Nat.le_of_ble_eq_true rfl, Nat.le_of_ble_eq_true rfl, Nat.le_of_ble_eq_true rfl, Nat.le_of_ble_eq_true rfl⟩ rfl rfl rfl rfl (by decide) ro_nil dX12_factor_80 (fun u hu => ?_)
          obtain ⟨v2_7, l2_8⟩ := u
          have g_9 : fac (tp f) e 3 (ps (nup (nup (nup v 7 0) 8 ((v 8) + 1)) 5 ((v 5) + 1)) l) = ps v2_7 l2_8 ∧ kp (nup (nup (nup v 7 0) 8 ((v 8) + 1)) 5 ((v 5) + 1)) v2_7 := hu
          show V x cX12_factor RX12 5 (rmU 17 363 0 0) [(h, co 12 (mO ad v2_7)), ((ad 1), cn 0 936 (wrS f a l2_8))] 83 [(1, ai (hrp (tp f) e (v 5))), (0, ar h)] [] 0 0
          have hn_10 : PN e (ps (nup (nup (nup v 7 0) 8 ((v 8) + 1)) 5 ((v 5) + 1)) l) (fac (tp f) e 3 (ps (nup (nup (nup v 7 0) 8 ((v 8) + 1)) 5 ((v 5) + 1)) l)) := fac_k (t := tp f) 3 _ ⟨by show 0 ≤ ((v 5) + 1); omega, by show ((v 5) + 1) ≤ e; omega, by show 0 = 0 ∨ 0 = 1; omega⟩
          rw [g_9.1] at hn_10
          have hn_10a : (0 ≤ v2_7 5 ∧ v2_7 5 ≤ e ∧ (v2_7 7 = 0 ∨ v2_7 7 = 1)) ∧ ((v 5) + 1) ≤ v2_7 5 ∧ ((v 5) + 1) - ((l.length : Nat) : Int) ≤ v2_7 5 - ((l2_8.length : Nat) : Int) := hn_10
          have hn_10k4 : v2_7 4 = a := (g_9.2 4 (by decide) (by decide)).trans (by show (v 4) = a; omega)
          have hn_10k6 : v2_7 6 = e := (g_9.2 6 (by decide) (by decide)).trans (by show (v 6) = e; omega)
          have hn_10k8 : v2_7 8 = ((v 8) + 1) := (g_9.2 8 (by decide) (by decide)).trans (by show ((v 8) + 1) = ((v 8) + 1); omega)
          refine v_aload_n (pc := 83) 1 rfl dX12_factor_83 ?_
          refine v_iconst (pc := 84) dX12_factor_84 ?_
          refine v_callV (pc := 85) [1] [0] [(h, co 12 (mO ad v2_7))] (As := [ai (-1)]) (rest := []) (c_X12_emits ad v2_7 h f a e l2_8 (-1) (by first | omega | assumption) (by first | omega | assumption) (by exact hT) (by show (v2_7 4) = a; omega) (by show (v2_7 6) = e; omega) (by exact ⟨by show 0 ≤ (v2_7 5); omega, by show (v2_7 5) ≤ e; omega, by show (v2_7 7) = 0 ∨ (v2_7 7) = 1; omega⟩) (by show ((l2_8.length : Nat) : Int) ≤ 139; omega)) (c := 12) rfl (Or.inr ⟨0, rfl⟩) wl_X12_81 wi_X12_emits wv_X12_X12_emits_X12_emits wk_X12_emits wz_X12 md_X12_emits rfl (Nat.le_of_ble_eq_true rfl) ⟨Nat.le_of_ble_eq_true rfl, Nat.le_of_ble_eq_true rfl, Nat.le_of_ble_eq_true rfl, Nat.le_of_ble_eq_true rfl⟩ rfl rfl rfl rfl (by decide) (ro_cons (Or.inr ⟨0, rfl, by decide⟩) ro_nil) dX12_factor_85 (fun u hu => ?_)
          obtain ⟨l2_11, rfl⟩ : ∃ z, z = u := ⟨_, rfl⟩
          have g_12 : emi (-1) (ps v2_7 l2_8) = ps v2_7 l2_11 := hu
          show V x cX12_factor RX12 5 (rmU 17 363 0 0) [(h, co 12 (mO ad v2_7)), ((ad 1), cn 0 936 (wrS f a l2_11))] 88 [(1, ai (hrp (tp f) e (v 5))), (0, ar h)] [] 0 0
          refine v_goto (pc := 88) 101 dX12_factor_88 (by decide) ?_
          refine v_aload_n (pc := 101) 1 rfl dX12_factor_101 ?_
          refine v_dup (pc := 102) rfl dX12_factor_102 ?_
          refine v_get (pc := 103) (v := ai (v2_7 8)) 8 (Or.inr ⟨0, rfl⟩) fl_12_75_12 rfl dX12_factor_103 ?_
          refine v_iconst (pc := 106) dX12_factor_106 ?_
          refine v_isub (pc := 107) dX12_factor_107 ?_
          refine v_put (pc := 108) 8 0 rfl fl_12_75_12 ck_12 ft_12_8 (okV_i _) (Nat.le_of_ble_eq_true rfl) (ws2 := [(h, co 12 (mO ad (nup v2_7 8 ((v2_7 8) - 1)))), ((ad 1), cn 0 936 (wrS f a l2_11))]) rfl dX12_factor_108 ?_
          exact hret ((nup v2_7 8 ((v2_7 8) - 1)), l2_11) _ _ _ _ _ (by exact ⟨fac_not (by omega) (by omega) g_9.1 g_12 rfl rfl, kp_8 g_9.2⟩) rfl rfl (Nat.le_of_ble_eq_true rfl) (Nat.le_of_ble_eq_true rfl) dX12_factor_111
      · skip
        exfalso; omega
    · skip
      refine v_iload_n (pc := 19) 0 rfl dX12_factor_19 ?_
      refine v_bipush (pc := 20) dX12_factor_20 (by decide) ?_
      refine v_icmp_ne (pc := 22) 112 dX12_factor_22 (by decide) (by unfold iB; omega) (by unfold iB; omega) (fun c_13 => ?_) (fun c_13 => ?_)
      · skip
        refine v_aload_n (pc := 112) 1 rfl dX12_factor_112 ?_
        refine v_ldcS (pc := 113) (q := ("MatFlipModel", 87, "pkngsy", 7)) (List.mem_of_getElem? (i := 12) rfl) rfl dX12_factor_113 ?_
        refine v_callV (pc := 115) [0] [1] [((ad 1), cn 0 936 (wrS f a l))] (As := [ar (lK (xg x) 7)]) (rest := []) (c_X12_among ad v h f a e l 7 (by first | omega | assumption) (by first | omega | assumption) (by exact hT) (by show (v 4) = a; omega) (by show (v 6) = e; omega) (by exact ⟨by show 0 ≤ (v 5); omega, by show (v 5) ≤ e; omega, by show (v 7) = 0 ∨ (v 7) = 1; omega⟩) (by first | omega | assumption)) (c := 12) rfl (Or.inr ⟨0, rfl⟩) wl_X12_89 wi_X12_among wv_X12_X12_among_X12_among wk_X12_among wz_X12 md_X12_among rfl (Nat.le_of_ble_eq_true rfl) ⟨Nat.le_of_ble_eq_true rfl, Nat.le_of_ble_eq_true rfl, Nat.le_of_ble_eq_true rfl, Nat.le_of_ble_eq_true rfl⟩ rfl rfl rfl rfl (by decide) (ro_cons (Or.inr ⟨1, rfl, by decide⟩) ro_nil) dX12_factor_115 (fun u hu => ?_)
        obtain ⟨v2_14, rfl⟩ : ∃ z, z = u := ⟨_, rfl⟩
        have g_15 : (am (tp f) e 7 (ps v l)).2 = ps v2_14 l ∧ kp v v2_14 := hu
        show V x cX12_factor RX12 5 (rmU 17 363 0 0) [((ad 1), cn 0 936 (wrS f a l)), (h, co 12 (mO ad v2_14))] 118 [(1, ai (hrp (tp f) e (v 5))), (0, ar h)] [ai ((am (tp f) e 7 (ps v l)).1)] 0 0
        obtain ⟨hb7a, hb7b, -, -⟩ := am_b (t := tp f) (e := e) (i := 7) (s := ps v l) (by decide)
        have hl7 := len_b (i := 7) (by decide)
        have h77 : v2_14 7 = v 7 := by have q := am_7 (t := tp f) (e := e) (i := 7) (s := ps v l); rw [g_15.1] at q; exact congrArg Prod.fst q
        have hn_16 : PN e (ps v l) ((am (tp f) e 7 (ps v l)).2) := am_k (t := tp f) (by omega) _ ⟨by show 0 ≤ (v 5); omega, by show (v 5) ≤ e; omega, by show (v 7) = 0 ∨ (v 7) = 1; omega⟩
        rw [g_15.1] at hn_16
        have hn_16a : (0 ≤ v2_14 5 ∧ v2_14 5 ≤ e ∧ (v2_14 7 = 0 ∨ v2_14 7 = 1)) ∧ (v 5) ≤ v2_14 5 ∧ (v 5) - ((l.length : Nat) : Int) ≤ v2_14 5 - ((l.length : Nat) : Int) := hn_16
        have hn_16k4 : v2_14 4 = a := (g_15.2 4 (by decide) (by decide)).trans (by show (v 4) = a; omega)
        have hn_16k6 : v2_14 6 = e := (g_15.2 6 (by decide) (by decide)).trans (by show (v 6) = e; omega)
        have hn_16k8 : v2_14 8 = (v 8) := (g_15.2 8 (by decide) (by decide)).trans (by show (v 8) = (v 8); omega)
        refine v_istore_n (pc := 118) (L2 := [(2, ai ((am (tp f) e 7 (ps v l)).1)), (1, ai (hrp (tp f) e (v 5))), (0, ar h)]) rfl (by decide) dX12_factor_118 ?_
        refine v_aload_n (pc := 119) 2 rfl dX12_factor_119 ?_
        refine v_iload_n (pc := 120) 0 rfl dX12_factor_120 ?_
        refine v_iconst (pc := 121) dX12_factor_121 ?_
        refine v_icmp_ne (pc := 122) 129 dX12_factor_122 (by decide) (by unfold iB; omega) (by unfold iB; omega) (fun c_17 => ?_) (fun c_17 => ?_)
        · skip
          refine v_iconst (pc := 129) dX12_factor_129 ?_
          refine v_put (pc := 130) 7 1 rfl fl_12_51_12 ck_12 ft_12_7 okV_z0 (Nat.le_of_ble_eq_true rfl) (ws2 := [((ad 1), cn 0 936 (wrS f a l)), (h, co 12 (mO ad (nup v2_14 7 0)))]) rfl dX12_factor_130 ?_
          refine v_aload_n (pc := 133) 2 rfl dX12_factor_133 ?_
          refine v_get (pc := 134) (v := ai 0) 7 (Or.inr ⟨1, rfl⟩) fl_12_51_12 rfl dX12_factor_134 ?_
          refine v_if_eq (pc := 137) 144 dX12_factor_137 (by decide) (by unfold iB; omega) (fun c_18 => ?_) (fun c_18 => by exfalso; omega)
          refine v_aload_n (pc := 144) 2 rfl dX12_factor_144 ?_
          refine v_ldcS (pc := 145) (q := ("MatFlipModel", 93, "<=>", 8)) (List.mem_of_getElem? (i := 13) rfl) rfl dX12_factor_145 ?_
          refine v_callV (pc := 147) [1] [0] [((ad 1), cn 0 936 (wrS f a l))] (As := [ar (lK (xg x) 8)]) (rest := []) (c_X12_among ad (nup v2_14 7 0) h f a e l 8 (by first | omega | assumption) (by first | omega | assumption) (by exact hT) (by show (v2_14 4) = a; omega) (by show (v2_14 6) = e; omega) (by exact ⟨by show 0 ≤ (v2_14 5); omega, by show (v2_14 5) ≤ e; omega, by show 0 = 0 ∨ 0 = 1; omega⟩) (by first | omega | assumption)) (c := 12) rfl (Or.inr ⟨1, rfl⟩) wl_X12_89 wi_X12_among wv_X12_X12_among_X12_among wk_X12_among wz_X12 md_X12_among rfl (Nat.le_of_ble_eq_true rfl) ⟨Nat.le_of_ble_eq_true rfl, Nat.le_of_ble_eq_true rfl, Nat.le_of_ble_eq_true rfl, Nat.le_of_ble_eq_true rfl⟩ rfl rfl rfl rfl (by decide) (ro_cons (Or.inr ⟨0, rfl, by decide⟩) ro_nil) dX12_factor_147 (fun u hu => ?_)
          obtain ⟨v2_19, rfl⟩ : ∃ z, z = u := ⟨_, rfl⟩
          have g_20 : (am (tp f) e 8 (ps (nup v2_14 7 0) l)).2 = ps v2_19 l ∧ kp (nup v2_14 7 0) v2_19 := hu
          show V x cX12_factor RX12 5 (rmU 17 363 0 0) [((ad 1), cn 0 936 (wrS f a l)), (h, co 12 (mO ad v2_19))] 150 [(2, ai ((am (tp f) e 7 (ps v l)).1)), (1, ai (hrp (tp f) e (v 5))), (0, ar h)] [ai ((am (tp f) e 8 (ps (nup v2_14 7 0) l)).1)] 0 0
          obtain ⟨hb8a, hb8b, -, -⟩ := am_b (t := tp f) (e := e) (i := 8) (s := (ps (nup v2_14 7 0) l)) (by decide)
          have hl8 := len_b (i := 8) (by decide)
          have h87 : v2_19 7 = 0 := by have q := am_7 (t := tp f) (e := e) (i := 8) (s := (ps (nup v2_14 7 0) l)); rw [g_20.1] at q; exact congrArg Prod.fst q
          have hn_21 : PN e (ps (nup v2_14 7 0) l) ((am (tp f) e 8 (ps (nup v2_14 7 0) l)).2) := am_k (t := tp f) (by omega) _ ⟨by show 0 ≤ (v2_14 5); omega, by show (v2_14 5) ≤ e; omega, by show 0 = 0 ∨ 0 = 1; omega⟩
          rw [g_20.1] at hn_21
          have hn_21a : (0 ≤ v2_19 5 ∧ v2_19 5 ≤ e ∧ (v2_19 7 = 0 ∨ v2_19 7 = 1)) ∧ (v2_14 5) ≤ v2_19 5 ∧ (v2_14 5) - ((l.length : Nat) : Int) ≤ v2_19 5 - ((l.length : Nat) : Int) := hn_21
          have hn_21k4 : v2_19 4 = a := (g_20.2 4 (by decide) (by decide)).trans (by show (v2_14 4) = a; omega)
          have hn_21k6 : v2_19 6 = e := (g_20.2 6 (by decide) (by decide)).trans (by show (v2_14 6) = e; omega)
          have hn_21k8 : v2_19 8 = (v2_14 8) := (g_20.2 8 (by decide) (by decide)).trans (by show (v2_14 8) = (v2_14 8); omega)
          refine v_istore_n (pc := 150) (L2 := [(3, ai ((am (tp f) e 8 (ps (nup v2_14 7 0) l)).1)), (2, ai ((am (tp f) e 7 (ps v l)).1)), (1, ai (hrp (tp f) e (v 5))), (0, ar h)]) rfl (by decide) dX12_factor_150 ?_
          refine v_aload_n (pc := 151) 3 rfl dX12_factor_151 ?_
          refine v_aload_n (pc := 152) 3 rfl dX12_factor_152 ?_
          refine v_get (pc := 153) (v := ai (v2_19 7)) 7 (Or.inr ⟨1, rfl⟩) fl_12_51_12 rfl dX12_factor_153 ?_
          refine v_if_ne (pc := 156) 164 dX12_factor_156 (by decide) (by unfold iB; omega) (fun c_22 => ?_) (fun c_22 => ?_)
          · skip
            exfalso; omega
          · skip
            refine v_iload_n (pc := 159) 0 rfl dX12_factor_159 ?_
            refine v_iconst (pc := 160) dX12_factor_160 ?_
            refine v_icmp_ne (pc := 161) 168 dX12_factor_161 (by decide) (by unfold iB; omega) (by unfold iB; omega) (fun c_23 => ?_) (fun c_23 => ?_)
            · skip
              refine v_iconst (pc := 168) dX12_factor_168 ?_
              refine v_put (pc := 169) 7 1 rfl fl_12_51_12 ck_12 ft_12_7 okV_z0 (Nat.le_of_ble_eq_true rfl) (ws2 := [((ad 1), cn 0 936 (wrS f a l)), (h, co 12 (mO ad (nup v2_19 7 0)))]) rfl dX12_factor_169 ?_
              refine v_aload_n (pc := 172) 3 rfl dX12_factor_172 ?_
              refine v_callV (pc := 173) [1] [0] [((ad 1), cn 0 936 (wrS f a l))] (As := []) (rest := []) (c_X12_figures ad (nup v2_19 7 0) h f a e l (by first | omega | assumption) (by first | omega | assumption) (by exact hT) (by show (v2_19 4) = a; omega) (by show (v2_19 6) = e; omega) (by exact ⟨by show 0 ≤ (v2_19 5); omega, by show (v2_19 5) ≤ e; omega, by show 0 = 0 ∨ 0 = 1; omega⟩)) (c := 12) rfl (Or.inr ⟨1, rfl⟩) wl_X12_95 wi_X12_figures wv_X12_X12_figures_X12_figures wk_X12_figures wz_X12 md_X12_figures rfl (Nat.le_of_ble_eq_true rfl) ⟨Nat.le_of_ble_eq_true rfl, Nat.le_of_ble_eq_true rfl, Nat.le_of_ble_eq_true rfl, Nat.le_of_ble_eq_true rfl⟩ rfl rfl rfl rfl (by decide) (ro_cons (Or.inr ⟨0, rfl, by decide⟩) ro_nil) dX12_factor_173 (fun u hu => ?_)
              obtain ⟨v2_24, rfl⟩ : ∃ z, z = u := ⟨_, rfl⟩
              have g_25 : (fig (tp f) e (ps (nup v2_19 7 0) l)).2 = ps v2_24 l ∧ kp (nup v2_19 7 0) v2_24 := hu
              show V x cX12_factor RX12 5 (rmU 17 363 0 0) [((ad 1), cn 0 936 (wrS f a l)), (h, co 12 (mO ad v2_24))] 176 [(3, ai ((am (tp f) e 8 (ps (nup v2_14 7 0) l)).1)), (2, ai ((am (tp f) e 7 (ps v l)).1)), (1, ai (hrp (tp f) e (v 5))), (0, ar h)] [ai ((fig (tp f) e (ps (nup v2_19 7 0) l)).1)] 0 0
              have hn_26 : PN e (ps (nup v2_19 7 0) l) ((fig (tp f) e (ps (nup v2_19 7 0) l)).2) := fig_k (t := tp f) _ ⟨by show 0 ≤ (v2_19 5); omega, by show (v2_19 5) ≤ e; omega, by show 0 = 0 ∨ 0 = 1; omega⟩
              rw [g_25.1] at hn_26
              have hn_26a : (0 ≤ v2_24 5 ∧ v2_24 5 ≤ e ∧ (v2_24 7 = 0 ∨ v2_24 7 = 1)) ∧ (v2_19 5) ≤ v2_24 5 ∧ (v2_19 5) - ((l.length : Nat) : Int) ≤ v2_24 5 - ((l.length : Nat) : Int) := hn_26
              have hn_26k4 : v2_24 4 = a := (g_25.2 4 (by decide) (by decide)).trans (by show (v2_19 4) = a; omega)
              have hn_26k6 : v2_24 6 = e := (g_25.2 6 (by decide) (by decide)).trans (by show (v2_19 6) = e; omega)
              have hn_26k8 : v2_24 8 = (v2_19 8) := (g_25.2 8 (by decide) (by decide)).trans (by show (v2_19 8) = (v2_19 8); omega)
              refine v_istore (pc := 176) (L2 := [(4, ai ((fig (tp f) e (ps (nup v2_19 7 0) l)).1)), (3, ai ((am (tp f) e 8 (ps (nup v2_14 7 0) l)).1)), (2, ai ((am (tp f) e 7 (ps v l)).1)), (1, ai (hrp (tp f) e (v 5))), (0, ar h)]) rfl (by decide) dX12_factor_176 ?_
              refine v_aload_n (pc := 178) 4 rfl dX12_factor_178 ?_
              refine v_iload_n (pc := 179) 2 rfl dX12_factor_179 ?_
              refine v_bipush (pc := 180) dX12_factor_180 (by decide) ?_
              refine v_iload_n (pc := 182) 1 rfl dX12_factor_182 ?_
              refine v_imul (pc := 183) dX12_factor_183 ?_
              refine v_iadd (pc := 184) dX12_factor_184 ?_
              refine v_bipush (pc := 185) dX12_factor_185 (by decide) ?_
              refine v_iload (pc := 187) 0 rfl dX12_factor_187 ?_
              refine v_imul (pc := 189) dX12_factor_189 ?_
              refine v_iadd (pc := 190) dX12_factor_190 ?_
              refine v_callV (pc := 191) [0] [1] [(h, co 12 (mO ad v2_24))] (As := [ai (((am (tp f) e 7 (ps v l)).1 + (8 * (am (tp f) e 8 (ps (nup v2_14 7 0) l)).1)) + (32 * (fig (tp f) e (ps (nup v2_19 7 0) l)).1))]) (rest := []) (c_X12_emits ad v2_24 h f a e l (((am (tp f) e 7 (ps v l)).1 + (8 * (am (tp f) e 8 (ps (nup v2_14 7 0) l)).1)) + (32 * (fig (tp f) e (ps (nup v2_19 7 0) l)).1)) (by first | omega | assumption) (by first | omega | assumption) (by exact hT) (by show (v2_24 4) = a; omega) (by show (v2_24 6) = e; omega) (by exact ⟨by show 0 ≤ (v2_24 5); omega, by show (v2_24 5) ≤ e; omega, by show (v2_24 7) = 0 ∨ (v2_24 7) = 1; omega⟩) (by show ((l.length : Nat) : Int) ≤ 139; omega)) (c := 12) rfl (Or.inr ⟨1, rfl⟩) wl_X12_81 wi_X12_emits wv_X12_X12_emits_X12_emits wk_X12_emits wz_X12 md_X12_emits rfl (Nat.le_of_ble_eq_true rfl) ⟨Nat.le_of_ble_eq_true rfl, Nat.le_of_ble_eq_true rfl, Nat.le_of_ble_eq_true rfl, Nat.le_of_ble_eq_true rfl⟩ rfl rfl rfl rfl (by decide) (ro_cons (Or.inr ⟨1, rfl, by decide⟩) ro_nil) dX12_factor_191 (fun u hu => ?_)
              obtain ⟨l2_27, rfl⟩ : ∃ z, z = u := ⟨_, rfl⟩
              have g_28 : emi (((am (tp f) e 7 (ps v l)).1 + (8 * (am (tp f) e 8 (ps (nup v2_14 7 0) l)).1)) + (32 * (fig (tp f) e (ps (nup v2_19 7 0) l)).1)) (ps v2_24 l) = ps v2_24 l2_27 := hu
              show V x cX12_factor RX12 5 (rmU 17 363 0 0) [(h, co 12 (mO ad v2_24)), ((ad 1), cn 0 936 (wrS f a l2_27))] 194 [(4, ai ((fig (tp f) e (ps (nup v2_19 7 0) l)).1)), (3, ai ((am (tp f) e 8 (ps (nup v2_14 7 0) l)).1)), (2, ai ((am (tp f) e 7 (ps v l)).1)), (1, ai (hrp (tp f) e (v 5))), (0, ar h)] [] 0 0
              have ha1 : am (tp f) e 7 (ps v l) = ((am (tp f) e 7 (ps v l)).1, ps v2_14 l) := pr_of g_15.1
              have hb1 : (if (am (tp f) e 7 (ps v l)).1 = -1 then bad (ps v2_14 l) else ps v2_14 l) = ps (nup v2_14 7 0) l := by rw [if_neg (by omega)]; exact ps_70 (by omega)
              have ha2 : tsB (tp f) e (ps (nup v2_14 7 0) l) = ((am (tp f) e 8 (ps (nup v2_14 7 0) l)).1, ps v2_19 l) := (if_pos rfl).trans (pr_of g_20.1)
              have hb2 : (if (am (tp f) e 8 (ps (nup v2_14 7 0) l)).1 = -1 then bad (ps v2_19 l) else ps v2_19 l) = ps (nup v2_19 7 0) l := by first | (rw [if_pos (by omega)]; done) | (rw [if_pos (by omega)]; rfl) | (rw [if_neg (by omega)]; exact ps_70 (by omega))
              have ha3 : fig (tp f) e (ps (nup v2_19 7 0) l) = ((fig (tp f) e (ps (nup v2_19 7 0) l)).1, ps v2_24 l) := pr_of g_25.1
              exact hret (v2_24, l2_27) _ _ _ _ _ (by exact ⟨fac_tst (by omega) (by omega) (by omega) (tsp_of ha1 hb1 ha2 hb2 ha3 g_28), kp_tr (kp_7 (kp_tr (kp_7 g_15.2) g_20.2)) g_25.2⟩) rfl rfl (Nat.le_of_ble_eq_true rfl) (Nat.le_of_ble_eq_true rfl) dX12_factor_194
            · skip
              refine v_iconst (pc := 164) dX12_factor_164 ?_
              refine v_goto (pc := 165) 169 dX12_factor_165 (by decide) ?_
              refine v_put (pc := 169) 7 1 rfl fl_12_51_12 ck_12 ft_12_7 okV_z1 (Nat.le_of_ble_eq_true rfl) (ws2 := [((ad 1), cn 0 936 (wrS f a l)), (h, co 12 (mO ad (nup v2_19 7 1)))]) rfl dX12_factor_169 ?_
              refine v_aload_n (pc := 172) 3 rfl dX12_factor_172 ?_
              refine v_callV (pc := 173) [1] [0] [((ad 1), cn 0 936 (wrS f a l))] (As := []) (rest := []) (c_X12_figures ad (nup v2_19 7 1) h f a e l (by first | omega | assumption) (by first | omega | assumption) (by exact hT) (by show (v2_19 4) = a; omega) (by show (v2_19 6) = e; omega) (by exact ⟨by show 0 ≤ (v2_19 5); omega, by show (v2_19 5) ≤ e; omega, by show 1 = 0 ∨ 1 = 1; omega⟩)) (c := 12) rfl (Or.inr ⟨1, rfl⟩) wl_X12_95 wi_X12_figures wv_X12_X12_figures_X12_figures wk_X12_figures wz_X12 md_X12_figures rfl (Nat.le_of_ble_eq_true rfl) ⟨Nat.le_of_ble_eq_true rfl, Nat.le_of_ble_eq_true rfl, Nat.le_of_ble_eq_true rfl, Nat.le_of_ble_eq_true rfl⟩ rfl rfl rfl rfl (by decide) (ro_cons (Or.inr ⟨0, rfl, by decide⟩) ro_nil) dX12_factor_173 (fun u hu => ?_)
              obtain ⟨v2_29, rfl⟩ : ∃ z, z = u := ⟨_, rfl⟩
              have g_30 : (fig (tp f) e (ps (nup v2_19 7 1) l)).2 = ps v2_29 l ∧ kp (nup v2_19 7 1) v2_29 := hu
              show V x cX12_factor RX12 5 (rmU 17 363 0 0) [((ad 1), cn 0 936 (wrS f a l)), (h, co 12 (mO ad v2_29))] 176 [(3, ai ((am (tp f) e 8 (ps (nup v2_14 7 0) l)).1)), (2, ai ((am (tp f) e 7 (ps v l)).1)), (1, ai (hrp (tp f) e (v 5))), (0, ar h)] [ai ((fig (tp f) e (ps (nup v2_19 7 1) l)).1)] 0 0
              have hn_31 : PN e (ps (nup v2_19 7 1) l) ((fig (tp f) e (ps (nup v2_19 7 1) l)).2) := fig_k (t := tp f) _ ⟨by show 0 ≤ (v2_19 5); omega, by show (v2_19 5) ≤ e; omega, by show 1 = 0 ∨ 1 = 1; omega⟩
              rw [g_30.1] at hn_31
              have hn_31a : (0 ≤ v2_29 5 ∧ v2_29 5 ≤ e ∧ (v2_29 7 = 0 ∨ v2_29 7 = 1)) ∧ (v2_19 5) ≤ v2_29 5 ∧ (v2_19 5) - ((l.length : Nat) : Int) ≤ v2_29 5 - ((l.length : Nat) : Int) := hn_31
              have hn_31k4 : v2_29 4 = a := (g_30.2 4 (by decide) (by decide)).trans (by show (v2_19 4) = a; omega)
              have hn_31k6 : v2_29 6 = e := (g_30.2 6 (by decide) (by decide)).trans (by show (v2_19 6) = e; omega)
              have hn_31k8 : v2_29 8 = (v2_19 8) := (g_30.2 8 (by decide) (by decide)).trans (by show (v2_19 8) = (v2_19 8); omega)
              refine v_istore (pc := 176) (L2 := [(4, ai ((fig (tp f) e (ps (nup v2_19 7 1) l)).1)), (3, ai ((am (tp f) e 8 (ps (nup v2_14 7 0) l)).1)), (2, ai ((am (tp f) e 7 (ps v l)).1)), (1, ai (hrp (tp f) e (v 5))), (0, ar h)]) rfl (by decide) dX12_factor_176 ?_
              refine v_aload_n (pc := 178) 4 rfl dX12_factor_178 ?_
              refine v_iload_n (pc := 179) 2 rfl dX12_factor_179 ?_
              refine v_bipush (pc := 180) dX12_factor_180 (by decide) ?_
              refine v_iload_n (pc := 182) 1 rfl dX12_factor_182 ?_
              refine v_imul (pc := 183) dX12_factor_183 ?_
              refine v_iadd (pc := 184) dX12_factor_184 ?_
              refine v_bipush (pc := 185) dX12_factor_185 (by decide) ?_
              refine v_iload (pc := 187) 0 rfl dX12_factor_187 ?_
              refine v_imul (pc := 189) dX12_factor_189 ?_
              refine v_iadd (pc := 190) dX12_factor_190 ?_
              refine v_callV (pc := 191) [0] [1] [(h, co 12 (mO ad v2_29))] (As := [ai (((am (tp f) e 7 (ps v l)).1 + (8 * (am (tp f) e 8 (ps (nup v2_14 7 0) l)).1)) + (32 * (fig (tp f) e (ps (nup v2_19 7 1) l)).1))]) (rest := []) (c_X12_emits ad v2_29 h f a e l (((am (tp f) e 7 (ps v l)).1 + (8 * (am (tp f) e 8 (ps (nup v2_14 7 0) l)).1)) + (32 * (fig (tp f) e (ps (nup v2_19 7 1) l)).1)) (by first | omega | assumption) (by first | omega | assumption) (by exact hT) (by show (v2_29 4) = a; omega) (by show (v2_29 6) = e; omega) (by exact ⟨by show 0 ≤ (v2_29 5); omega, by show (v2_29 5) ≤ e; omega, by show (v2_29 7) = 0 ∨ (v2_29 7) = 1; omega⟩) (by show ((l.length : Nat) : Int) ≤ 139; omega)) (c := 12) rfl (Or.inr ⟨1, rfl⟩) wl_X12_81 wi_X12_emits wv_X12_X12_emits_X12_emits wk_X12_emits wz_X12 md_X12_emits rfl (Nat.le_of_ble_eq_true rfl) ⟨Nat.le_of_ble_eq_true rfl, Nat.le_of_ble_eq_true rfl, Nat.le_of_ble_eq_true rfl, Nat.le_of_ble_eq_true rfl⟩ rfl rfl rfl rfl (by decide) (ro_cons (Or.inr ⟨1, rfl, by decide⟩) ro_nil) dX12_factor_191 (fun u hu => ?_)
              obtain ⟨l2_32, rfl⟩ : ∃ z, z = u := ⟨_, rfl⟩
              have g_33 : emi (((am (tp f) e 7 (ps v l)).1 + (8 * (am (tp f) e 8 (ps (nup v2_14 7 0) l)).1)) + (32 * (fig (tp f) e (ps (nup v2_19 7 1) l)).1)) (ps v2_29 l) = ps v2_29 l2_32 := hu
              show V x cX12_factor RX12 5 (rmU 17 363 0 0) [(h, co 12 (mO ad v2_29)), ((ad 1), cn 0 936 (wrS f a l2_32))] 194 [(4, ai ((fig (tp f) e (ps (nup v2_19 7 1) l)).1)), (3, ai ((am (tp f) e 8 (ps (nup v2_14 7 0) l)).1)), (2, ai ((am (tp f) e 7 (ps v l)).1)), (1, ai (hrp (tp f) e (v 5))), (0, ar h)] [] 0 0
              have ha1 : am (tp f) e 7 (ps v l) = ((am (tp f) e 7 (ps v l)).1, ps v2_14 l) := pr_of g_15.1
              have hb1 : (if (am (tp f) e 7 (ps v l)).1 = -1 then bad (ps v2_14 l) else ps v2_14 l) = ps (nup v2_14 7 0) l := by rw [if_neg (by omega)]; exact ps_70 (by omega)
              have ha2 : tsB (tp f) e (ps (nup v2_14 7 0) l) = ((am (tp f) e 8 (ps (nup v2_14 7 0) l)).1, ps v2_19 l) := (if_pos rfl).trans (pr_of g_20.1)
              have hb2 : (if (am (tp f) e 8 (ps (nup v2_14 7 0) l)).1 = -1 then bad (ps v2_19 l) else ps v2_19 l) = ps (nup v2_19 7 1) l := by first | (rw [if_pos (by omega)]; done) | (rw [if_pos (by omega)]; rfl) | (rw [if_neg (by omega)]; exact ps_70 (by omega))
              have ha3 : fig (tp f) e (ps (nup v2_19 7 1) l) = ((fig (tp f) e (ps (nup v2_19 7 1) l)).1, ps v2_29 l) := pr_of g_30.1
              exact hret (v2_29, l2_32) _ _ _ _ _ (by exact ⟨fac_tst (by omega) (by omega) (by omega) (tsp_of ha1 hb1 ha2 hb2 ha3 g_33), kp_tr (kp_7 (kp_tr (kp_7 g_15.2) g_20.2)) g_30.2⟩) rfl rfl (Nat.le_of_ble_eq_true rfl) (Nat.le_of_ble_eq_true rfl) dX12_factor_194
        · skip
          refine v_iconst (pc := 125) dX12_factor_125 ?_
          refine v_goto (pc := 126) 130 dX12_factor_126 (by decide) ?_
          refine v_put (pc := 130) 7 1 rfl fl_12_51_12 ck_12 ft_12_7 okV_z1 (Nat.le_of_ble_eq_true rfl) (ws2 := [((ad 1), cn 0 936 (wrS f a l)), (h, co 12 (mO ad (nup v2_14 7 1)))]) rfl dX12_factor_130 ?_
          refine v_aload_n (pc := 133) 2 rfl dX12_factor_133 ?_
          refine v_get (pc := 134) (v := ai 1) 7 (Or.inr ⟨1, rfl⟩) fl_12_51_12 rfl dX12_factor_134 ?_
          refine v_if_eq (pc := 137) 144 dX12_factor_137 (by decide) (by unfold iB; omega) (fun c_34 => by exfalso; omega) (fun c_34 => ?_)
          refine v_iconst (pc := 140) dX12_factor_140 ?_
          refine v_goto (pc := 141) 150 dX12_factor_141 (by decide) ?_
          refine v_istore_n (pc := 150) (L2 := [(3, ai 0), (2, ai ((am (tp f) e 7 (ps v l)).1)), (1, ai (hrp (tp f) e (v 5))), (0, ar h)]) rfl (by decide) dX12_factor_150 ?_
          refine v_aload_n (pc := 151) 3 rfl dX12_factor_151 ?_
          refine v_aload_n (pc := 152) 3 rfl dX12_factor_152 ?_
          refine v_get (pc := 153) (v := ai 1) 7 (Or.inr ⟨1, rfl⟩) fl_12_51_12 rfl dX12_factor_153 ?_
          refine v_if_ne (pc := 156) 164 dX12_factor_156 (by decide) (by unfold iB; omega) (fun c_35 => ?_) (fun c_35 => by exfalso; omega)
          refine v_iconst (pc := 164) dX12_factor_164 ?_
          refine v_goto (pc := 165) 169 dX12_factor_165 (by decide) ?_
          refine v_put (pc := 169) 7 1 rfl fl_12_51_12 ck_12 ft_12_7 okV_z1 (Nat.le_of_ble_eq_true rfl) (ws2 := [((ad 1), cn 0 936 (wrS f a l)), (h, co 12 (mO ad (nup (nup v2_14 7 1) 7 1)))]) rfl dX12_factor_169 ?_
          refine v_aload_n (pc := 172) 3 rfl dX12_factor_172 ?_
          refine v_callV (pc := 173) [1] [0] [((ad 1), cn 0 936 (wrS f a l))] (As := []) (rest := []) (c_X12_figures ad (nup (nup v2_14 7 1) 7 1) h f a e l (by first | omega | assumption) (by first | omega | assumption) (by exact hT) (by show (v2_14 4) = a; omega) (by show (v2_14 6) = e; omega) (by exact ⟨by show 0 ≤ (v2_14 5); omega, by show (v2_14 5) ≤ e; omega, by show 1 = 0 ∨ 1 = 1; omega⟩)) (c := 12) rfl (Or.inr ⟨1, rfl⟩) wl_X12_95 wi_X12_figures wv_X12_X12_figures_X12_figures wk_X12_figures wz_X12 md_X12_figures rfl (Nat.le_of_ble_eq_true rfl) ⟨Nat.le_of_ble_eq_true rfl, Nat.le_of_ble_eq_true rfl, Nat.le_of_ble_eq_true rfl, Nat.le_of_ble_eq_true rfl⟩ rfl rfl rfl rfl (by decide) (ro_cons (Or.inr ⟨0, rfl, by decide⟩) ro_nil) dX12_factor_173 (fun u hu => ?_)
          obtain ⟨v2_36, rfl⟩ : ∃ z, z = u := ⟨_, rfl⟩
          have g_37 : (fig (tp f) e (ps (nup (nup v2_14 7 1) 7 1) l)).2 = ps v2_36 l ∧ kp (nup (nup v2_14 7 1) 7 1) v2_36 := hu
          show V x cX12_factor RX12 5 (rmU 17 363 0 0) [((ad 1), cn 0 936 (wrS f a l)), (h, co 12 (mO ad v2_36))] 176 [(3, ai 0), (2, ai ((am (tp f) e 7 (ps v l)).1)), (1, ai (hrp (tp f) e (v 5))), (0, ar h)] [ai ((fig (tp f) e (ps (nup (nup v2_14 7 1) 7 1) l)).1)] 0 0
          have hn_38 : PN e (ps (nup (nup v2_14 7 1) 7 1) l) ((fig (tp f) e (ps (nup (nup v2_14 7 1) 7 1) l)).2) := fig_k (t := tp f) _ ⟨by show 0 ≤ (v2_14 5); omega, by show (v2_14 5) ≤ e; omega, by show 1 = 0 ∨ 1 = 1; omega⟩
          rw [g_37.1] at hn_38
          have hn_38a : (0 ≤ v2_36 5 ∧ v2_36 5 ≤ e ∧ (v2_36 7 = 0 ∨ v2_36 7 = 1)) ∧ (v2_14 5) ≤ v2_36 5 ∧ (v2_14 5) - ((l.length : Nat) : Int) ≤ v2_36 5 - ((l.length : Nat) : Int) := hn_38
          have hn_38k4 : v2_36 4 = a := (g_37.2 4 (by decide) (by decide)).trans (by show (v2_14 4) = a; omega)
          have hn_38k6 : v2_36 6 = e := (g_37.2 6 (by decide) (by decide)).trans (by show (v2_14 6) = e; omega)
          have hn_38k8 : v2_36 8 = (v2_14 8) := (g_37.2 8 (by decide) (by decide)).trans (by show (v2_14 8) = (v2_14 8); omega)
          refine v_istore (pc := 176) (L2 := [(4, ai ((fig (tp f) e (ps (nup (nup v2_14 7 1) 7 1) l)).1)), (3, ai 0), (2, ai ((am (tp f) e 7 (ps v l)).1)), (1, ai (hrp (tp f) e (v 5))), (0, ar h)]) rfl (by decide) dX12_factor_176 ?_
          refine v_aload_n (pc := 178) 4 rfl dX12_factor_178 ?_
          refine v_iload_n (pc := 179) 2 rfl dX12_factor_179 ?_
          refine v_bipush (pc := 180) dX12_factor_180 (by decide) ?_
          refine v_iload_n (pc := 182) 1 rfl dX12_factor_182 ?_
          refine v_imul (pc := 183) dX12_factor_183 ?_
          refine v_iadd (pc := 184) dX12_factor_184 ?_
          refine v_bipush (pc := 185) dX12_factor_185 (by decide) ?_
          refine v_iload (pc := 187) 0 rfl dX12_factor_187 ?_
          refine v_imul (pc := 189) dX12_factor_189 ?_
          refine v_iadd (pc := 190) dX12_factor_190 ?_
          refine v_callV (pc := 191) [0] [1] [(h, co 12 (mO ad v2_36))] (As := [ai (((am (tp f) e 7 (ps v l)).1 + (8 * 0)) + (32 * (fig (tp f) e (ps (nup (nup v2_14 7 1) 7 1) l)).1))]) (rest := []) (c_X12_emits ad v2_36 h f a e l (((am (tp f) e 7 (ps v l)).1 + (8 * 0)) + (32 * (fig (tp f) e (ps (nup (nup v2_14 7 1) 7 1) l)).1)) (by first | omega | assumption) (by first | omega | assumption) (by exact hT) (by show (v2_36 4) = a; omega) (by show (v2_36 6) = e; omega) (by exact ⟨by show 0 ≤ (v2_36 5); omega, by show (v2_36 5) ≤ e; omega, by show (v2_36 7) = 0 ∨ (v2_36 7) = 1; omega⟩) (by show ((l.length : Nat) : Int) ≤ 139; omega)) (c := 12) rfl (Or.inr ⟨1, rfl⟩) wl_X12_81 wi_X12_emits wv_X12_X12_emits_X12_emits wk_X12_emits wz_X12 md_X12_emits rfl (Nat.le_of_ble_eq_true rfl) ⟨Nat.le_of_ble_eq_true rfl, Nat.le_of_ble_eq_true rfl, Nat.le_of_ble_eq_true rfl, Nat.le_of_ble_eq_true rfl⟩ rfl rfl rfl rfl (by decide) (ro_cons (Or.inr ⟨1, rfl, by decide⟩) ro_nil) dX12_factor_191 (fun u hu => ?_)
          obtain ⟨l2_39, rfl⟩ : ∃ z, z = u := ⟨_, rfl⟩
          have g_40 : emi (((am (tp f) e 7 (ps v l)).1 + (8 * 0)) + (32 * (fig (tp f) e (ps (nup (nup v2_14 7 1) 7 1) l)).1)) (ps v2_36 l) = ps v2_36 l2_39 := hu
          show V x cX12_factor RX12 5 (rmU 17 363 0 0) [(h, co 12 (mO ad v2_36)), ((ad 1), cn 0 936 (wrS f a l2_39))] 194 [(4, ai ((fig (tp f) e (ps (nup (nup v2_14 7 1) 7 1) l)).1)), (3, ai 0), (2, ai ((am (tp f) e 7 (ps v l)).1)), (1, ai (hrp (tp f) e (v 5))), (0, ar h)] [] 0 0
          have ha1 : am (tp f) e 7 (ps v l) = ((am (tp f) e 7 (ps v l)).1, ps v2_14 l) := pr_of g_15.1
          have hb1 : (if (am (tp f) e 7 (ps v l)).1 = -1 then bad (ps v2_14 l) else ps v2_14 l) = ps (nup v2_14 7 1) l := by rw [if_pos (by omega)]; rfl
          have ha2 : tsB (tp f) e (ps (nup v2_14 7 1) l) = (0, ps (nup v2_14 7 1) l) := if_neg (by show ¬ (1 : Int) = 0; decide)
          have hb2 : (if 0 = -1 then bad (ps (nup v2_14 7 1) l) else ps (nup v2_14 7 1) l) = ps (nup (nup v2_14 7 1) 7 1) l := by rw [if_neg (by decide)]; rfl
          have ha3 : fig (tp f) e (ps (nup (nup v2_14 7 1) 7 1) l) = ((fig (tp f) e (ps (nup (nup v2_14 7 1) 7 1) l)).1, ps v2_36 l) := pr_of g_37.1
          exact hret (v2_36, l2_39) _ _ _ _ _ (by exact ⟨fac_tst (by omega) (by omega) (by omega) (tsp_of ha1 hb1 ha2 hb2 ha3 g_40), kp_tr (kp_7 (kp_7 g_15.2)) g_37.2⟩) rfl rfl (Nat.le_of_ble_eq_true rfl) (Nat.le_of_ble_eq_true rfl) dX12_factor_194
      · skip
        refine v_aload_n (pc := 25) 1 rfl dX12_factor_25 ?_
        refine v_aload_n (pc := 26) 1 rfl dX12_factor_26 ?_
        refine v_get (pc := 27) (v := ai (v 8)) 8 (Or.inr ⟨0, rfl⟩) fl_12_75_12 rfl dX12_factor_27 ?_
        refine v_iconst (pc := 30) dX12_factor_30 ?_
        refine v_icmp_ne (pc := 31) 38 dX12_factor_31 (by decide) (by unfold iB; omega) (by unfold iB; omega) (fun c_41 => ?_) (fun c_41 => ?_)
        · skip
          refine v_iconst (pc := 38) dX12_factor_38 ?_
          refine v_put (pc := 39) 7 0 rfl fl_12_51_12 ck_12 ft_12_7 okV_z0 (Nat.le_of_ble_eq_true rfl) (ws2 := [(h, co 12 (mO ad (nup v 7 0))), ((ad 1), cn 0 936 (wrS f a l))]) rfl dX12_factor_39 ?_
          refine v_aload_n (pc := 42) 1 rfl dX12_factor_42 ?_
          refine v_dup (pc := 43) rfl dX12_factor_43 ?_
          refine v_get (pc := 44) (v := ai (v 8)) 8 (Or.inr ⟨0, rfl⟩) fl_12_75_12 rfl dX12_factor_44 ?_
          refine v_iconst (pc := 47) dX12_factor_47 ?_
          refine v_iadd (pc := 48) dX12_factor_48 ?_
          refine v_put (pc := 49) 8 0 rfl fl_12_75_12 ck_12 ft_12_8 (okV_i _) (Nat.le_of_ble_eq_true rfl) (ws2 := [(h, co 12 (mO ad (nup (nup v 7 0) 8 ((v 8) + 1)))), ((ad 1), cn 0 936 (wrS f a l))]) rfl dX12_factor_49 ?_
          refine v_aload_n (pc := 52) 1 rfl dX12_factor_52 ?_
          refine v_dup (pc := 53) rfl dX12_factor_53 ?_
          refine v_get (pc := 54) (v := ai (v 5)) 5 (Or.inr ⟨0, rfl⟩) fl_12_45_12 rfl dX12_factor_54 ?_
          refine v_aload_n (pc := 57) 1 rfl dX12_factor_57 ?_
          refine v_get (pc := 58) (v := ai 0) 7 (Or.inr ⟨0, rfl⟩) fl_12_51_12 rfl dX12_factor_58 ?_
          refine v_if_eq (pc := 61) 68 dX12_factor_61 (by decide) (by unfold iB; omega) (fun c_42 => ?_) (fun c_42 => by exfalso; omega)
          refine v_iconst (pc := 68) dX12_factor_68 ?_
          refine v_iadd (pc := 69) dX12_factor_69 ?_
          refine v_put (pc := 70) 5 0 rfl fl_12_45_12 ck_12 ft_12_5 (okV_i _) (Nat.le_of_ble_eq_true rfl) (ws2 := [(h, co 12 (mO ad (nup (nup (nup v 7 0) 8 ((v 8) + 1)) 5 ((v 5) + 1)))), ((ad 1), cn 0 936 (wrS f a l))]) rfl dX12_factor_70 ?_
          refine v_iload_n (pc := 73) 0 rfl dX12_factor_73 ?_
          refine v_bipush (pc := 74) dX12_factor_74 (by decide) ?_
          refine v_icmp_ne (pc := 76) 91 dX12_factor_76 (by decide) (by unfold iB; omega) (by unfold iB; omega) (fun c_43 => ?_) (fun c_43 => ?_)
          · skip
            refine v_aload_n (pc := 91) 1 rfl dX12_factor_91 ?_
            refine v_callV (pc := 92) [0, 1] [] [] (As := []) (rest := []) (c_some_3 ad (nup (nup (nup v 7 0) 8 ((v 8) + 1)) 5 ((v 5) + 1)) h f a e l (by first | omega | assumption) (by first | omega | assumption) (by exact hT) (by show (v 4) = a; omega) (by show (v 6) = e; omega) (by exact ⟨by show 0 ≤ ((v 5) + 1); omega, by show ((v 5) + 1) ≤ e; omega, by show 0 = 0 ∨ 0 = 1; omega⟩) (by show ((l.length : Nat) : Int) ≤ ((v 5) + 1); omega) (by show ((v 8) + 1) = _; omega)) (c := 12) rfl (Or.inr ⟨0, rfl⟩) wl_X12_84 wi_X12_some wv_X12_X12_some_X12_some wk_X12_some wz_X12 md_X12_some rfl (Nat.le_of_ble_eq_true rfl) ⟨Nat.le_of_ble_eq_true rfl, Nat.le_of_ble_eq_true rfl, Nat.le_of_ble_eq_true rfl, Nat.le_of_ble_eq_true rfl⟩ rfl rfl rfl rfl (by decide) ro_nil dX12_factor_92 (fun u hu => ?_)
            obtain ⟨v2_44, l2_45⟩ := u
            have g_46 : soP (tp f) e (fac (tp f) e 3) (ps (nup (nup (nup v 7 0) 8 ((v 8) + 1)) 5 ((v 5) + 1)) l) = ps v2_44 l2_45 ∧ kp (nup (nup (nup v 7 0) 8 ((v 8) + 1)) 5 ((v 5) + 1)) v2_44 := hu
            show V x cX12_factor RX12 5 (rmU 17 363 0 0) [(h, co 12 (mO ad v2_44)), ((ad 1), cn 0 936 (wrS f a l2_45))] 95 [(1, ai (hrp (tp f) e (v 5))), (0, ar h)] [] 0 0
            have hn_47 : PN e (ps (nup (nup (nup v 7 0) 8 ((v 8) + 1)) 5 ((v 5) + 1)) l) (soP (tp f) e (fac (tp f) e 3) (ps (nup (nup (nup v 7 0) 8 ((v 8) + 1)) 5 ((v 5) + 1)) l)) := soP_k (fac_k (t := tp f) 3) _ ⟨by show 0 ≤ ((v 5) + 1); omega, by show ((v 5) + 1) ≤ e; omega, by show 0 = 0 ∨ 0 = 1; omega⟩
            rw [g_46.1] at hn_47
            have hn_47a : (0 ≤ v2_44 5 ∧ v2_44 5 ≤ e ∧ (v2_44 7 = 0 ∨ v2_44 7 = 1)) ∧ ((v 5) + 1) ≤ v2_44 5 ∧ ((v 5) + 1) - ((l.length : Nat) : Int) ≤ v2_44 5 - ((l2_45.length : Nat) : Int) := hn_47
            have hn_47k4 : v2_44 4 = a := (g_46.2 4 (by decide) (by decide)).trans (by show (v 4) = a; omega)
            have hn_47k6 : v2_44 6 = e := (g_46.2 6 (by decide) (by decide)).trans (by show (v 6) = e; omega)
            have hn_47k8 : v2_44 8 = ((v 8) + 1) := (g_46.2 8 (by decide) (by decide)).trans (by show ((v 8) + 1) = ((v 8) + 1); omega)
            refine v_aload_n (pc := 95) 1 rfl dX12_factor_95 ?_
            refine v_bipush (pc := 96) dX12_factor_96 (by decide) ?_
            refine v_callV (pc := 98) [0] [1] [((ad 1), cn 0 936 (wrS f a l2_45))] (As := [ai 41]) (rest := []) (c_X12_must ad v2_44 h f a e l2_45 41 (by first | omega | assumption) (by first | omega | assumption) (by exact hT) (by show (v2_44 4) = a; omega) (by show (v2_44 6) = e; omega) (by exact ⟨by show 0 ≤ (v2_44 5); omega, by show (v2_44 5) ≤ e; omega, by show (v2_44 7) = 0 ∨ (v2_44 7) = 1; omega⟩) (by first | omega | assumption)) (c := 12) rfl (Or.inr ⟨0, rfl⟩) wl_X12_68 wi_X12_must wv_X12_X12_must_X12_must wk_X12_must wz_X12 md_X12_must rfl (Nat.le_of_ble_eq_true rfl) ⟨Nat.le_of_ble_eq_true rfl, Nat.le_of_ble_eq_true rfl, Nat.le_of_ble_eq_true rfl, Nat.le_of_ble_eq_true rfl⟩ rfl rfl rfl rfl (by decide) (ro_cons (Or.inr ⟨1, rfl, by decide⟩) ro_nil) dX12_factor_98 (fun u hu => ?_)
            obtain ⟨v2_48, rfl⟩ : ∃ z, z = u := ⟨_, rfl⟩
            have g_49 : mstP (tp f) e 41 (ps v2_44 l2_45) = ps v2_48 l2_45 ∧ kp v2_44 v2_48 := hu
            show V x cX12_factor RX12 5 (rmU 17 363 0 0) [((ad 1), cn 0 936 (wrS f a l2_45)), (h, co 12 (mO ad v2_48))] 101 [(1, ai (hrp (tp f) e (v 5))), (0, ar h)] [] 0 0
            have hn_50 : PN e (ps v2_44 l2_45) (mstP (tp f) e 41 (ps v2_44 l2_45)) := mstP_k (t := tp f) (by omega) _ ⟨by show 0 ≤ (v2_44 5); omega, by show (v2_44 5) ≤ e; omega, by show (v2_44 7) = 0 ∨ (v2_44 7) = 1; omega⟩
            rw [g_49.1] at hn_50
            have hn_50a : (0 ≤ v2_48 5 ∧ v2_48 5 ≤ e ∧ (v2_48 7 = 0 ∨ v2_48 7 = 1)) ∧ (v2_44 5) ≤ v2_48 5 ∧ (v2_44 5) - ((l2_45.length : Nat) : Int) ≤ v2_48 5 - ((l2_45.length : Nat) : Int) := hn_50
            have hn_50k4 : v2_48 4 = a := (g_49.2 4 (by decide) (by decide)).trans (by show (v2_44 4) = a; omega)
            have hn_50k6 : v2_48 6 = e := (g_49.2 6 (by decide) (by decide)).trans (by show (v2_44 6) = e; omega)
            have hn_50k8 : v2_48 8 = (v2_44 8) := (g_49.2 8 (by decide) (by decide)).trans (by show (v2_44 8) = (v2_44 8); omega)
            refine v_aload_n (pc := 101) 1 rfl dX12_factor_101 ?_
            refine v_dup (pc := 102) rfl dX12_factor_102 ?_
            refine v_get (pc := 103) (v := ai (v2_48 8)) 8 (Or.inr ⟨1, rfl⟩) fl_12_75_12 rfl dX12_factor_103 ?_
            refine v_iconst (pc := 106) dX12_factor_106 ?_
            refine v_isub (pc := 107) dX12_factor_107 ?_
            refine v_put (pc := 108) 8 1 rfl fl_12_75_12 ck_12 ft_12_8 (okV_i _) (Nat.le_of_ble_eq_true rfl) (ws2 := [((ad 1), cn 0 936 (wrS f a l2_45)), (h, co 12 (mO ad (nup v2_48 8 ((v2_48 8) - 1))))]) rfl dX12_factor_108 ?_
            refine v_wsub (ws2 := [(h, co 12 (mO ad (nup v2_48 8 ((v2_48 8) - 1)))), ((ad 1), cn 0 936 (wrS f a l2_45))]) [1, 0] rfl rfl ?_
            exact hret ((nup v2_48 8 ((v2_48 8) - 1)), l2_45) _ _ _ _ _ (by exact ⟨fac_par (by omega) (by omega) g_46.1 g_49.1 rfl rfl, kp_8 (kp_tr g_46.2 g_49.2)⟩) rfl rfl (Nat.le_of_ble_eq_true rfl) (Nat.le_of_ble_eq_true rfl) dX12_factor_111
          · skip
            exfalso; omega
        · skip
          exfalso; omega
  · skip
    exact hret (v, l) _ _ _ _ _ (by exact ⟨fac_w (by omega), kp_rf v⟩) rfl rfl (Nat.le_of_ble_eq_true rfl) (Nat.le_of_ble_eq_true rfl) dX12_factor_7
set_option maxHeartbeats 4000000 in
set_option maxRecDepth 100000 in
theorem c_every_4 {gS : sG} (ad : Nat → Nat) (v : Nat → Int) (h : Nat) (f : Int → Int) (a : Int) (e : Int) (l : List Int) (ha : 0 ≤ a ∧ a ≤ 4) (he : 0 ≤ e ∧ e ≤ 100) (hT : ∀ j : Int, 0 ≤ j → j < e → 0 ≤ f (121 + j) ∧ f (121 + j) ≤ 127) (h4 : v 4 = a) (h6 : v 6 = e) (hB : PB e (ps v l)) (hl : (l.length : Int) ≤ v 5) (h8 : v 8 = 1) : Ct gS (S := (Nat → Int) × List Int) yX12_every cX12_every 1 none 18 387 0 0 [ar h] [(h, co 12 (mO ad v)), ((ad 1), cn 0 936 (wrS f a l))] (fun q => q ∈ ([] : aW)) (fun u => evP (tp f) e (fac (tp f) e 4) (ps v l) = ps u.1 u.2 ∧ kp v u.1) (fun u => none) (fun u => [(h, co 12 (mO ad u.1)), ((ad 1), cn 0 936 (wrS f a u.2))]) := by
  refine ct_V RX12 [(0, ar h)] (by decide) rfl (Nat.le_of_ble_eq_true rfl) rfl (fun x hgS hnm hro hret => ?_)
  subst hgS
  have hB1 : 0 ≤ v 5 := hB.1
  have hB2 : v 5 ≤ e := hB.2.1
  have hB3 : v 7 = 0 ∨ v 7 = 1 := hB.2.2
  show V x cX12_every RX12 1 (rmU 18 387 0 0) [(h, co 12 (mO ad v)), ((ad 1), cn 0 936 (wrS f a l))] 0 [(0, ar h)] [] 0 0
  refine v_aload_n (pc := 0) 0 rfl dX12_every_0 ?_
  refine v_callV (pc := 1) [0, 1] [] [] (As := []) (rest := []) (c_factor_4 ad v h f a e l (by first | omega | assumption) (by first | omega | assumption) (by exact hT) (by show (v 4) = a; omega) (by show (v 6) = e; omega) (by exact ⟨by show 0 ≤ (v 5); omega, by show (v 5) ≤ e; omega, by show (v 7) = 0 ∨ (v 7) = 1; omega⟩) (by show ((l.length : Nat) : Int) ≤ (v 5); omega) (by show (v 8) = _; omega)) (c := 12) rfl (Or.inr ⟨0, rfl⟩) wl_X12_78 wi_X12_factor wv_X12_X12_factor_X12_factor wk_X12_factor wz_X12 md_X12_factor rfl (Nat.le_of_ble_eq_true rfl) ⟨Nat.le_of_ble_eq_true rfl, Nat.le_of_ble_eq_true rfl, Nat.le_of_ble_eq_true rfl, Nat.le_of_ble_eq_true rfl⟩ rfl rfl rfl rfl (by decide) ro_nil dX12_every_1 (fun u hu => ?_)
  obtain ⟨v2_1, l2_2⟩ := u
  have g_3 : fac (tp f) e 4 (ps v l) = ps v2_1 l2_2 ∧ kp v v2_1 := hu
  show V x cX12_every RX12 1 (rmU 18 387 0 0) [(h, co 12 (mO ad v2_1)), ((ad 1), cn 0 936 (wrS f a l2_2))] 4 [(0, ar h)] [] 0 0
  have hn_4 : PN e (ps v l) (fac (tp f) e 4 (ps v l)) := fac_k (t := tp f) 4 _ ⟨by show 0 ≤ (v 5); omega, by show (v 5) ≤ e; omega, by show (v 7) = 0 ∨ (v 7) = 1; omega⟩
  rw [g_3.1] at hn_4
  have hn_4a : (0 ≤ v2_1 5 ∧ v2_1 5 ≤ e ∧ (v2_1 7 = 0 ∨ v2_1 7 = 1)) ∧ (v 5) ≤ v2_1 5 ∧ (v 5) - ((l.length : Nat) : Int) ≤ v2_1 5 - ((l2_2.length : Nat) : Int) := hn_4
  have hn_4k4 : v2_1 4 = a := (g_3.2 4 (by decide) (by decide)).trans (by show (v 4) = a; omega)
  have hn_4k6 : v2_1 6 = e := (g_3.2 6 (by decide) (by decide)).trans (by show (v 6) = e; omega)
  have hn_4k8 : v2_1 8 = (v 8) := (g_3.2 8 (by decide) (by decide)).trans (by show (v 8) = (v 8); omega)
  have lp4 : ∀ (mm : Nat) (v1 : Nat → Int) (l1 : List Int), (e - v1 5).toNat = mm → (lpP (tp f) e 38 (-2) (fac (tp f) e 4) 101 (ps v1 l1) = evP (tp f) e (fac (tp f) e 4) (ps v l)) → (kp v v1) → (0 ≤ v1 5 ∧ v1 5 ≤ e ∧ (v1 7 = 0 ∨ v1 7 = 1) ∧ (l1.length : Int) ≤ v1 5) → V x cX12_every RX12 1 (rmU 18 387 0 0) [(h, co 12 (mO ad v1)), ((ad 1), cn 0 936 (wrS f a l1))] 4 [(0, ar h)] [] 0 0 := by
    intro mm
    induction mm using Nat.strongRecOn with
    | _ mm ih =>
      intro v1 l1 hmm hrr hkp hb1
      have hk4 : v1 4 = a := (hkp 4 (by decide) (by decide)).trans h4
      have hk6 : v1 6 = e := (hkp 6 (by decide) (by decide)).trans h6
      have hk8 : v1 8 = v 8 := hkp 8 (by decide) (by decide)
      refine v_aload_n (pc := 4) 0 rfl dX12_every_4 ?_
      refine v_get (pc := 5) (v := ai (v1 7)) 7 (Or.inr ⟨0, rfl⟩) fl_12_51_12 rfl dX12_every_5 ?_
      refine v_if_ne (pc := 8) 43 dX12_every_8 (by decide) (by unfold iB; omega) (fun c_5 => ?_) (fun c_5 => ?_)
      · skip
        exact hret (v1, l1) _ _ _ _ _ (by exact ⟨by rw [← hrr]; exact lpP_st (by show ¬ (v1 7 = 0 ∧ hrp (tp f) e (v1 5) = 38); omega), hkp⟩) rfl rfl (Nat.le_of_ble_eq_true rfl) (Nat.le_of_ble_eq_true rfl) dX12_every_43
      · skip
        refine v_aload_n (pc := 11) 0 rfl dX12_every_11 ?_
        refine v_callV (pc := 12) [] [0, 1] [(h, co 12 (mO ad v1)), ((ad 1), cn 0 936 (wrS f a l1))] (As := []) (rest := []) (c_X12_here ad v1 h f a e l1 (v1 5) (by first | omega | assumption) (by first | omega | assumption) (by show (v1 6) = e; omega) (by rfl) (by first | omega | assumption)) (c := 12) rfl (Or.inr ⟨0, rfl⟩) wl_X12_55 wi_X12_here wv_X12_X12_here_X12_here wk_X12_here wz_X12 md_X12_here rfl (Nat.le_of_ble_eq_true rfl) ⟨Nat.le_of_ble_eq_true rfl, Nat.le_of_ble_eq_true rfl, Nat.le_of_ble_eq_true rfl, Nat.le_of_ble_eq_true rfl⟩ rfl rfl rfl rfl (by decide) (ro_cons (Or.inr ⟨0, rfl, by decide⟩) (ro_cons (Or.inr ⟨1, rfl, by decide⟩) ro_nil)) dX12_every_12 (fun u hu => ?_)
        show V x cX12_every RX12 1 (rmU 18 387 0 0) [(h, co 12 (mO ad v1)), ((ad 1), cn 0 936 (wrS f a l1))] 15 [(0, ar h)] [ai (hrp (tp f) e (v1 5))] 0 0
        have hb_6 := hrp_b (p := (v1 5)) hT (by omega)
        refine v_bipush (pc := 15) dX12_every_15 (by decide) ?_
        refine v_icmp_ne (pc := 17) 43 dX12_every_17 (by decide) (by unfold iB; omega) (by unfold iB; omega) (fun c_7 => ?_) (fun c_7 => ?_)
        · skip
          exact hret (v1, l1) _ _ _ _ _ (by exact ⟨by rw [← hrr]; exact lpP_st (by show ¬ (v1 7 = 0 ∧ hrp (tp f) e (v1 5) = 38); omega), hkp⟩) rfl rfl (Nat.le_of_ble_eq_true rfl) (Nat.le_of_ble_eq_true rfl) dX12_every_43
        · skip
          refine v_aload_n (pc := 20) 0 rfl dX12_every_20 ?_
          refine v_dup (pc := 21) rfl dX12_every_21 ?_
          refine v_get (pc := 22) (v := ai (v1 5)) 5 (Or.inr ⟨0, rfl⟩) fl_12_45_12 rfl dX12_every_22 ?_
          refine v_iconst (pc := 25) dX12_every_25 ?_
          refine v_iadd (pc := 26) dX12_every_26 ?_
          refine v_put (pc := 27) 5 0 rfl fl_12_45_12 ck_12 ft_12_5 (okV_i _) (Nat.le_of_ble_eq_true rfl) (ws2 := [(h, co 12 (mO ad (nup v1 5 ((v1 5) + 1)))), ((ad 1), cn 0 936 (wrS f a l1))]) rfl dX12_every_27 ?_
          refine v_aload_n (pc := 30) 0 rfl dX12_every_30 ?_
          refine v_callV (pc := 31) [0, 1] [] [] (As := []) (rest := []) (c_factor_4 ad (nup v1 5 ((v1 5) + 1)) h f a e l1 (by first | omega | assumption) (by first | omega | assumption) (by exact hT) (by show (v1 4) = a; omega) (by show (v1 6) = e; omega) (by exact ⟨by show 0 ≤ ((v1 5) + 1); omega, by show ((v1 5) + 1) ≤ e; omega, by show (v1 7) = 0 ∨ (v1 7) = 1; omega⟩) (by show ((l1.length : Nat) : Int) ≤ ((v1 5) + 1); omega) (by show (v1 8) = _; omega)) (c := 12) rfl (Or.inr ⟨0, rfl⟩) wl_X12_78 wi_X12_factor wv_X12_X12_factor_X12_factor wk_X12_factor wz_X12 md_X12_factor rfl (Nat.le_of_ble_eq_true rfl) ⟨Nat.le_of_ble_eq_true rfl, Nat.le_of_ble_eq_true rfl, Nat.le_of_ble_eq_true rfl, Nat.le_of_ble_eq_true rfl⟩ rfl rfl rfl rfl (by decide) ro_nil dX12_every_31 (fun u hu => ?_)
          obtain ⟨v2_8, l2_9⟩ := u
          have g_10 : fac (tp f) e 4 (ps (nup v1 5 ((v1 5) + 1)) l1) = ps v2_8 l2_9 ∧ kp (nup v1 5 ((v1 5) + 1)) v2_8 := hu
          show V x cX12_every RX12 1 (rmU 18 387 0 0) [(h, co 12 (mO ad v2_8)), ((ad 1), cn 0 936 (wrS f a l2_9))] 34 [(0, ar h)] [] 0 0
          have hn_11 : PN e (ps (nup v1 5 ((v1 5) + 1)) l1) (fac (tp f) e 4 (ps (nup v1 5 ((v1 5) + 1)) l1)) := fac_k (t := tp f) 4 _ ⟨by show 0 ≤ ((v1 5) + 1); omega, by show ((v1 5) + 1) ≤ e; omega, by show (v1 7) = 0 ∨ (v1 7) = 1; omega⟩
          rw [g_10.1] at hn_11
          have hn_11a : (0 ≤ v2_8 5 ∧ v2_8 5 ≤ e ∧ (v2_8 7 = 0 ∨ v2_8 7 = 1)) ∧ ((v1 5) + 1) ≤ v2_8 5 ∧ ((v1 5) + 1) - ((l1.length : Nat) : Int) ≤ v2_8 5 - ((l2_9.length : Nat) : Int) := hn_11
          have hn_11k4 : v2_8 4 = a := (g_10.2 4 (by decide) (by decide)).trans (by show (v1 4) = a; omega)
          have hn_11k6 : v2_8 6 = e := (g_10.2 6 (by decide) (by decide)).trans (by show (v1 6) = e; omega)
          have hn_11k8 : v2_8 8 = (v1 8) := (g_10.2 8 (by decide) (by decide)).trans (by show (v1 8) = (v1 8); omega)
          refine v_aload_n (pc := 34) 0 rfl dX12_every_34 ?_
          refine v_bipush (pc := 35) dX12_every_35 (by decide) ?_
          refine v_callV (pc := 37) [1] [0] [(h, co 12 (mO ad v2_8))] (As := [ai (-2)]) (rest := []) (c_X12_emits ad v2_8 h f a e l2_9 (-2) (by first | omega | assumption) (by first | omega | assumption) (by exact hT) (by show (v2_8 4) = a; omega) (by show (v2_8 6) = e; omega) (by exact ⟨by show 0 ≤ (v2_8 5); omega, by show (v2_8 5) ≤ e; omega, by show (v2_8 7) = 0 ∨ (v2_8 7) = 1; omega⟩) (by show ((l2_9.length : Nat) : Int) ≤ 139; omega)) (c := 12) rfl (Or.inr ⟨0, rfl⟩) wl_X12_81 wi_X12_emits wv_X12_X12_emits_X12_emits wk_X12_emits wz_X12 md_X12_emits rfl (Nat.le_of_ble_eq_true rfl) ⟨Nat.le_of_ble_eq_true rfl, Nat.le_of_ble_eq_true rfl, Nat.le_of_ble_eq_true rfl, Nat.le_of_ble_eq_true rfl⟩ rfl rfl rfl rfl (by decide) (ro_cons (Or.inr ⟨0, rfl, by decide⟩) ro_nil) dX12_every_37 (fun u hu => ?_)
          obtain ⟨l2_12, rfl⟩ : ∃ z, z = u := ⟨_, rfl⟩
          have g_13 : emi (-2) (ps v2_8 l2_9) = ps v2_8 l2_12 := hu
          show V x cX12_every RX12 1 (rmU 18 387 0 0) [(h, co 12 (mO ad v2_8)), ((ad 1), cn 0 936 (wrS f a l2_12))] 40 [(0, ar h)] [] 0 0
          refine v_goto (pc := 40) 4 dX12_every_40 (by decide) ?_
          exact ih _ (by omega) v2_8 l2_12 rfl (by rw [← hrr, lpP_go (s := ps v1 l1) (by decide) (fac_k 4) he.2 ⟨hb1.1, hb1.2.1, hb1.2.2.1⟩ (by show v1 7 = 0; omega) (by show hrp (tp f) e (v1 5) = _; omega)]; congr 1; rw [show fac (tp f) e 4 (adv (ps v1 l1)) = _ from g_10.1]; exact g_13.symm) (by exact kp_tr (kp_5 hkp) g_10.2) (by have q := emi_len g_13; omega)
  exact lp4 _ v2_1 l2_2 rfl (by exact congrArg (lpP (tp f) e 38 (-2) (fac (tp f) e 4) 101) g_3.1.symm) (by exact g_3.2) (by omega)
set_option maxHeartbeats 4000000 in
set_option maxRecDepth 100000 in
theorem c_some_4 {gS : sG} (ad : Nat → Nat) (v : Nat → Int) (h : Nat) (f : Int → Int) (a : Int) (e : Int) (l : List Int) (ha : 0 ≤ a ∧ a ≤ 4) (he : 0 ≤ e ∧ e ≤ 100) (hT : ∀ j : Int, 0 ≤ j → j < e → 0 ≤ f (121 + j) ∧ f (121 + j) ≤ 127) (h4 : v 4 = a) (h6 : v 6 = e) (hB : PB e (ps v l)) (hl : (l.length : Int) ≤ v 5) (h8 : v 8 = 1) : Ct gS (S := (Nat → Int) × List Int) yX12_some cX12_some 1 none 19 407 0 0 [ar h] [(h, co 12 (mO ad v)), ((ad 1), cn 0 936 (wrS f a l))] (fun q => q ∈ ([] : aW)) (fun u => soP (tp f) e (fac (tp f) e 4) (ps v l) = ps u.1 u.2 ∧ kp v u.1) (fun u => none) (fun u => [(h, co 12 (mO ad u.1)), ((ad 1), cn 0 936 (wrS f a u.2))]) := by
  refine ct_V RX12 [(0, ar h)] (by decide) rfl (Nat.le_of_ble_eq_true rfl) rfl (fun x hgS hnm hro hret => ?_)
  subst hgS
  have hB1 : 0 ≤ v 5 := hB.1
  have hB2 : v 5 ≤ e := hB.2.1
  have hB3 : v 7 = 0 ∨ v 7 = 1 := hB.2.2
  show V x cX12_some RX12 1 (rmU 19 407 0 0) [(h, co 12 (mO ad v)), ((ad 1), cn 0 936 (wrS f a l))] 0 [(0, ar h)] [] 0 0
  refine v_aload_n (pc := 0) 0 rfl dX12_some_0 ?_
  refine v_callV (pc := 1) [0, 1] [] [] (As := []) (rest := []) (c_every_4 ad v h f a e l (by first | omega | assumption) (by first | omega | assumption) (by exact hT) (by show (v 4) = a; omega) (by show (v 6) = e; omega) (by exact ⟨by show 0 ≤ (v 5); omega, by show (v 5) ≤ e; omega, by show (v 7) = 0 ∨ (v 7) = 1; omega⟩) (by show ((l.length : Nat) : Int) ≤ (v 5); omega) (by show (v 8) = _; omega)) (c := 12) rfl (Or.inr ⟨0, rfl⟩) wl_X12_98 wi_X12_every wv_X12_X12_every_X12_every wk_X12_every wz_X12 md_X12_every rfl (Nat.le_of_ble_eq_true rfl) ⟨Nat.le_of_ble_eq_true rfl, Nat.le_of_ble_eq_true rfl, Nat.le_of_ble_eq_true rfl, Nat.le_of_ble_eq_true rfl⟩ rfl rfl rfl rfl (by decide) ro_nil dX12_some_1 (fun u hu => ?_)
  obtain ⟨v2_1, l2_2⟩ := u
  have g_3 : evP (tp f) e (fac (tp f) e 4) (ps v l) = ps v2_1 l2_2 ∧ kp v v2_1 := hu
  show V x cX12_some RX12 1 (rmU 19 407 0 0) [(h, co 12 (mO ad v2_1)), ((ad 1), cn 0 936 (wrS f a l2_2))] 4 [(0, ar h)] [] 0 0
  have hn_4 : PN e (ps v l) (evP (tp f) e (fac (tp f) e 4) (ps v l)) := evP_k (fac_k (t := tp f) 4) _ ⟨by show 0 ≤ (v 5); omega, by show (v 5) ≤ e; omega, by show (v 7) = 0 ∨ (v 7) = 1; omega⟩
  rw [g_3.1] at hn_4
  have hn_4a : (0 ≤ v2_1 5 ∧ v2_1 5 ≤ e ∧ (v2_1 7 = 0 ∨ v2_1 7 = 1)) ∧ (v 5) ≤ v2_1 5 ∧ (v 5) - ((l.length : Nat) : Int) ≤ v2_1 5 - ((l2_2.length : Nat) : Int) := hn_4
  have hn_4k4 : v2_1 4 = a := (g_3.2 4 (by decide) (by decide)).trans (by show (v 4) = a; omega)
  have hn_4k6 : v2_1 6 = e := (g_3.2 6 (by decide) (by decide)).trans (by show (v 6) = e; omega)
  have hn_4k8 : v2_1 8 = (v 8) := (g_3.2 8 (by decide) (by decide)).trans (by show (v 8) = (v 8); omega)
  have lp4 : ∀ (mm : Nat) (v1 : Nat → Int) (l1 : List Int), (e - v1 5).toNat = mm → (lpP (tp f) e 124 (-3) (evP (tp f) e (fac (tp f) e 4)) 101 (ps v1 l1) = soP (tp f) e (fac (tp f) e 4) (ps v l)) → (kp v v1) → (0 ≤ v1 5 ∧ v1 5 ≤ e ∧ (v1 7 = 0 ∨ v1 7 = 1) ∧ (l1.length : Int) ≤ v1 5) → V x cX12_some RX12 1 (rmU 19 407 0 0) [(h, co 12 (mO ad v1)), ((ad 1), cn 0 936 (wrS f a l1))] 4 [(0, ar h)] [] 0 0 := by
    intro mm
    induction mm using Nat.strongRecOn with
    | _ mm ih =>
      intro v1 l1 hmm hrr hkp hb1
      have hk4 : v1 4 = a := (hkp 4 (by decide) (by decide)).trans h4
      have hk6 : v1 6 = e := (hkp 6 (by decide) (by decide)).trans h6
      have hk8 : v1 8 = v 8 := hkp 8 (by decide) (by decide)
      refine v_aload_n (pc := 4) 0 rfl dX12_some_4 ?_
      refine v_get (pc := 5) (v := ai (v1 7)) 7 (Or.inr ⟨0, rfl⟩) fl_12_51_12 rfl dX12_some_5 ?_
      refine v_if_ne (pc := 8) 43 dX12_some_8 (by decide) (by unfold iB; omega) (fun c_5 => ?_) (fun c_5 => ?_)
      · skip
        exact hret (v1, l1) _ _ _ _ _ (by exact ⟨by rw [← hrr]; exact lpP_st (by show ¬ (v1 7 = 0 ∧ hrp (tp f) e (v1 5) = 124); omega), hkp⟩) rfl rfl (Nat.le_of_ble_eq_true rfl) (Nat.le_of_ble_eq_true rfl) dX12_some_43
      · skip
        refine v_aload_n (pc := 11) 0 rfl dX12_some_11 ?_
        refine v_callV (pc := 12) [] [0, 1] [(h, co 12 (mO ad v1)), ((ad 1), cn 0 936 (wrS f a l1))] (As := []) (rest := []) (c_X12_here ad v1 h f a e l1 (v1 5) (by first | omega | assumption) (by first | omega | assumption) (by show (v1 6) = e; omega) (by rfl) (by first | omega | assumption)) (c := 12) rfl (Or.inr ⟨0, rfl⟩) wl_X12_55 wi_X12_here wv_X12_X12_here_X12_here wk_X12_here wz_X12 md_X12_here rfl (Nat.le_of_ble_eq_true rfl) ⟨Nat.le_of_ble_eq_true rfl, Nat.le_of_ble_eq_true rfl, Nat.le_of_ble_eq_true rfl, Nat.le_of_ble_eq_true rfl⟩ rfl rfl rfl rfl (by decide) (ro_cons (Or.inr ⟨0, rfl, by decide⟩) (ro_cons (Or.inr ⟨1, rfl, by decide⟩) ro_nil)) dX12_some_12 (fun u hu => ?_)
        show V x cX12_some RX12 1 (rmU 19 407 0 0) [(h, co 12 (mO ad v1)), ((ad 1), cn 0 936 (wrS f a l1))] 15 [(0, ar h)] [ai (hrp (tp f) e (v1 5))] 0 0
        have hb_6 := hrp_b (p := (v1 5)) hT (by omega)
        refine v_bipush (pc := 15) dX12_some_15 (by decide) ?_
        refine v_icmp_ne (pc := 17) 43 dX12_some_17 (by decide) (by unfold iB; omega) (by unfold iB; omega) (fun c_7 => ?_) (fun c_7 => ?_)
        · skip
          exact hret (v1, l1) _ _ _ _ _ (by exact ⟨by rw [← hrr]; exact lpP_st (by show ¬ (v1 7 = 0 ∧ hrp (tp f) e (v1 5) = 124); omega), hkp⟩) rfl rfl (Nat.le_of_ble_eq_true rfl) (Nat.le_of_ble_eq_true rfl) dX12_some_43
        · skip
          refine v_aload_n (pc := 20) 0 rfl dX12_some_20 ?_
          refine v_dup (pc := 21) rfl dX12_some_21 ?_
          refine v_get (pc := 22) (v := ai (v1 5)) 5 (Or.inr ⟨0, rfl⟩) fl_12_45_12 rfl dX12_some_22 ?_
          refine v_iconst (pc := 25) dX12_some_25 ?_
          refine v_iadd (pc := 26) dX12_some_26 ?_
          refine v_put (pc := 27) 5 0 rfl fl_12_45_12 ck_12 ft_12_5 (okV_i _) (Nat.le_of_ble_eq_true rfl) (ws2 := [(h, co 12 (mO ad (nup v1 5 ((v1 5) + 1)))), ((ad 1), cn 0 936 (wrS f a l1))]) rfl dX12_some_27 ?_
          refine v_aload_n (pc := 30) 0 rfl dX12_some_30 ?_
          refine v_callV (pc := 31) [0, 1] [] [] (As := []) (rest := []) (c_every_4 ad (nup v1 5 ((v1 5) + 1)) h f a e l1 (by first | omega | assumption) (by first | omega | assumption) (by exact hT) (by show (v1 4) = a; omega) (by show (v1 6) = e; omega) (by exact ⟨by show 0 ≤ ((v1 5) + 1); omega, by show ((v1 5) + 1) ≤ e; omega, by show (v1 7) = 0 ∨ (v1 7) = 1; omega⟩) (by show ((l1.length : Nat) : Int) ≤ ((v1 5) + 1); omega) (by show (v1 8) = _; omega)) (c := 12) rfl (Or.inr ⟨0, rfl⟩) wl_X12_98 wi_X12_every wv_X12_X12_every_X12_every wk_X12_every wz_X12 md_X12_every rfl (Nat.le_of_ble_eq_true rfl) ⟨Nat.le_of_ble_eq_true rfl, Nat.le_of_ble_eq_true rfl, Nat.le_of_ble_eq_true rfl, Nat.le_of_ble_eq_true rfl⟩ rfl rfl rfl rfl (by decide) ro_nil dX12_some_31 (fun u hu => ?_)
          obtain ⟨v2_8, l2_9⟩ := u
          have g_10 : evP (tp f) e (fac (tp f) e 4) (ps (nup v1 5 ((v1 5) + 1)) l1) = ps v2_8 l2_9 ∧ kp (nup v1 5 ((v1 5) + 1)) v2_8 := hu
          show V x cX12_some RX12 1 (rmU 19 407 0 0) [(h, co 12 (mO ad v2_8)), ((ad 1), cn 0 936 (wrS f a l2_9))] 34 [(0, ar h)] [] 0 0
          have hn_11 : PN e (ps (nup v1 5 ((v1 5) + 1)) l1) (evP (tp f) e (fac (tp f) e 4) (ps (nup v1 5 ((v1 5) + 1)) l1)) := evP_k (fac_k (t := tp f) 4) _ ⟨by show 0 ≤ ((v1 5) + 1); omega, by show ((v1 5) + 1) ≤ e; omega, by show (v1 7) = 0 ∨ (v1 7) = 1; omega⟩
          rw [g_10.1] at hn_11
          have hn_11a : (0 ≤ v2_8 5 ∧ v2_8 5 ≤ e ∧ (v2_8 7 = 0 ∨ v2_8 7 = 1)) ∧ ((v1 5) + 1) ≤ v2_8 5 ∧ ((v1 5) + 1) - ((l1.length : Nat) : Int) ≤ v2_8 5 - ((l2_9.length : Nat) : Int) := hn_11
          have hn_11k4 : v2_8 4 = a := (g_10.2 4 (by decide) (by decide)).trans (by show (v1 4) = a; omega)
          have hn_11k6 : v2_8 6 = e := (g_10.2 6 (by decide) (by decide)).trans (by show (v1 6) = e; omega)
          have hn_11k8 : v2_8 8 = (v1 8) := (g_10.2 8 (by decide) (by decide)).trans (by show (v1 8) = (v1 8); omega)
          refine v_aload_n (pc := 34) 0 rfl dX12_some_34 ?_
          refine v_bipush (pc := 35) dX12_some_35 (by decide) ?_
          refine v_callV (pc := 37) [1] [0] [(h, co 12 (mO ad v2_8))] (As := [ai (-3)]) (rest := []) (c_X12_emits ad v2_8 h f a e l2_9 (-3) (by first | omega | assumption) (by first | omega | assumption) (by exact hT) (by show (v2_8 4) = a; omega) (by show (v2_8 6) = e; omega) (by exact ⟨by show 0 ≤ (v2_8 5); omega, by show (v2_8 5) ≤ e; omega, by show (v2_8 7) = 0 ∨ (v2_8 7) = 1; omega⟩) (by show ((l2_9.length : Nat) : Int) ≤ 139; omega)) (c := 12) rfl (Or.inr ⟨0, rfl⟩) wl_X12_81 wi_X12_emits wv_X12_X12_emits_X12_emits wk_X12_emits wz_X12 md_X12_emits rfl (Nat.le_of_ble_eq_true rfl) ⟨Nat.le_of_ble_eq_true rfl, Nat.le_of_ble_eq_true rfl, Nat.le_of_ble_eq_true rfl, Nat.le_of_ble_eq_true rfl⟩ rfl rfl rfl rfl (by decide) (ro_cons (Or.inr ⟨0, rfl, by decide⟩) ro_nil) dX12_some_37 (fun u hu => ?_)
          obtain ⟨l2_12, rfl⟩ : ∃ z, z = u := ⟨_, rfl⟩
          have g_13 : emi (-3) (ps v2_8 l2_9) = ps v2_8 l2_12 := hu
          show V x cX12_some RX12 1 (rmU 19 407 0 0) [(h, co 12 (mO ad v2_8)), ((ad 1), cn 0 936 (wrS f a l2_12))] 40 [(0, ar h)] [] 0 0
          refine v_goto (pc := 40) 4 dX12_some_40 (by decide) ?_
          exact ih _ (by omega) v2_8 l2_12 rfl (by rw [← hrr, lpP_go (s := ps v1 l1) (by decide) (evP_k (fac_k 4)) he.2 ⟨hb1.1, hb1.2.1, hb1.2.2.1⟩ (by show v1 7 = 0; omega) (by show hrp (tp f) e (v1 5) = _; omega)]; congr 1; rw [show evP (tp f) e (fac (tp f) e 4) (adv (ps v1 l1)) = _ from g_10.1]; exact g_13.symm) (by exact kp_tr (kp_5 hkp) g_10.2) (by have q := emi_len g_13; omega)
  exact lp4 _ v2_1 l2_2 rfl (by exact congrArg (lpP (tp f) e 124 (-3) (evP (tp f) e (fac (tp f) e 4)) 101) g_3.1.symm) (by exact g_3.2) (by omega)
set_option maxHeartbeats 4000000 in
set_option maxRecDepth 100000 in
theorem c_factor_5 {gS : sG} (ad : Nat → Nat) (v : Nat → Int) (h : Nat) (f : Int → Int) (a : Int) (e : Int) (l : List Int) (ha : 0 ≤ a ∧ a ≤ 4) (he : 0 ≤ e ∧ e ≤ 100) (hT : ∀ j : Int, 0 ≤ j → j < e → 0 ≤ f (121 + j) ∧ f (121 + j) ≤ 127) (h4 : v 4 = a) (h6 : v 6 = e) (hB : PB e (ps v l)) (hl : (l.length : Int) ≤ v 5) (h8 : v 8 = 0) : Ct gS (S := (Nat → Int) × List Int) yX12_factor cX12_factor 5 none 20 427 0 0 [ar h] [(h, co 12 (mO ad v)), ((ad 1), cn 0 936 (wrS f a l))] (fun q => q ∈ ([] : aW)) (fun u => fac (tp f) e 5 (ps v l) = ps u.1 u.2 ∧ kp v u.1) (fun u => none) (fun u => [(h, co 12 (mO ad u.1)), ((ad 1), cn 0 936 (wrS f a u.2))]) := by
  refine ct_V RX12 [(0, ar h)] (by decide) rfl (Nat.le_of_ble_eq_true rfl) rfl (fun x hgS hnm hro hret => ?_)
  subst hgS
  have hB1 : 0 ≤ v 5 := hB.1
  have hB2 : v 5 ≤ e := hB.2.1
  have hB3 : v 7 = 0 ∨ v 7 = 1 := hB.2.2
  show V x cX12_factor RX12 5 (rmU 20 427 0 0) [(h, co 12 (mO ad v)), ((ad 1), cn 0 936 (wrS f a l))] 0 [(0, ar h)] [] 0 0
  refine v_aload_n (pc := 0) 0 rfl dX12_factor_0 ?_
  refine v_get (pc := 1) (v := ai (v 7)) 7 (Or.inr ⟨0, rfl⟩) fl_12_51_12 rfl dX12_factor_1 ?_
  refine v_if_eq (pc := 4) 8 dX12_factor_4 (by decide) (by unfold iB; omega) (fun c_1 => ?_) (fun c_1 => ?_)
  · skip
    refine v_aload_n (pc := 8) 0 rfl dX12_factor_8 ?_
    refine v_callV (pc := 9) [] [0, 1] [(h, co 12 (mO ad v)), ((ad 1), cn 0 936 (wrS f a l))] (As := []) (rest := []) (c_X12_here ad v h f a e l (v 5) (by first | omega | assumption) (by first | omega | assumption) (by show (v 6) = e; omega) (by rfl) (by first | omega | assumption)) (c := 12) rfl (Or.inr ⟨0, rfl⟩) wl_X12_55 wi_X12_here wv_X12_X12_here_X12_here wk_X12_here wz_X12 md_X12_here rfl (Nat.le_of_ble_eq_true rfl) ⟨Nat.le_of_ble_eq_true rfl, Nat.le_of_ble_eq_true rfl, Nat.le_of_ble_eq_true rfl, Nat.le_of_ble_eq_true rfl⟩ rfl rfl rfl rfl (by decide) (ro_cons (Or.inr ⟨0, rfl, by decide⟩) (ro_cons (Or.inr ⟨1, rfl, by decide⟩) ro_nil)) dX12_factor_9 (fun u hu => ?_)
    show V x cX12_factor RX12 5 (rmU 20 427 0 0) [(h, co 12 (mO ad v)), ((ad 1), cn 0 936 (wrS f a l))] 12 [(0, ar h)] [ai (hrp (tp f) e (v 5))] 0 0
    have hb_2 := hrp_b (p := (v 5)) hT (by omega)
    refine v_istore_n (pc := 12) (L2 := [(1, ai (hrp (tp f) e (v 5))), (0, ar h)]) rfl (by decide) dX12_factor_12 ?_
    refine v_iload_n (pc := 13) 0 rfl dX12_factor_13 ?_
    refine v_bipush (pc := 14) dX12_factor_14 (by decide) ?_
    refine v_icmp_eq (pc := 16) 25 dX12_factor_16 (by decide) (by unfold iB; omega) (by unfold iB; omega) (fun c_3 => ?_) (fun c_3 => ?_)
    · skip
      refine v_aload_n (pc := 25) 1 rfl dX12_factor_25 ?_
      refine v_aload_n (pc := 26) 1 rfl dX12_factor_26 ?_
      refine v_get (pc := 27) (v := ai (v 8)) 8 (Or.inr ⟨0, rfl⟩) fl_12_75_12 rfl dX12_factor_27 ?_
      refine v_iconst (pc := 30) dX12_factor_30 ?_
      refine v_icmp_ne (pc := 31) 38 dX12_factor_31 (by decide) (by unfold iB; omega) (by unfold iB; omega) (fun c_4 => ?_) (fun c_4 => ?_)
      · skip
        refine v_iconst (pc := 38) dX12_factor_38 ?_
        refine v_put (pc := 39) 7 0 rfl fl_12_51_12 ck_12 ft_12_7 okV_z0 (Nat.le_of_ble_eq_true rfl) (ws2 := [(h, co 12 (mO ad (nup v 7 0))), ((ad 1), cn 0 936 (wrS f a l))]) rfl dX12_factor_39 ?_
        refine v_aload_n (pc := 42) 1 rfl dX12_factor_42 ?_
        refine v_dup (pc := 43) rfl dX12_factor_43 ?_
        refine v_get (pc := 44) (v := ai (v 8)) 8 (Or.inr ⟨0, rfl⟩) fl_12_75_12 rfl dX12_factor_44 ?_
        refine v_iconst (pc := 47) dX12_factor_47 ?_
        refine v_iadd (pc := 48) dX12_factor_48 ?_
        refine v_put (pc := 49) 8 0 rfl fl_12_75_12 ck_12 ft_12_8 (okV_i _) (Nat.le_of_ble_eq_true rfl) (ws2 := [(h, co 12 (mO ad (nup (nup v 7 0) 8 ((v 8) + 1)))), ((ad 1), cn 0 936 (wrS f a l))]) rfl dX12_factor_49 ?_
        refine v_aload_n (pc := 52) 1 rfl dX12_factor_52 ?_
        refine v_dup (pc := 53) rfl dX12_factor_53 ?_
        refine v_get (pc := 54) (v := ai (v 5)) 5 (Or.inr ⟨0, rfl⟩) fl_12_45_12 rfl dX12_factor_54 ?_
        refine v_aload_n (pc := 57) 1 rfl dX12_factor_57 ?_
        refine v_get (pc := 58) (v := ai 0) 7 (Or.inr ⟨0, rfl⟩) fl_12_51_12 rfl dX12_factor_58 ?_
        refine v_if_eq (pc := 61) 68 dX12_factor_61 (by decide) (by unfold iB; omega) (fun c_5 => ?_) (fun c_5 => by exfalso; omega)
        refine v_iconst (pc := 68) dX12_factor_68 ?_
        refine v_iadd (pc := 69) dX12_factor_69 ?_
        refine v_put (pc := 70) 5 0 rfl fl_12_45_12 ck_12 ft_12_5 (okV_i _) (Nat.le_of_ble_eq_true rfl) (ws2 := [(h, co 12 (mO ad (nup (nup (nup v 7 0) 8 ((v 8) + 1)) 5 ((v 5) + 1)))), ((ad 1), cn 0 936 (wrS f a l))]) rfl dX12_factor_70 ?_
        refine v_iload_n (pc := 73) 0 rfl dX12_factor_73 ?_
        refine v_bipush (pc := 74) dX12_factor_74 (by decide) ?_
        refine v_icmp_ne (pc := 76) 91 dX12_factor_76 (by decide) (by unfold iB; omega) (by unfold iB; omega) (fun c_6 => ?_) (fun c_6 => ?_)
        · skip
          exfalso; omega
        · skip
          refine v_aload_n (pc := 79) 1 rfl dX12_factor_79 ?_
          refine v_callV (pc := 80) [0, 1] [] [] (As := []) (rest := []) (c_factor_4 ad (nup (nup (nup v 7 0) 8 ((v 8) + 1)) 5 ((v 5) + 1)) h f a e l (by first | omega | assumption) (by first | omega | assumption) (by exact hT) (by show (v 4) = a; omega) (by show (v 6) = e; omega) (by exact ⟨by show 0 ≤ ((v 5) + 1); omega, by show ((v 5) + 1) ≤ e; omega, by show 0 = 0 ∨ 0 = 1; omega⟩) (by show ((l.length : Nat) : Int) ≤ ((v 5) + 1); omega) (by show ((v 8) + 1) = _; omega)) (c := 12) rfl (Or.inr ⟨0, rfl⟩) wl_X12_78 wi_X12_factor wv_X12_X12_factor_X12_factor wk_X12_factor wz_X12 md_X12_factor rfl (Nat.le_of_ble_eq_true rfl) ⟨Nat.le_of_ble_eq_true rfl, Nat.le_of_ble_eq_true rfl, Nat.le_of_ble_eq_true rfl, Nat.le_of_ble_eq_true rfl⟩ rfl rfl rfl rfl (by decide) ro_nil dX12_factor_80 (fun u hu => ?_)
          obtain ⟨v2_7, l2_8⟩ := u
          have g_9 : fac (tp f) e 4 (ps (nup (nup (nup v 7 0) 8 ((v 8) + 1)) 5 ((v 5) + 1)) l) = ps v2_7 l2_8 ∧ kp (nup (nup (nup v 7 0) 8 ((v 8) + 1)) 5 ((v 5) + 1)) v2_7 := hu
          show V x cX12_factor RX12 5 (rmU 20 427 0 0) [(h, co 12 (mO ad v2_7)), ((ad 1), cn 0 936 (wrS f a l2_8))] 83 [(1, ai (hrp (tp f) e (v 5))), (0, ar h)] [] 0 0
          have hn_10 : PN e (ps (nup (nup (nup v 7 0) 8 ((v 8) + 1)) 5 ((v 5) + 1)) l) (fac (tp f) e 4 (ps (nup (nup (nup v 7 0) 8 ((v 8) + 1)) 5 ((v 5) + 1)) l)) := fac_k (t := tp f) 4 _ ⟨by show 0 ≤ ((v 5) + 1); omega, by show ((v 5) + 1) ≤ e; omega, by show 0 = 0 ∨ 0 = 1; omega⟩
          rw [g_9.1] at hn_10
          have hn_10a : (0 ≤ v2_7 5 ∧ v2_7 5 ≤ e ∧ (v2_7 7 = 0 ∨ v2_7 7 = 1)) ∧ ((v 5) + 1) ≤ v2_7 5 ∧ ((v 5) + 1) - ((l.length : Nat) : Int) ≤ v2_7 5 - ((l2_8.length : Nat) : Int) := hn_10
          have hn_10k4 : v2_7 4 = a := (g_9.2 4 (by decide) (by decide)).trans (by show (v 4) = a; omega)
          have hn_10k6 : v2_7 6 = e := (g_9.2 6 (by decide) (by decide)).trans (by show (v 6) = e; omega)
          have hn_10k8 : v2_7 8 = ((v 8) + 1) := (g_9.2 8 (by decide) (by decide)).trans (by show ((v 8) + 1) = ((v 8) + 1); omega)
          refine v_aload_n (pc := 83) 1 rfl dX12_factor_83 ?_
          refine v_iconst (pc := 84) dX12_factor_84 ?_
          refine v_callV (pc := 85) [1] [0] [(h, co 12 (mO ad v2_7))] (As := [ai (-1)]) (rest := []) (c_X12_emits ad v2_7 h f a e l2_8 (-1) (by first | omega | assumption) (by first | omega | assumption) (by exact hT) (by show (v2_7 4) = a; omega) (by show (v2_7 6) = e; omega) (by exact ⟨by show 0 ≤ (v2_7 5); omega, by show (v2_7 5) ≤ e; omega, by show (v2_7 7) = 0 ∨ (v2_7 7) = 1; omega⟩) (by show ((l2_8.length : Nat) : Int) ≤ 139; omega)) (c := 12) rfl (Or.inr ⟨0, rfl⟩) wl_X12_81 wi_X12_emits wv_X12_X12_emits_X12_emits wk_X12_emits wz_X12 md_X12_emits rfl (Nat.le_of_ble_eq_true rfl) ⟨Nat.le_of_ble_eq_true rfl, Nat.le_of_ble_eq_true rfl, Nat.le_of_ble_eq_true rfl, Nat.le_of_ble_eq_true rfl⟩ rfl rfl rfl rfl (by decide) (ro_cons (Or.inr ⟨0, rfl, by decide⟩) ro_nil) dX12_factor_85 (fun u hu => ?_)
          obtain ⟨l2_11, rfl⟩ : ∃ z, z = u := ⟨_, rfl⟩
          have g_12 : emi (-1) (ps v2_7 l2_8) = ps v2_7 l2_11 := hu
          show V x cX12_factor RX12 5 (rmU 20 427 0 0) [(h, co 12 (mO ad v2_7)), ((ad 1), cn 0 936 (wrS f a l2_11))] 88 [(1, ai (hrp (tp f) e (v 5))), (0, ar h)] [] 0 0
          refine v_goto (pc := 88) 101 dX12_factor_88 (by decide) ?_
          refine v_aload_n (pc := 101) 1 rfl dX12_factor_101 ?_
          refine v_dup (pc := 102) rfl dX12_factor_102 ?_
          refine v_get (pc := 103) (v := ai (v2_7 8)) 8 (Or.inr ⟨0, rfl⟩) fl_12_75_12 rfl dX12_factor_103 ?_
          refine v_iconst (pc := 106) dX12_factor_106 ?_
          refine v_isub (pc := 107) dX12_factor_107 ?_
          refine v_put (pc := 108) 8 0 rfl fl_12_75_12 ck_12 ft_12_8 (okV_i _) (Nat.le_of_ble_eq_true rfl) (ws2 := [(h, co 12 (mO ad (nup v2_7 8 ((v2_7 8) - 1)))), ((ad 1), cn 0 936 (wrS f a l2_11))]) rfl dX12_factor_108 ?_
          exact hret ((nup v2_7 8 ((v2_7 8) - 1)), l2_11) _ _ _ _ _ (by exact ⟨fac_not (by omega) (by omega) g_9.1 g_12 rfl rfl, kp_8 g_9.2⟩) rfl rfl (Nat.le_of_ble_eq_true rfl) (Nat.le_of_ble_eq_true rfl) dX12_factor_111
      · skip
        exfalso; omega
    · skip
      refine v_iload_n (pc := 19) 0 rfl dX12_factor_19 ?_
      refine v_bipush (pc := 20) dX12_factor_20 (by decide) ?_
      refine v_icmp_ne (pc := 22) 112 dX12_factor_22 (by decide) (by unfold iB; omega) (by unfold iB; omega) (fun c_13 => ?_) (fun c_13 => ?_)
      · skip
        refine v_aload_n (pc := 112) 1 rfl dX12_factor_112 ?_
        refine v_ldcS (pc := 113) (q := ("MatFlipModel", 87, "pkngsy", 7)) (List.mem_of_getElem? (i := 12) rfl) rfl dX12_factor_113 ?_
        refine v_callV (pc := 115) [0] [1] [((ad 1), cn 0 936 (wrS f a l))] (As := [ar (lK (xg x) 7)]) (rest := []) (c_X12_among ad v h f a e l 7 (by first | omega | assumption) (by first | omega | assumption) (by exact hT) (by show (v 4) = a; omega) (by show (v 6) = e; omega) (by exact ⟨by show 0 ≤ (v 5); omega, by show (v 5) ≤ e; omega, by show (v 7) = 0 ∨ (v 7) = 1; omega⟩) (by first | omega | assumption)) (c := 12) rfl (Or.inr ⟨0, rfl⟩) wl_X12_89 wi_X12_among wv_X12_X12_among_X12_among wk_X12_among wz_X12 md_X12_among rfl (Nat.le_of_ble_eq_true rfl) ⟨Nat.le_of_ble_eq_true rfl, Nat.le_of_ble_eq_true rfl, Nat.le_of_ble_eq_true rfl, Nat.le_of_ble_eq_true rfl⟩ rfl rfl rfl rfl (by decide) (ro_cons (Or.inr ⟨1, rfl, by decide⟩) ro_nil) dX12_factor_115 (fun u hu => ?_)
        obtain ⟨v2_14, rfl⟩ : ∃ z, z = u := ⟨_, rfl⟩
        have g_15 : (am (tp f) e 7 (ps v l)).2 = ps v2_14 l ∧ kp v v2_14 := hu
        show V x cX12_factor RX12 5 (rmU 20 427 0 0) [((ad 1), cn 0 936 (wrS f a l)), (h, co 12 (mO ad v2_14))] 118 [(1, ai (hrp (tp f) e (v 5))), (0, ar h)] [ai ((am (tp f) e 7 (ps v l)).1)] 0 0
        obtain ⟨hb7a, hb7b, -, -⟩ := am_b (t := tp f) (e := e) (i := 7) (s := ps v l) (by decide)
        have hl7 := len_b (i := 7) (by decide)
        have h77 : v2_14 7 = v 7 := by have q := am_7 (t := tp f) (e := e) (i := 7) (s := ps v l); rw [g_15.1] at q; exact congrArg Prod.fst q
        have hn_16 : PN e (ps v l) ((am (tp f) e 7 (ps v l)).2) := am_k (t := tp f) (by omega) _ ⟨by show 0 ≤ (v 5); omega, by show (v 5) ≤ e; omega, by show (v 7) = 0 ∨ (v 7) = 1; omega⟩
        rw [g_15.1] at hn_16
        have hn_16a : (0 ≤ v2_14 5 ∧ v2_14 5 ≤ e ∧ (v2_14 7 = 0 ∨ v2_14 7 = 1)) ∧ (v 5) ≤ v2_14 5 ∧ (v 5) - ((l.length : Nat) : Int) ≤ v2_14 5 - ((l.length : Nat) : Int) := hn_16
        have hn_16k4 : v2_14 4 = a := (g_15.2 4 (by decide) (by decide)).trans (by show (v 4) = a; omega)
        have hn_16k6 : v2_14 6 = e := (g_15.2 6 (by decide) (by decide)).trans (by show (v 6) = e; omega)
        have hn_16k8 : v2_14 8 = (v 8) := (g_15.2 8 (by decide) (by decide)).trans (by show (v 8) = (v 8); omega)
        refine v_istore_n (pc := 118) (L2 := [(2, ai ((am (tp f) e 7 (ps v l)).1)), (1, ai (hrp (tp f) e (v 5))), (0, ar h)]) rfl (by decide) dX12_factor_118 ?_
        refine v_aload_n (pc := 119) 2 rfl dX12_factor_119 ?_
        refine v_iload_n (pc := 120) 0 rfl dX12_factor_120 ?_
        refine v_iconst (pc := 121) dX12_factor_121 ?_
        refine v_icmp_ne (pc := 122) 129 dX12_factor_122 (by decide) (by unfold iB; omega) (by unfold iB; omega) (fun c_17 => ?_) (fun c_17 => ?_)
        · skip
          refine v_iconst (pc := 129) dX12_factor_129 ?_
          refine v_put (pc := 130) 7 1 rfl fl_12_51_12 ck_12 ft_12_7 okV_z0 (Nat.le_of_ble_eq_true rfl) (ws2 := [((ad 1), cn 0 936 (wrS f a l)), (h, co 12 (mO ad (nup v2_14 7 0)))]) rfl dX12_factor_130 ?_
          refine v_aload_n (pc := 133) 2 rfl dX12_factor_133 ?_
          refine v_get (pc := 134) (v := ai 0) 7 (Or.inr ⟨1, rfl⟩) fl_12_51_12 rfl dX12_factor_134 ?_
          refine v_if_eq (pc := 137) 144 dX12_factor_137 (by decide) (by unfold iB; omega) (fun c_18 => ?_) (fun c_18 => by exfalso; omega)
          refine v_aload_n (pc := 144) 2 rfl dX12_factor_144 ?_
          refine v_ldcS (pc := 145) (q := ("MatFlipModel", 93, "<=>", 8)) (List.mem_of_getElem? (i := 13) rfl) rfl dX12_factor_145 ?_
          refine v_callV (pc := 147) [1] [0] [((ad 1), cn 0 936 (wrS f a l))] (As := [ar (lK (xg x) 8)]) (rest := []) (c_X12_among ad (nup v2_14 7 0) h f a e l 8 (by first | omega | assumption) (by first | omega | assumption) (by exact hT) (by show (v2_14 4) = a; omega) (by show (v2_14 6) = e; omega) (by exact ⟨by show 0 ≤ (v2_14 5); omega, by show (v2_14 5) ≤ e; omega, by show 0 = 0 ∨ 0 = 1; omega⟩) (by first | omega | assumption)) (c := 12) rfl (Or.inr ⟨1, rfl⟩) wl_X12_89 wi_X12_among wv_X12_X12_among_X12_among wk_X12_among wz_X12 md_X12_among rfl (Nat.le_of_ble_eq_true rfl) ⟨Nat.le_of_ble_eq_true rfl, Nat.le_of_ble_eq_true rfl, Nat.le_of_ble_eq_true rfl, Nat.le_of_ble_eq_true rfl⟩ rfl rfl rfl rfl (by decide) (ro_cons (Or.inr ⟨0, rfl, by decide⟩) ro_nil) dX12_factor_147 (fun u hu => ?_)
          obtain ⟨v2_19, rfl⟩ : ∃ z, z = u := ⟨_, rfl⟩
          have g_20 : (am (tp f) e 8 (ps (nup v2_14 7 0) l)).2 = ps v2_19 l ∧ kp (nup v2_14 7 0) v2_19 := hu
          show V x cX12_factor RX12 5 (rmU 20 427 0 0) [((ad 1), cn 0 936 (wrS f a l)), (h, co 12 (mO ad v2_19))] 150 [(2, ai ((am (tp f) e 7 (ps v l)).1)), (1, ai (hrp (tp f) e (v 5))), (0, ar h)] [ai ((am (tp f) e 8 (ps (nup v2_14 7 0) l)).1)] 0 0
          obtain ⟨hb8a, hb8b, -, -⟩ := am_b (t := tp f) (e := e) (i := 8) (s := (ps (nup v2_14 7 0) l)) (by decide)
          have hl8 := len_b (i := 8) (by decide)
          have h87 : v2_19 7 = 0 := by have q := am_7 (t := tp f) (e := e) (i := 8) (s := (ps (nup v2_14 7 0) l)); rw [g_20.1] at q; exact congrArg Prod.fst q
          have hn_21 : PN e (ps (nup v2_14 7 0) l) ((am (tp f) e 8 (ps (nup v2_14 7 0) l)).2) := am_k (t := tp f) (by omega) _ ⟨by show 0 ≤ (v2_14 5); omega, by show (v2_14 5) ≤ e; omega, by show 0 = 0 ∨ 0 = 1; omega⟩
          rw [g_20.1] at hn_21
          have hn_21a : (0 ≤ v2_19 5 ∧ v2_19 5 ≤ e ∧ (v2_19 7 = 0 ∨ v2_19 7 = 1)) ∧ (v2_14 5) ≤ v2_19 5 ∧ (v2_14 5) - ((l.length : Nat) : Int) ≤ v2_19 5 - ((l.length : Nat) : Int) := hn_21
          have hn_21k4 : v2_19 4 = a := (g_20.2 4 (by decide) (by decide)).trans (by show (v2_14 4) = a; omega)
          have hn_21k6 : v2_19 6 = e := (g_20.2 6 (by decide) (by decide)).trans (by show (v2_14 6) = e; omega)
          have hn_21k8 : v2_19 8 = (v2_14 8) := (g_20.2 8 (by decide) (by decide)).trans (by show (v2_14 8) = (v2_14 8); omega)
          refine v_istore_n (pc := 150) (L2 := [(3, ai ((am (tp f) e 8 (ps (nup v2_14 7 0) l)).1)), (2, ai ((am (tp f) e 7 (ps v l)).1)), (1, ai (hrp (tp f) e (v 5))), (0, ar h)]) rfl (by decide) dX12_factor_150 ?_
          refine v_aload_n (pc := 151) 3 rfl dX12_factor_151 ?_
          refine v_aload_n (pc := 152) 3 rfl dX12_factor_152 ?_
          refine v_get (pc := 153) (v := ai (v2_19 7)) 7 (Or.inr ⟨1, rfl⟩) fl_12_51_12 rfl dX12_factor_153 ?_
          refine v_if_ne (pc := 156) 164 dX12_factor_156 (by decide) (by unfold iB; omega) (fun c_22 => ?_) (fun c_22 => ?_)
          · skip
            exfalso; omega
          · skip
            refine v_iload_n (pc := 159) 0 rfl dX12_factor_159 ?_
            refine v_iconst (pc := 160) dX12_factor_160 ?_
            refine v_icmp_ne (pc := 161) 168 dX12_factor_161 (by decide) (by unfold iB; omega) (by unfold iB; omega) (fun c_23 => ?_) (fun c_23 => ?_)
            · skip
              refine v_iconst (pc := 168) dX12_factor_168 ?_
              refine v_put (pc := 169) 7 1 rfl fl_12_51_12 ck_12 ft_12_7 okV_z0 (Nat.le_of_ble_eq_true rfl) (ws2 := [((ad 1), cn 0 936 (wrS f a l)), (h, co 12 (mO ad (nup v2_19 7 0)))]) rfl dX12_factor_169 ?_
              refine v_aload_n (pc := 172) 3 rfl dX12_factor_172 ?_
              refine v_callV (pc := 173) [1] [0] [((ad 1), cn 0 936 (wrS f a l))] (As := []) (rest := []) (c_X12_figures ad (nup v2_19 7 0) h f a e l (by first | omega | assumption) (by first | omega | assumption) (by exact hT) (by show (v2_19 4) = a; omega) (by show (v2_19 6) = e; omega) (by exact ⟨by show 0 ≤ (v2_19 5); omega, by show (v2_19 5) ≤ e; omega, by show 0 = 0 ∨ 0 = 1; omega⟩)) (c := 12) rfl (Or.inr ⟨1, rfl⟩) wl_X12_95 wi_X12_figures wv_X12_X12_figures_X12_figures wk_X12_figures wz_X12 md_X12_figures rfl (Nat.le_of_ble_eq_true rfl) ⟨Nat.le_of_ble_eq_true rfl, Nat.le_of_ble_eq_true rfl, Nat.le_of_ble_eq_true rfl, Nat.le_of_ble_eq_true rfl⟩ rfl rfl rfl rfl (by decide) (ro_cons (Or.inr ⟨0, rfl, by decide⟩) ro_nil) dX12_factor_173 (fun u hu => ?_)
              obtain ⟨v2_24, rfl⟩ : ∃ z, z = u := ⟨_, rfl⟩
              have g_25 : (fig (tp f) e (ps (nup v2_19 7 0) l)).2 = ps v2_24 l ∧ kp (nup v2_19 7 0) v2_24 := hu
              show V x cX12_factor RX12 5 (rmU 20 427 0 0) [((ad 1), cn 0 936 (wrS f a l)), (h, co 12 (mO ad v2_24))] 176 [(3, ai ((am (tp f) e 8 (ps (nup v2_14 7 0) l)).1)), (2, ai ((am (tp f) e 7 (ps v l)).1)), (1, ai (hrp (tp f) e (v 5))), (0, ar h)] [ai ((fig (tp f) e (ps (nup v2_19 7 0) l)).1)] 0 0
              have hn_26 : PN e (ps (nup v2_19 7 0) l) ((fig (tp f) e (ps (nup v2_19 7 0) l)).2) := fig_k (t := tp f) _ ⟨by show 0 ≤ (v2_19 5); omega, by show (v2_19 5) ≤ e; omega, by show 0 = 0 ∨ 0 = 1; omega⟩
              rw [g_25.1] at hn_26
              have hn_26a : (0 ≤ v2_24 5 ∧ v2_24 5 ≤ e ∧ (v2_24 7 = 0 ∨ v2_24 7 = 1)) ∧ (v2_19 5) ≤ v2_24 5 ∧ (v2_19 5) - ((l.length : Nat) : Int) ≤ v2_24 5 - ((l.length : Nat) : Int) := hn_26
              have hn_26k4 : v2_24 4 = a := (g_25.2 4 (by decide) (by decide)).trans (by show (v2_19 4) = a; omega)
              have hn_26k6 : v2_24 6 = e := (g_25.2 6 (by decide) (by decide)).trans (by show (v2_19 6) = e; omega)
              have hn_26k8 : v2_24 8 = (v2_19 8) := (g_25.2 8 (by decide) (by decide)).trans (by show (v2_19 8) = (v2_19 8); omega)
              refine v_istore (pc := 176) (L2 := [(4, ai ((fig (tp f) e (ps (nup v2_19 7 0) l)).1)), (3, ai ((am (tp f) e 8 (ps (nup v2_14 7 0) l)).1)), (2, ai ((am (tp f) e 7 (ps v l)).1)), (1, ai (hrp (tp f) e (v 5))), (0, ar h)]) rfl (by decide) dX12_factor_176 ?_
              refine v_aload_n (pc := 178) 4 rfl dX12_factor_178 ?_
              refine v_iload_n (pc := 179) 2 rfl dX12_factor_179 ?_
              refine v_bipush (pc := 180) dX12_factor_180 (by decide) ?_
              refine v_iload_n (pc := 182) 1 rfl dX12_factor_182 ?_
              refine v_imul (pc := 183) dX12_factor_183 ?_
              refine v_iadd (pc := 184) dX12_factor_184 ?_
              refine v_bipush (pc := 185) dX12_factor_185 (by decide) ?_
              refine v_iload (pc := 187) 0 rfl dX12_factor_187 ?_
              refine v_imul (pc := 189) dX12_factor_189 ?_
              refine v_iadd (pc := 190) dX12_factor_190 ?_
              refine v_callV (pc := 191) [0] [1] [(h, co 12 (mO ad v2_24))] (As := [ai (((am (tp f) e 7 (ps v l)).1 + (8 * (am (tp f) e 8 (ps (nup v2_14 7 0) l)).1)) + (32 * (fig (tp f) e (ps (nup v2_19 7 0) l)).1))]) (rest := []) (c_X12_emits ad v2_24 h f a e l (((am (tp f) e 7 (ps v l)).1 + (8 * (am (tp f) e 8 (ps (nup v2_14 7 0) l)).1)) + (32 * (fig (tp f) e (ps (nup v2_19 7 0) l)).1)) (by first | omega | assumption) (by first | omega | assumption) (by exact hT) (by show (v2_24 4) = a; omega) (by show (v2_24 6) = e; omega) (by exact ⟨by show 0 ≤ (v2_24 5); omega, by show (v2_24 5) ≤ e; omega, by show (v2_24 7) = 0 ∨ (v2_24 7) = 1; omega⟩) (by show ((l.length : Nat) : Int) ≤ 139; omega)) (c := 12) rfl (Or.inr ⟨1, rfl⟩) wl_X12_81 wi_X12_emits wv_X12_X12_emits_X12_emits wk_X12_emits wz_X12 md_X12_emits rfl (Nat.le_of_ble_eq_true rfl) ⟨Nat.le_of_ble_eq_true rfl, Nat.le_of_ble_eq_true rfl, Nat.le_of_ble_eq_true rfl, Nat.le_of_ble_eq_true rfl⟩ rfl rfl rfl rfl (by decide) (ro_cons (Or.inr ⟨1, rfl, by decide⟩) ro_nil) dX12_factor_191 (fun u hu => ?_)
              obtain ⟨l2_27, rfl⟩ : ∃ z, z = u := ⟨_, rfl⟩
              have g_28 : emi (((am (tp f) e 7 (ps v l)).1 + (8 * (am (tp f) e 8 (ps (nup v2_14 7 0) l)).1)) + (32 * (fig (tp f) e (ps (nup v2_19 7 0) l)).1)) (ps v2_24 l) = ps v2_24 l2_27 := hu
              show V x cX12_factor RX12 5 (rmU 20 427 0 0) [(h, co 12 (mO ad v2_24)), ((ad 1), cn 0 936 (wrS f a l2_27))] 194 [(4, ai ((fig (tp f) e (ps (nup v2_19 7 0) l)).1)), (3, ai ((am (tp f) e 8 (ps (nup v2_14 7 0) l)).1)), (2, ai ((am (tp f) e 7 (ps v l)).1)), (1, ai (hrp (tp f) e (v 5))), (0, ar h)] [] 0 0
              have ha1 : am (tp f) e 7 (ps v l) = ((am (tp f) e 7 (ps v l)).1, ps v2_14 l) := pr_of g_15.1
              have hb1 : (if (am (tp f) e 7 (ps v l)).1 = -1 then bad (ps v2_14 l) else ps v2_14 l) = ps (nup v2_14 7 0) l := by rw [if_neg (by omega)]; exact ps_70 (by omega)
              have ha2 : tsB (tp f) e (ps (nup v2_14 7 0) l) = ((am (tp f) e 8 (ps (nup v2_14 7 0) l)).1, ps v2_19 l) := (if_pos rfl).trans (pr_of g_20.1)
              have hb2 : (if (am (tp f) e 8 (ps (nup v2_14 7 0) l)).1 = -1 then bad (ps v2_19 l) else ps v2_19 l) = ps (nup v2_19 7 0) l := by first | (rw [if_pos (by omega)]; done) | (rw [if_pos (by omega)]; rfl) | (rw [if_neg (by omega)]; exact ps_70 (by omega))
              have ha3 : fig (tp f) e (ps (nup v2_19 7 0) l) = ((fig (tp f) e (ps (nup v2_19 7 0) l)).1, ps v2_24 l) := pr_of g_25.1
              exact hret (v2_24, l2_27) _ _ _ _ _ (by exact ⟨fac_tst (by omega) (by omega) (by omega) (tsp_of ha1 hb1 ha2 hb2 ha3 g_28), kp_tr (kp_7 (kp_tr (kp_7 g_15.2) g_20.2)) g_25.2⟩) rfl rfl (Nat.le_of_ble_eq_true rfl) (Nat.le_of_ble_eq_true rfl) dX12_factor_194
            · skip
              refine v_iconst (pc := 164) dX12_factor_164 ?_
              refine v_goto (pc := 165) 169 dX12_factor_165 (by decide) ?_
              refine v_put (pc := 169) 7 1 rfl fl_12_51_12 ck_12 ft_12_7 okV_z1 (Nat.le_of_ble_eq_true rfl) (ws2 := [((ad 1), cn 0 936 (wrS f a l)), (h, co 12 (mO ad (nup v2_19 7 1)))]) rfl dX12_factor_169 ?_
              refine v_aload_n (pc := 172) 3 rfl dX12_factor_172 ?_
              refine v_callV (pc := 173) [1] [0] [((ad 1), cn 0 936 (wrS f a l))] (As := []) (rest := []) (c_X12_figures ad (nup v2_19 7 1) h f a e l (by first | omega | assumption) (by first | omega | assumption) (by exact hT) (by show (v2_19 4) = a; omega) (by show (v2_19 6) = e; omega) (by exact ⟨by show 0 ≤ (v2_19 5); omega, by show (v2_19 5) ≤ e; omega, by show 1 = 0 ∨ 1 = 1; omega⟩)) (c := 12) rfl (Or.inr ⟨1, rfl⟩) wl_X12_95 wi_X12_figures wv_X12_X12_figures_X12_figures wk_X12_figures wz_X12 md_X12_figures rfl (Nat.le_of_ble_eq_true rfl) ⟨Nat.le_of_ble_eq_true rfl, Nat.le_of_ble_eq_true rfl, Nat.le_of_ble_eq_true rfl, Nat.le_of_ble_eq_true rfl⟩ rfl rfl rfl rfl (by decide) (ro_cons (Or.inr ⟨0, rfl, by decide⟩) ro_nil) dX12_factor_173 (fun u hu => ?_)
              obtain ⟨v2_29, rfl⟩ : ∃ z, z = u := ⟨_, rfl⟩
              have g_30 : (fig (tp f) e (ps (nup v2_19 7 1) l)).2 = ps v2_29 l ∧ kp (nup v2_19 7 1) v2_29 := hu
              show V x cX12_factor RX12 5 (rmU 20 427 0 0) [((ad 1), cn 0 936 (wrS f a l)), (h, co 12 (mO ad v2_29))] 176 [(3, ai ((am (tp f) e 8 (ps (nup v2_14 7 0) l)).1)), (2, ai ((am (tp f) e 7 (ps v l)).1)), (1, ai (hrp (tp f) e (v 5))), (0, ar h)] [ai ((fig (tp f) e (ps (nup v2_19 7 1) l)).1)] 0 0
              have hn_31 : PN e (ps (nup v2_19 7 1) l) ((fig (tp f) e (ps (nup v2_19 7 1) l)).2) := fig_k (t := tp f) _ ⟨by show 0 ≤ (v2_19 5); omega, by show (v2_19 5) ≤ e; omega, by show 1 = 0 ∨ 1 = 1; omega⟩
              rw [g_30.1] at hn_31
              have hn_31a : (0 ≤ v2_29 5 ∧ v2_29 5 ≤ e ∧ (v2_29 7 = 0 ∨ v2_29 7 = 1)) ∧ (v2_19 5) ≤ v2_29 5 ∧ (v2_19 5) - ((l.length : Nat) : Int) ≤ v2_29 5 - ((l.length : Nat) : Int) := hn_31
              have hn_31k4 : v2_29 4 = a := (g_30.2 4 (by decide) (by decide)).trans (by show (v2_19 4) = a; omega)
              have hn_31k6 : v2_29 6 = e := (g_30.2 6 (by decide) (by decide)).trans (by show (v2_19 6) = e; omega)
              have hn_31k8 : v2_29 8 = (v2_19 8) := (g_30.2 8 (by decide) (by decide)).trans (by show (v2_19 8) = (v2_19 8); omega)
              refine v_istore (pc := 176) (L2 := [(4, ai ((fig (tp f) e (ps (nup v2_19 7 1) l)).1)), (3, ai ((am (tp f) e 8 (ps (nup v2_14 7 0) l)).1)), (2, ai ((am (tp f) e 7 (ps v l)).1)), (1, ai (hrp (tp f) e (v 5))), (0, ar h)]) rfl (by decide) dX12_factor_176 ?_
              refine v_aload_n (pc := 178) 4 rfl dX12_factor_178 ?_
              refine v_iload_n (pc := 179) 2 rfl dX12_factor_179 ?_
              refine v_bipush (pc := 180) dX12_factor_180 (by decide) ?_
              refine v_iload_n (pc := 182) 1 rfl dX12_factor_182 ?_
              refine v_imul (pc := 183) dX12_factor_183 ?_
              refine v_iadd (pc := 184) dX12_factor_184 ?_
              refine v_bipush (pc := 185) dX12_factor_185 (by decide) ?_
              refine v_iload (pc := 187) 0 rfl dX12_factor_187 ?_
              refine v_imul (pc := 189) dX12_factor_189 ?_
              refine v_iadd (pc := 190) dX12_factor_190 ?_
              refine v_callV (pc := 191) [0] [1] [(h, co 12 (mO ad v2_29))] (As := [ai (((am (tp f) e 7 (ps v l)).1 + (8 * (am (tp f) e 8 (ps (nup v2_14 7 0) l)).1)) + (32 * (fig (tp f) e (ps (nup v2_19 7 1) l)).1))]) (rest := []) (c_X12_emits ad v2_29 h f a e l (((am (tp f) e 7 (ps v l)).1 + (8 * (am (tp f) e 8 (ps (nup v2_14 7 0) l)).1)) + (32 * (fig (tp f) e (ps (nup v2_19 7 1) l)).1)) (by first | omega | assumption) (by first | omega | assumption) (by exact hT) (by show (v2_29 4) = a; omega) (by show (v2_29 6) = e; omega) (by exact ⟨by show 0 ≤ (v2_29 5); omega, by show (v2_29 5) ≤ e; omega, by show (v2_29 7) = 0 ∨ (v2_29 7) = 1; omega⟩) (by show ((l.length : Nat) : Int) ≤ 139; omega)) (c := 12) rfl (Or.inr ⟨1, rfl⟩) wl_X12_81 wi_X12_emits wv_X12_X12_emits_X12_emits wk_X12_emits wz_X12 md_X12_emits rfl (Nat.le_of_ble_eq_true rfl) ⟨Nat.le_of_ble_eq_true rfl, Nat.le_of_ble_eq_true rfl, Nat.le_of_ble_eq_true rfl, Nat.le_of_ble_eq_true rfl⟩ rfl rfl rfl rfl (by decide) (ro_cons (Or.inr ⟨1, rfl, by decide⟩) ro_nil) dX12_factor_191 (fun u hu => ?_)
              obtain ⟨l2_32, rfl⟩ : ∃ z, z = u := ⟨_, rfl⟩
              have g_33 : emi (((am (tp f) e 7 (ps v l)).1 + (8 * (am (tp f) e 8 (ps (nup v2_14 7 0) l)).1)) + (32 * (fig (tp f) e (ps (nup v2_19 7 1) l)).1)) (ps v2_29 l) = ps v2_29 l2_32 := hu
              show V x cX12_factor RX12 5 (rmU 20 427 0 0) [(h, co 12 (mO ad v2_29)), ((ad 1), cn 0 936 (wrS f a l2_32))] 194 [(4, ai ((fig (tp f) e (ps (nup v2_19 7 1) l)).1)), (3, ai ((am (tp f) e 8 (ps (nup v2_14 7 0) l)).1)), (2, ai ((am (tp f) e 7 (ps v l)).1)), (1, ai (hrp (tp f) e (v 5))), (0, ar h)] [] 0 0
              have ha1 : am (tp f) e 7 (ps v l) = ((am (tp f) e 7 (ps v l)).1, ps v2_14 l) := pr_of g_15.1
              have hb1 : (if (am (tp f) e 7 (ps v l)).1 = -1 then bad (ps v2_14 l) else ps v2_14 l) = ps (nup v2_14 7 0) l := by rw [if_neg (by omega)]; exact ps_70 (by omega)
              have ha2 : tsB (tp f) e (ps (nup v2_14 7 0) l) = ((am (tp f) e 8 (ps (nup v2_14 7 0) l)).1, ps v2_19 l) := (if_pos rfl).trans (pr_of g_20.1)
              have hb2 : (if (am (tp f) e 8 (ps (nup v2_14 7 0) l)).1 = -1 then bad (ps v2_19 l) else ps v2_19 l) = ps (nup v2_19 7 1) l := by first | (rw [if_pos (by omega)]; done) | (rw [if_pos (by omega)]; rfl) | (rw [if_neg (by omega)]; exact ps_70 (by omega))
              have ha3 : fig (tp f) e (ps (nup v2_19 7 1) l) = ((fig (tp f) e (ps (nup v2_19 7 1) l)).1, ps v2_29 l) := pr_of g_30.1
              exact hret (v2_29, l2_32) _ _ _ _ _ (by exact ⟨fac_tst (by omega) (by omega) (by omega) (tsp_of ha1 hb1 ha2 hb2 ha3 g_33), kp_tr (kp_7 (kp_tr (kp_7 g_15.2) g_20.2)) g_30.2⟩) rfl rfl (Nat.le_of_ble_eq_true rfl) (Nat.le_of_ble_eq_true rfl) dX12_factor_194
        · skip
          refine v_iconst (pc := 125) dX12_factor_125 ?_
          refine v_goto (pc := 126) 130 dX12_factor_126 (by decide) ?_
          refine v_put (pc := 130) 7 1 rfl fl_12_51_12 ck_12 ft_12_7 okV_z1 (Nat.le_of_ble_eq_true rfl) (ws2 := [((ad 1), cn 0 936 (wrS f a l)), (h, co 12 (mO ad (nup v2_14 7 1)))]) rfl dX12_factor_130 ?_
          refine v_aload_n (pc := 133) 2 rfl dX12_factor_133 ?_
          refine v_get (pc := 134) (v := ai 1) 7 (Or.inr ⟨1, rfl⟩) fl_12_51_12 rfl dX12_factor_134 ?_
          refine v_if_eq (pc := 137) 144 dX12_factor_137 (by decide) (by unfold iB; omega) (fun c_34 => by exfalso; omega) (fun c_34 => ?_)
          refine v_iconst (pc := 140) dX12_factor_140 ?_
          refine v_goto (pc := 141) 150 dX12_factor_141 (by decide) ?_
          refine v_istore_n (pc := 150) (L2 := [(3, ai 0), (2, ai ((am (tp f) e 7 (ps v l)).1)), (1, ai (hrp (tp f) e (v 5))), (0, ar h)]) rfl (by decide) dX12_factor_150 ?_
          refine v_aload_n (pc := 151) 3 rfl dX12_factor_151 ?_
          refine v_aload_n (pc := 152) 3 rfl dX12_factor_152 ?_
          refine v_get (pc := 153) (v := ai 1) 7 (Or.inr ⟨1, rfl⟩) fl_12_51_12 rfl dX12_factor_153 ?_
          refine v_if_ne (pc := 156) 164 dX12_factor_156 (by decide) (by unfold iB; omega) (fun c_35 => ?_) (fun c_35 => by exfalso; omega)
          refine v_iconst (pc := 164) dX12_factor_164 ?_
          refine v_goto (pc := 165) 169 dX12_factor_165 (by decide) ?_
          refine v_put (pc := 169) 7 1 rfl fl_12_51_12 ck_12 ft_12_7 okV_z1 (Nat.le_of_ble_eq_true rfl) (ws2 := [((ad 1), cn 0 936 (wrS f a l)), (h, co 12 (mO ad (nup (nup v2_14 7 1) 7 1)))]) rfl dX12_factor_169 ?_
          refine v_aload_n (pc := 172) 3 rfl dX12_factor_172 ?_
          refine v_callV (pc := 173) [1] [0] [((ad 1), cn 0 936 (wrS f a l))] (As := []) (rest := []) (c_X12_figures ad (nup (nup v2_14 7 1) 7 1) h f a e l (by first | omega | assumption) (by first | omega | assumption) (by exact hT) (by show (v2_14 4) = a; omega) (by show (v2_14 6) = e; omega) (by exact ⟨by show 0 ≤ (v2_14 5); omega, by show (v2_14 5) ≤ e; omega, by show 1 = 0 ∨ 1 = 1; omega⟩)) (c := 12) rfl (Or.inr ⟨1, rfl⟩) wl_X12_95 wi_X12_figures wv_X12_X12_figures_X12_figures wk_X12_figures wz_X12 md_X12_figures rfl (Nat.le_of_ble_eq_true rfl) ⟨Nat.le_of_ble_eq_true rfl, Nat.le_of_ble_eq_true rfl, Nat.le_of_ble_eq_true rfl, Nat.le_of_ble_eq_true rfl⟩ rfl rfl rfl rfl (by decide) (ro_cons (Or.inr ⟨0, rfl, by decide⟩) ro_nil) dX12_factor_173 (fun u hu => ?_)
          obtain ⟨v2_36, rfl⟩ : ∃ z, z = u := ⟨_, rfl⟩
          have g_37 : (fig (tp f) e (ps (nup (nup v2_14 7 1) 7 1) l)).2 = ps v2_36 l ∧ kp (nup (nup v2_14 7 1) 7 1) v2_36 := hu
          show V x cX12_factor RX12 5 (rmU 20 427 0 0) [((ad 1), cn 0 936 (wrS f a l)), (h, co 12 (mO ad v2_36))] 176 [(3, ai 0), (2, ai ((am (tp f) e 7 (ps v l)).1)), (1, ai (hrp (tp f) e (v 5))), (0, ar h)] [ai ((fig (tp f) e (ps (nup (nup v2_14 7 1) 7 1) l)).1)] 0 0
          have hn_38 : PN e (ps (nup (nup v2_14 7 1) 7 1) l) ((fig (tp f) e (ps (nup (nup v2_14 7 1) 7 1) l)).2) := fig_k (t := tp f) _ ⟨by show 0 ≤ (v2_14 5); omega, by show (v2_14 5) ≤ e; omega, by show 1 = 0 ∨ 1 = 1; omega⟩
          rw [g_37.1] at hn_38
          have hn_38a : (0 ≤ v2_36 5 ∧ v2_36 5 ≤ e ∧ (v2_36 7 = 0 ∨ v2_36 7 = 1)) ∧ (v2_14 5) ≤ v2_36 5 ∧ (v2_14 5) - ((l.length : Nat) : Int) ≤ v2_36 5 - ((l.length : Nat) : Int) := hn_38
          have hn_38k4 : v2_36 4 = a := (g_37.2 4 (by decide) (by decide)).trans (by show (v2_14 4) = a; omega)
          have hn_38k6 : v2_36 6 = e := (g_37.2 6 (by decide) (by decide)).trans (by show (v2_14 6) = e; omega)
          have hn_38k8 : v2_36 8 = (v2_14 8) := (g_37.2 8 (by decide) (by decide)).trans (by show (v2_14 8) = (v2_14 8); omega)
          refine v_istore (pc := 176) (L2 := [(4, ai ((fig (tp f) e (ps (nup (nup v2_14 7 1) 7 1) l)).1)), (3, ai 0), (2, ai ((am (tp f) e 7 (ps v l)).1)), (1, ai (hrp (tp f) e (v 5))), (0, ar h)]) rfl (by decide) dX12_factor_176 ?_
          refine v_aload_n (pc := 178) 4 rfl dX12_factor_178 ?_
          refine v_iload_n (pc := 179) 2 rfl dX12_factor_179 ?_
          refine v_bipush (pc := 180) dX12_factor_180 (by decide) ?_
          refine v_iload_n (pc := 182) 1 rfl dX12_factor_182 ?_
          refine v_imul (pc := 183) dX12_factor_183 ?_
          refine v_iadd (pc := 184) dX12_factor_184 ?_
          refine v_bipush (pc := 185) dX12_factor_185 (by decide) ?_
          refine v_iload (pc := 187) 0 rfl dX12_factor_187 ?_
          refine v_imul (pc := 189) dX12_factor_189 ?_
          refine v_iadd (pc := 190) dX12_factor_190 ?_
          refine v_callV (pc := 191) [0] [1] [(h, co 12 (mO ad v2_36))] (As := [ai (((am (tp f) e 7 (ps v l)).1 + (8 * 0)) + (32 * (fig (tp f) e (ps (nup (nup v2_14 7 1) 7 1) l)).1))]) (rest := []) (c_X12_emits ad v2_36 h f a e l (((am (tp f) e 7 (ps v l)).1 + (8 * 0)) + (32 * (fig (tp f) e (ps (nup (nup v2_14 7 1) 7 1) l)).1)) (by first | omega | assumption) (by first | omega | assumption) (by exact hT) (by show (v2_36 4) = a; omega) (by show (v2_36 6) = e; omega) (by exact ⟨by show 0 ≤ (v2_36 5); omega, by show (v2_36 5) ≤ e; omega, by show (v2_36 7) = 0 ∨ (v2_36 7) = 1; omega⟩) (by show ((l.length : Nat) : Int) ≤ 139; omega)) (c := 12) rfl (Or.inr ⟨1, rfl⟩) wl_X12_81 wi_X12_emits wv_X12_X12_emits_X12_emits wk_X12_emits wz_X12 md_X12_emits rfl (Nat.le_of_ble_eq_true rfl) ⟨Nat.le_of_ble_eq_true rfl, Nat.le_of_ble_eq_true rfl, Nat.le_of_ble_eq_true rfl, Nat.le_of_ble_eq_true rfl⟩ rfl rfl rfl rfl (by decide) (ro_cons (Or.inr ⟨1, rfl, by decide⟩) ro_nil) dX12_factor_191 (fun u hu => ?_)
          obtain ⟨l2_39, rfl⟩ : ∃ z, z = u := ⟨_, rfl⟩
          have g_40 : emi (((am (tp f) e 7 (ps v l)).1 + (8 * 0)) + (32 * (fig (tp f) e (ps (nup (nup v2_14 7 1) 7 1) l)).1)) (ps v2_36 l) = ps v2_36 l2_39 := hu
          show V x cX12_factor RX12 5 (rmU 20 427 0 0) [(h, co 12 (mO ad v2_36)), ((ad 1), cn 0 936 (wrS f a l2_39))] 194 [(4, ai ((fig (tp f) e (ps (nup (nup v2_14 7 1) 7 1) l)).1)), (3, ai 0), (2, ai ((am (tp f) e 7 (ps v l)).1)), (1, ai (hrp (tp f) e (v 5))), (0, ar h)] [] 0 0
          have ha1 : am (tp f) e 7 (ps v l) = ((am (tp f) e 7 (ps v l)).1, ps v2_14 l) := pr_of g_15.1
          have hb1 : (if (am (tp f) e 7 (ps v l)).1 = -1 then bad (ps v2_14 l) else ps v2_14 l) = ps (nup v2_14 7 1) l := by rw [if_pos (by omega)]; rfl
          have ha2 : tsB (tp f) e (ps (nup v2_14 7 1) l) = (0, ps (nup v2_14 7 1) l) := if_neg (by show ¬ (1 : Int) = 0; decide)
          have hb2 : (if 0 = -1 then bad (ps (nup v2_14 7 1) l) else ps (nup v2_14 7 1) l) = ps (nup (nup v2_14 7 1) 7 1) l := by rw [if_neg (by decide)]; rfl
          have ha3 : fig (tp f) e (ps (nup (nup v2_14 7 1) 7 1) l) = ((fig (tp f) e (ps (nup (nup v2_14 7 1) 7 1) l)).1, ps v2_36 l) := pr_of g_37.1
          exact hret (v2_36, l2_39) _ _ _ _ _ (by exact ⟨fac_tst (by omega) (by omega) (by omega) (tsp_of ha1 hb1 ha2 hb2 ha3 g_40), kp_tr (kp_7 (kp_7 g_15.2)) g_37.2⟩) rfl rfl (Nat.le_of_ble_eq_true rfl) (Nat.le_of_ble_eq_true rfl) dX12_factor_194
      · skip
        refine v_aload_n (pc := 25) 1 rfl dX12_factor_25 ?_
        refine v_aload_n (pc := 26) 1 rfl dX12_factor_26 ?_
        refine v_get (pc := 27) (v := ai (v 8)) 8 (Or.inr ⟨0, rfl⟩) fl_12_75_12 rfl dX12_factor_27 ?_
        refine v_iconst (pc := 30) dX12_factor_30 ?_
        refine v_icmp_ne (pc := 31) 38 dX12_factor_31 (by decide) (by unfold iB; omega) (by unfold iB; omega) (fun c_41 => ?_) (fun c_41 => ?_)
        · skip
          refine v_iconst (pc := 38) dX12_factor_38 ?_
          refine v_put (pc := 39) 7 0 rfl fl_12_51_12 ck_12 ft_12_7 okV_z0 (Nat.le_of_ble_eq_true rfl) (ws2 := [(h, co 12 (mO ad (nup v 7 0))), ((ad 1), cn 0 936 (wrS f a l))]) rfl dX12_factor_39 ?_
          refine v_aload_n (pc := 42) 1 rfl dX12_factor_42 ?_
          refine v_dup (pc := 43) rfl dX12_factor_43 ?_
          refine v_get (pc := 44) (v := ai (v 8)) 8 (Or.inr ⟨0, rfl⟩) fl_12_75_12 rfl dX12_factor_44 ?_
          refine v_iconst (pc := 47) dX12_factor_47 ?_
          refine v_iadd (pc := 48) dX12_factor_48 ?_
          refine v_put (pc := 49) 8 0 rfl fl_12_75_12 ck_12 ft_12_8 (okV_i _) (Nat.le_of_ble_eq_true rfl) (ws2 := [(h, co 12 (mO ad (nup (nup v 7 0) 8 ((v 8) + 1)))), ((ad 1), cn 0 936 (wrS f a l))]) rfl dX12_factor_49 ?_
          refine v_aload_n (pc := 52) 1 rfl dX12_factor_52 ?_
          refine v_dup (pc := 53) rfl dX12_factor_53 ?_
          refine v_get (pc := 54) (v := ai (v 5)) 5 (Or.inr ⟨0, rfl⟩) fl_12_45_12 rfl dX12_factor_54 ?_
          refine v_aload_n (pc := 57) 1 rfl dX12_factor_57 ?_
          refine v_get (pc := 58) (v := ai 0) 7 (Or.inr ⟨0, rfl⟩) fl_12_51_12 rfl dX12_factor_58 ?_
          refine v_if_eq (pc := 61) 68 dX12_factor_61 (by decide) (by unfold iB; omega) (fun c_42 => ?_) (fun c_42 => by exfalso; omega)
          refine v_iconst (pc := 68) dX12_factor_68 ?_
          refine v_iadd (pc := 69) dX12_factor_69 ?_
          refine v_put (pc := 70) 5 0 rfl fl_12_45_12 ck_12 ft_12_5 (okV_i _) (Nat.le_of_ble_eq_true rfl) (ws2 := [(h, co 12 (mO ad (nup (nup (nup v 7 0) 8 ((v 8) + 1)) 5 ((v 5) + 1)))), ((ad 1), cn 0 936 (wrS f a l))]) rfl dX12_factor_70 ?_
          refine v_iload_n (pc := 73) 0 rfl dX12_factor_73 ?_
          refine v_bipush (pc := 74) dX12_factor_74 (by decide) ?_
          refine v_icmp_ne (pc := 76) 91 dX12_factor_76 (by decide) (by unfold iB; omega) (by unfold iB; omega) (fun c_43 => ?_) (fun c_43 => ?_)
          · skip
            refine v_aload_n (pc := 91) 1 rfl dX12_factor_91 ?_
            refine v_callV (pc := 92) [0, 1] [] [] (As := []) (rest := []) (c_some_4 ad (nup (nup (nup v 7 0) 8 ((v 8) + 1)) 5 ((v 5) + 1)) h f a e l (by first | omega | assumption) (by first | omega | assumption) (by exact hT) (by show (v 4) = a; omega) (by show (v 6) = e; omega) (by exact ⟨by show 0 ≤ ((v 5) + 1); omega, by show ((v 5) + 1) ≤ e; omega, by show 0 = 0 ∨ 0 = 1; omega⟩) (by show ((l.length : Nat) : Int) ≤ ((v 5) + 1); omega) (by show ((v 8) + 1) = _; omega)) (c := 12) rfl (Or.inr ⟨0, rfl⟩) wl_X12_84 wi_X12_some wv_X12_X12_some_X12_some wk_X12_some wz_X12 md_X12_some rfl (Nat.le_of_ble_eq_true rfl) ⟨Nat.le_of_ble_eq_true rfl, Nat.le_of_ble_eq_true rfl, Nat.le_of_ble_eq_true rfl, Nat.le_of_ble_eq_true rfl⟩ rfl rfl rfl rfl (by decide) ro_nil dX12_factor_92 (fun u hu => ?_)
            obtain ⟨v2_44, l2_45⟩ := u
            have g_46 : soP (tp f) e (fac (tp f) e 4) (ps (nup (nup (nup v 7 0) 8 ((v 8) + 1)) 5 ((v 5) + 1)) l) = ps v2_44 l2_45 ∧ kp (nup (nup (nup v 7 0) 8 ((v 8) + 1)) 5 ((v 5) + 1)) v2_44 := hu
            show V x cX12_factor RX12 5 (rmU 20 427 0 0) [(h, co 12 (mO ad v2_44)), ((ad 1), cn 0 936 (wrS f a l2_45))] 95 [(1, ai (hrp (tp f) e (v 5))), (0, ar h)] [] 0 0
            have hn_47 : PN e (ps (nup (nup (nup v 7 0) 8 ((v 8) + 1)) 5 ((v 5) + 1)) l) (soP (tp f) e (fac (tp f) e 4) (ps (nup (nup (nup v 7 0) 8 ((v 8) + 1)) 5 ((v 5) + 1)) l)) := soP_k (fac_k (t := tp f) 4) _ ⟨by show 0 ≤ ((v 5) + 1); omega, by show ((v 5) + 1) ≤ e; omega, by show 0 = 0 ∨ 0 = 1; omega⟩
            rw [g_46.1] at hn_47
            have hn_47a : (0 ≤ v2_44 5 ∧ v2_44 5 ≤ e ∧ (v2_44 7 = 0 ∨ v2_44 7 = 1)) ∧ ((v 5) + 1) ≤ v2_44 5 ∧ ((v 5) + 1) - ((l.length : Nat) : Int) ≤ v2_44 5 - ((l2_45.length : Nat) : Int) := hn_47
            have hn_47k4 : v2_44 4 = a := (g_46.2 4 (by decide) (by decide)).trans (by show (v 4) = a; omega)
            have hn_47k6 : v2_44 6 = e := (g_46.2 6 (by decide) (by decide)).trans (by show (v 6) = e; omega)
            have hn_47k8 : v2_44 8 = ((v 8) + 1) := (g_46.2 8 (by decide) (by decide)).trans (by show ((v 8) + 1) = ((v 8) + 1); omega)
            refine v_aload_n (pc := 95) 1 rfl dX12_factor_95 ?_
            refine v_bipush (pc := 96) dX12_factor_96 (by decide) ?_
            refine v_callV (pc := 98) [0] [1] [((ad 1), cn 0 936 (wrS f a l2_45))] (As := [ai 41]) (rest := []) (c_X12_must ad v2_44 h f a e l2_45 41 (by first | omega | assumption) (by first | omega | assumption) (by exact hT) (by show (v2_44 4) = a; omega) (by show (v2_44 6) = e; omega) (by exact ⟨by show 0 ≤ (v2_44 5); omega, by show (v2_44 5) ≤ e; omega, by show (v2_44 7) = 0 ∨ (v2_44 7) = 1; omega⟩) (by first | omega | assumption)) (c := 12) rfl (Or.inr ⟨0, rfl⟩) wl_X12_68 wi_X12_must wv_X12_X12_must_X12_must wk_X12_must wz_X12 md_X12_must rfl (Nat.le_of_ble_eq_true rfl) ⟨Nat.le_of_ble_eq_true rfl, Nat.le_of_ble_eq_true rfl, Nat.le_of_ble_eq_true rfl, Nat.le_of_ble_eq_true rfl⟩ rfl rfl rfl rfl (by decide) (ro_cons (Or.inr ⟨1, rfl, by decide⟩) ro_nil) dX12_factor_98 (fun u hu => ?_)
            obtain ⟨v2_48, rfl⟩ : ∃ z, z = u := ⟨_, rfl⟩
            have g_49 : mstP (tp f) e 41 (ps v2_44 l2_45) = ps v2_48 l2_45 ∧ kp v2_44 v2_48 := hu
            show V x cX12_factor RX12 5 (rmU 20 427 0 0) [((ad 1), cn 0 936 (wrS f a l2_45)), (h, co 12 (mO ad v2_48))] 101 [(1, ai (hrp (tp f) e (v 5))), (0, ar h)] [] 0 0
            have hn_50 : PN e (ps v2_44 l2_45) (mstP (tp f) e 41 (ps v2_44 l2_45)) := mstP_k (t := tp f) (by omega) _ ⟨by show 0 ≤ (v2_44 5); omega, by show (v2_44 5) ≤ e; omega, by show (v2_44 7) = 0 ∨ (v2_44 7) = 1; omega⟩
            rw [g_49.1] at hn_50
            have hn_50a : (0 ≤ v2_48 5 ∧ v2_48 5 ≤ e ∧ (v2_48 7 = 0 ∨ v2_48 7 = 1)) ∧ (v2_44 5) ≤ v2_48 5 ∧ (v2_44 5) - ((l2_45.length : Nat) : Int) ≤ v2_48 5 - ((l2_45.length : Nat) : Int) := hn_50
            have hn_50k4 : v2_48 4 = a := (g_49.2 4 (by decide) (by decide)).trans (by show (v2_44 4) = a; omega)
            have hn_50k6 : v2_48 6 = e := (g_49.2 6 (by decide) (by decide)).trans (by show (v2_44 6) = e; omega)
            have hn_50k8 : v2_48 8 = (v2_44 8) := (g_49.2 8 (by decide) (by decide)).trans (by show (v2_44 8) = (v2_44 8); omega)
            refine v_aload_n (pc := 101) 1 rfl dX12_factor_101 ?_
            refine v_dup (pc := 102) rfl dX12_factor_102 ?_
            refine v_get (pc := 103) (v := ai (v2_48 8)) 8 (Or.inr ⟨1, rfl⟩) fl_12_75_12 rfl dX12_factor_103 ?_
            refine v_iconst (pc := 106) dX12_factor_106 ?_
            refine v_isub (pc := 107) dX12_factor_107 ?_
            refine v_put (pc := 108) 8 1 rfl fl_12_75_12 ck_12 ft_12_8 (okV_i _) (Nat.le_of_ble_eq_true rfl) (ws2 := [((ad 1), cn 0 936 (wrS f a l2_45)), (h, co 12 (mO ad (nup v2_48 8 ((v2_48 8) - 1))))]) rfl dX12_factor_108 ?_
            refine v_wsub (ws2 := [(h, co 12 (mO ad (nup v2_48 8 ((v2_48 8) - 1)))), ((ad 1), cn 0 936 (wrS f a l2_45))]) [1, 0] rfl rfl ?_
            exact hret ((nup v2_48 8 ((v2_48 8) - 1)), l2_45) _ _ _ _ _ (by exact ⟨fac_par (by omega) (by omega) g_46.1 g_49.1 rfl rfl, kp_8 (kp_tr g_46.2 g_49.2)⟩) rfl rfl (Nat.le_of_ble_eq_true rfl) (Nat.le_of_ble_eq_true rfl) dX12_factor_111
          · skip
            exfalso; omega
        · skip
          exfalso; omega
  · skip
    exact hret (v, l) _ _ _ _ _ (by exact ⟨fac_w (by omega), kp_rf v⟩) rfl rfl (Nat.le_of_ble_eq_true rfl) (Nat.le_of_ble_eq_true rfl) dX12_factor_7
set_option maxHeartbeats 4000000 in
set_option maxRecDepth 100000 in
theorem c_every_5 {gS : sG} (ad : Nat → Nat) (v : Nat → Int) (h : Nat) (f : Int → Int) (a : Int) (e : Int) (l : List Int) (ha : 0 ≤ a ∧ a ≤ 4) (he : 0 ≤ e ∧ e ≤ 100) (hT : ∀ j : Int, 0 ≤ j → j < e → 0 ≤ f (121 + j) ∧ f (121 + j) ≤ 127) (h4 : v 4 = a) (h6 : v 6 = e) (hB : PB e (ps v l)) (hl : (l.length : Int) ≤ v 5) (h8 : v 8 = 0) : Ct gS (S := (Nat → Int) × List Int) yX12_every cX12_every 1 none 21 451 0 0 [ar h] [(h, co 12 (mO ad v)), ((ad 1), cn 0 936 (wrS f a l))] (fun q => q ∈ ([] : aW)) (fun u => evP (tp f) e (fac (tp f) e 5) (ps v l) = ps u.1 u.2 ∧ kp v u.1) (fun u => none) (fun u => [(h, co 12 (mO ad u.1)), ((ad 1), cn 0 936 (wrS f a u.2))]) := by
  refine ct_V RX12 [(0, ar h)] (by decide) rfl (Nat.le_of_ble_eq_true rfl) rfl (fun x hgS hnm hro hret => ?_)
  subst hgS
  have hB1 : 0 ≤ v 5 := hB.1
  have hB2 : v 5 ≤ e := hB.2.1
  have hB3 : v 7 = 0 ∨ v 7 = 1 := hB.2.2
  show V x cX12_every RX12 1 (rmU 21 451 0 0) [(h, co 12 (mO ad v)), ((ad 1), cn 0 936 (wrS f a l))] 0 [(0, ar h)] [] 0 0
  refine v_aload_n (pc := 0) 0 rfl dX12_every_0 ?_
  refine v_callV (pc := 1) [0, 1] [] [] (As := []) (rest := []) (c_factor_5 ad v h f a e l (by first | omega | assumption) (by first | omega | assumption) (by exact hT) (by show (v 4) = a; omega) (by show (v 6) = e; omega) (by exact ⟨by show 0 ≤ (v 5); omega, by show (v 5) ≤ e; omega, by show (v 7) = 0 ∨ (v 7) = 1; omega⟩) (by show ((l.length : Nat) : Int) ≤ (v 5); omega) (by show (v 8) = _; omega)) (c := 12) rfl (Or.inr ⟨0, rfl⟩) wl_X12_78 wi_X12_factor wv_X12_X12_factor_X12_factor wk_X12_factor wz_X12 md_X12_factor rfl (Nat.le_of_ble_eq_true rfl) ⟨Nat.le_of_ble_eq_true rfl, Nat.le_of_ble_eq_true rfl, Nat.le_of_ble_eq_true rfl, Nat.le_of_ble_eq_true rfl⟩ rfl rfl rfl rfl (by decide) ro_nil dX12_every_1 (fun u hu => ?_)
  obtain ⟨v2_1, l2_2⟩ := u
  have g_3 : fac (tp f) e 5 (ps v l) = ps v2_1 l2_2 ∧ kp v v2_1 := hu
  show V x cX12_every RX12 1 (rmU 21 451 0 0) [(h, co 12 (mO ad v2_1)), ((ad 1), cn 0 936 (wrS f a l2_2))] 4 [(0, ar h)] [] 0 0
  have hn_4 : PN e (ps v l) (fac (tp f) e 5 (ps v l)) := fac_k (t := tp f) 5 _ ⟨by show 0 ≤ (v 5); omega, by show (v 5) ≤ e; omega, by show (v 7) = 0 ∨ (v 7) = 1; omega⟩
  rw [g_3.1] at hn_4
  have hn_4a : (0 ≤ v2_1 5 ∧ v2_1 5 ≤ e ∧ (v2_1 7 = 0 ∨ v2_1 7 = 1)) ∧ (v 5) ≤ v2_1 5 ∧ (v 5) - ((l.length : Nat) : Int) ≤ v2_1 5 - ((l2_2.length : Nat) : Int) := hn_4
  have hn_4k4 : v2_1 4 = a := (g_3.2 4 (by decide) (by decide)).trans (by show (v 4) = a; omega)
  have hn_4k6 : v2_1 6 = e := (g_3.2 6 (by decide) (by decide)).trans (by show (v 6) = e; omega)
  have hn_4k8 : v2_1 8 = (v 8) := (g_3.2 8 (by decide) (by decide)).trans (by show (v 8) = (v 8); omega)
  have lp4 : ∀ (mm : Nat) (v1 : Nat → Int) (l1 : List Int), (e - v1 5).toNat = mm → (lpP (tp f) e 38 (-2) (fac (tp f) e 5) 101 (ps v1 l1) = evP (tp f) e (fac (tp f) e 5) (ps v l)) → (kp v v1) → (0 ≤ v1 5 ∧ v1 5 ≤ e ∧ (v1 7 = 0 ∨ v1 7 = 1) ∧ (l1.length : Int) ≤ v1 5) → V x cX12_every RX12 1 (rmU 21 451 0 0) [(h, co 12 (mO ad v1)), ((ad 1), cn 0 936 (wrS f a l1))] 4 [(0, ar h)] [] 0 0 := by
    intro mm
    induction mm using Nat.strongRecOn with
    | _ mm ih =>
      intro v1 l1 hmm hrr hkp hb1
      have hk4 : v1 4 = a := (hkp 4 (by decide) (by decide)).trans h4
      have hk6 : v1 6 = e := (hkp 6 (by decide) (by decide)).trans h6
      have hk8 : v1 8 = v 8 := hkp 8 (by decide) (by decide)
      refine v_aload_n (pc := 4) 0 rfl dX12_every_4 ?_
      refine v_get (pc := 5) (v := ai (v1 7)) 7 (Or.inr ⟨0, rfl⟩) fl_12_51_12 rfl dX12_every_5 ?_
      refine v_if_ne (pc := 8) 43 dX12_every_8 (by decide) (by unfold iB; omega) (fun c_5 => ?_) (fun c_5 => ?_)
      · skip
        exact hret (v1, l1) _ _ _ _ _ (by exact ⟨by rw [← hrr]; exact lpP_st (by show ¬ (v1 7 = 0 ∧ hrp (tp f) e (v1 5) = 38); omega), hkp⟩) rfl rfl (Nat.le_of_ble_eq_true rfl) (Nat.le_of_ble_eq_true rfl) dX12_every_43
      · skip
        refine v_aload_n (pc := 11) 0 rfl dX12_every_11 ?_
        refine v_callV (pc := 12) [] [0, 1] [(h, co 12 (mO ad v1)), ((ad 1), cn 0 936 (wrS f a l1))] (As := []) (rest := []) (c_X12_here ad v1 h f a e l1 (v1 5) (by first | omega | assumption) (by first | omega | assumption) (by show (v1 6) = e; omega) (by rfl) (by first | omega | assumption)) (c := 12) rfl (Or.inr ⟨0, rfl⟩) wl_X12_55 wi_X12_here wv_X12_X12_here_X12_here wk_X12_here wz_X12 md_X12_here rfl (Nat.le_of_ble_eq_true rfl) ⟨Nat.le_of_ble_eq_true rfl, Nat.le_of_ble_eq_true rfl, Nat.le_of_ble_eq_true rfl, Nat.le_of_ble_eq_true rfl⟩ rfl rfl rfl rfl (by decide) (ro_cons (Or.inr ⟨0, rfl, by decide⟩) (ro_cons (Or.inr ⟨1, rfl, by decide⟩) ro_nil)) dX12_every_12 (fun u hu => ?_)
        show V x cX12_every RX12 1 (rmU 21 451 0 0) [(h, co 12 (mO ad v1)), ((ad 1), cn 0 936 (wrS f a l1))] 15 [(0, ar h)] [ai (hrp (tp f) e (v1 5))] 0 0
        have hb_6 := hrp_b (p := (v1 5)) hT (by omega)
        refine v_bipush (pc := 15) dX12_every_15 (by decide) ?_
        refine v_icmp_ne (pc := 17) 43 dX12_every_17 (by decide) (by unfold iB; omega) (by unfold iB; omega) (fun c_7 => ?_) (fun c_7 => ?_)
        · skip
          exact hret (v1, l1) _ _ _ _ _ (by exact ⟨by rw [← hrr]; exact lpP_st (by show ¬ (v1 7 = 0 ∧ hrp (tp f) e (v1 5) = 38); omega), hkp⟩) rfl rfl (Nat.le_of_ble_eq_true rfl) (Nat.le_of_ble_eq_true rfl) dX12_every_43
        · skip
          refine v_aload_n (pc := 20) 0 rfl dX12_every_20 ?_
          refine v_dup (pc := 21) rfl dX12_every_21 ?_
          refine v_get (pc := 22) (v := ai (v1 5)) 5 (Or.inr ⟨0, rfl⟩) fl_12_45_12 rfl dX12_every_22 ?_
          refine v_iconst (pc := 25) dX12_every_25 ?_
          refine v_iadd (pc := 26) dX12_every_26 ?_
          refine v_put (pc := 27) 5 0 rfl fl_12_45_12 ck_12 ft_12_5 (okV_i _) (Nat.le_of_ble_eq_true rfl) (ws2 := [(h, co 12 (mO ad (nup v1 5 ((v1 5) + 1)))), ((ad 1), cn 0 936 (wrS f a l1))]) rfl dX12_every_27 ?_
          refine v_aload_n (pc := 30) 0 rfl dX12_every_30 ?_
          refine v_callV (pc := 31) [0, 1] [] [] (As := []) (rest := []) (c_factor_5 ad (nup v1 5 ((v1 5) + 1)) h f a e l1 (by first | omega | assumption) (by first | omega | assumption) (by exact hT) (by show (v1 4) = a; omega) (by show (v1 6) = e; omega) (by exact ⟨by show 0 ≤ ((v1 5) + 1); omega, by show ((v1 5) + 1) ≤ e; omega, by show (v1 7) = 0 ∨ (v1 7) = 1; omega⟩) (by show ((l1.length : Nat) : Int) ≤ ((v1 5) + 1); omega) (by show (v1 8) = _; omega)) (c := 12) rfl (Or.inr ⟨0, rfl⟩) wl_X12_78 wi_X12_factor wv_X12_X12_factor_X12_factor wk_X12_factor wz_X12 md_X12_factor rfl (Nat.le_of_ble_eq_true rfl) ⟨Nat.le_of_ble_eq_true rfl, Nat.le_of_ble_eq_true rfl, Nat.le_of_ble_eq_true rfl, Nat.le_of_ble_eq_true rfl⟩ rfl rfl rfl rfl (by decide) ro_nil dX12_every_31 (fun u hu => ?_)
          obtain ⟨v2_8, l2_9⟩ := u
          have g_10 : fac (tp f) e 5 (ps (nup v1 5 ((v1 5) + 1)) l1) = ps v2_8 l2_9 ∧ kp (nup v1 5 ((v1 5) + 1)) v2_8 := hu
          show V x cX12_every RX12 1 (rmU 21 451 0 0) [(h, co 12 (mO ad v2_8)), ((ad 1), cn 0 936 (wrS f a l2_9))] 34 [(0, ar h)] [] 0 0
          have hn_11 : PN e (ps (nup v1 5 ((v1 5) + 1)) l1) (fac (tp f) e 5 (ps (nup v1 5 ((v1 5) + 1)) l1)) := fac_k (t := tp f) 5 _ ⟨by show 0 ≤ ((v1 5) + 1); omega, by show ((v1 5) + 1) ≤ e; omega, by show (v1 7) = 0 ∨ (v1 7) = 1; omega⟩
          rw [g_10.1] at hn_11
          have hn_11a : (0 ≤ v2_8 5 ∧ v2_8 5 ≤ e ∧ (v2_8 7 = 0 ∨ v2_8 7 = 1)) ∧ ((v1 5) + 1) ≤ v2_8 5 ∧ ((v1 5) + 1) - ((l1.length : Nat) : Int) ≤ v2_8 5 - ((l2_9.length : Nat) : Int) := hn_11
          have hn_11k4 : v2_8 4 = a := (g_10.2 4 (by decide) (by decide)).trans (by show (v1 4) = a; omega)
          have hn_11k6 : v2_8 6 = e := (g_10.2 6 (by decide) (by decide)).trans (by show (v1 6) = e; omega)
          have hn_11k8 : v2_8 8 = (v1 8) := (g_10.2 8 (by decide) (by decide)).trans (by show (v1 8) = (v1 8); omega)
          refine v_aload_n (pc := 34) 0 rfl dX12_every_34 ?_
          refine v_bipush (pc := 35) dX12_every_35 (by decide) ?_
          refine v_callV (pc := 37) [1] [0] [(h, co 12 (mO ad v2_8))] (As := [ai (-2)]) (rest := []) (c_X12_emits ad v2_8 h f a e l2_9 (-2) (by first | omega | assumption) (by first | omega | assumption) (by exact hT) (by show (v2_8 4) = a; omega) (by show (v2_8 6) = e; omega) (by exact ⟨by show 0 ≤ (v2_8 5); omega, by show (v2_8 5) ≤ e; omega, by show (v2_8 7) = 0 ∨ (v2_8 7) = 1; omega⟩) (by show ((l2_9.length : Nat) : Int) ≤ 139; omega)) (c := 12) rfl (Or.inr ⟨0, rfl⟩) wl_X12_81 wi_X12_emits wv_X12_X12_emits_X12_emits wk_X12_emits wz_X12 md_X12_emits rfl (Nat.le_of_ble_eq_true rfl) ⟨Nat.le_of_ble_eq_true rfl, Nat.le_of_ble_eq_true rfl, Nat.le_of_ble_eq_true rfl, Nat.le_of_ble_eq_true rfl⟩ rfl rfl rfl rfl (by decide) (ro_cons (Or.inr ⟨0, rfl, by decide⟩) ro_nil) dX12_every_37 (fun u hu => ?_)
          obtain ⟨l2_12, rfl⟩ : ∃ z, z = u := ⟨_, rfl⟩
          have g_13 : emi (-2) (ps v2_8 l2_9) = ps v2_8 l2_12 := hu
          show V x cX12_every RX12 1 (rmU 21 451 0 0) [(h, co 12 (mO ad v2_8)), ((ad 1), cn 0 936 (wrS f a l2_12))] 40 [(0, ar h)] [] 0 0
          refine v_goto (pc := 40) 4 dX12_every_40 (by decide) ?_
          exact ih _ (by omega) v2_8 l2_12 rfl (by rw [← hrr, lpP_go (s := ps v1 l1) (by decide) (fac_k 5) he.2 ⟨hb1.1, hb1.2.1, hb1.2.2.1⟩ (by show v1 7 = 0; omega) (by show hrp (tp f) e (v1 5) = _; omega)]; congr 1; rw [show fac (tp f) e 5 (adv (ps v1 l1)) = _ from g_10.1]; exact g_13.symm) (by exact kp_tr (kp_5 hkp) g_10.2) (by have q := emi_len g_13; omega)
  exact lp4 _ v2_1 l2_2 rfl (by exact congrArg (lpP (tp f) e 38 (-2) (fac (tp f) e 5) 101) g_3.1.symm) (by exact g_3.2) (by omega)
set_option maxHeartbeats 4000000 in
set_option maxRecDepth 100000 in
theorem c_some_5 {gS : sG} (ad : Nat → Nat) (v : Nat → Int) (h : Nat) (f : Int → Int) (a : Int) (e : Int) (l : List Int) (ha : 0 ≤ a ∧ a ≤ 4) (he : 0 ≤ e ∧ e ≤ 100) (hT : ∀ j : Int, 0 ≤ j → j < e → 0 ≤ f (121 + j) ∧ f (121 + j) ≤ 127) (h4 : v 4 = a) (h6 : v 6 = e) (hB : PB e (ps v l)) (hl : (l.length : Int) ≤ v 5) (h8 : v 8 = 0) : Ct gS (S := (Nat → Int) × List Int) yX12_some cX12_some 1 none 22 471 0 0 [ar h] [(h, co 12 (mO ad v)), ((ad 1), cn 0 936 (wrS f a l))] (fun q => q ∈ ([] : aW)) (fun u => soP (tp f) e (fac (tp f) e 5) (ps v l) = ps u.1 u.2 ∧ kp v u.1) (fun u => none) (fun u => [(h, co 12 (mO ad u.1)), ((ad 1), cn 0 936 (wrS f a u.2))]) := by
  refine ct_V RX12 [(0, ar h)] (by decide) rfl (Nat.le_of_ble_eq_true rfl) rfl (fun x hgS hnm hro hret => ?_)
  subst hgS
  have hB1 : 0 ≤ v 5 := hB.1
  have hB2 : v 5 ≤ e := hB.2.1
  have hB3 : v 7 = 0 ∨ v 7 = 1 := hB.2.2
  show V x cX12_some RX12 1 (rmU 22 471 0 0) [(h, co 12 (mO ad v)), ((ad 1), cn 0 936 (wrS f a l))] 0 [(0, ar h)] [] 0 0
  refine v_aload_n (pc := 0) 0 rfl dX12_some_0 ?_
  refine v_callV (pc := 1) [0, 1] [] [] (As := []) (rest := []) (c_every_5 ad v h f a e l (by first | omega | assumption) (by first | omega | assumption) (by exact hT) (by show (v 4) = a; omega) (by show (v 6) = e; omega) (by exact ⟨by show 0 ≤ (v 5); omega, by show (v 5) ≤ e; omega, by show (v 7) = 0 ∨ (v 7) = 1; omega⟩) (by show ((l.length : Nat) : Int) ≤ (v 5); omega) (by show (v 8) = _; omega)) (c := 12) rfl (Or.inr ⟨0, rfl⟩) wl_X12_98 wi_X12_every wv_X12_X12_every_X12_every wk_X12_every wz_X12 md_X12_every rfl (Nat.le_of_ble_eq_true rfl) ⟨Nat.le_of_ble_eq_true rfl, Nat.le_of_ble_eq_true rfl, Nat.le_of_ble_eq_true rfl, Nat.le_of_ble_eq_true rfl⟩ rfl rfl rfl rfl (by decide) ro_nil dX12_some_1 (fun u hu => ?_)
  obtain ⟨v2_1, l2_2⟩ := u
  have g_3 : evP (tp f) e (fac (tp f) e 5) (ps v l) = ps v2_1 l2_2 ∧ kp v v2_1 := hu
  show V x cX12_some RX12 1 (rmU 22 471 0 0) [(h, co 12 (mO ad v2_1)), ((ad 1), cn 0 936 (wrS f a l2_2))] 4 [(0, ar h)] [] 0 0
  have hn_4 : PN e (ps v l) (evP (tp f) e (fac (tp f) e 5) (ps v l)) := evP_k (fac_k (t := tp f) 5) _ ⟨by show 0 ≤ (v 5); omega, by show (v 5) ≤ e; omega, by show (v 7) = 0 ∨ (v 7) = 1; omega⟩
  rw [g_3.1] at hn_4
  have hn_4a : (0 ≤ v2_1 5 ∧ v2_1 5 ≤ e ∧ (v2_1 7 = 0 ∨ v2_1 7 = 1)) ∧ (v 5) ≤ v2_1 5 ∧ (v 5) - ((l.length : Nat) : Int) ≤ v2_1 5 - ((l2_2.length : Nat) : Int) := hn_4
  have hn_4k4 : v2_1 4 = a := (g_3.2 4 (by decide) (by decide)).trans (by show (v 4) = a; omega)
  have hn_4k6 : v2_1 6 = e := (g_3.2 6 (by decide) (by decide)).trans (by show (v 6) = e; omega)
  have hn_4k8 : v2_1 8 = (v 8) := (g_3.2 8 (by decide) (by decide)).trans (by show (v 8) = (v 8); omega)
  have lp4 : ∀ (mm : Nat) (v1 : Nat → Int) (l1 : List Int), (e - v1 5).toNat = mm → (lpP (tp f) e 124 (-3) (evP (tp f) e (fac (tp f) e 5)) 101 (ps v1 l1) = soP (tp f) e (fac (tp f) e 5) (ps v l)) → (kp v v1) → (0 ≤ v1 5 ∧ v1 5 ≤ e ∧ (v1 7 = 0 ∨ v1 7 = 1) ∧ (l1.length : Int) ≤ v1 5) → V x cX12_some RX12 1 (rmU 22 471 0 0) [(h, co 12 (mO ad v1)), ((ad 1), cn 0 936 (wrS f a l1))] 4 [(0, ar h)] [] 0 0 := by
    intro mm
    induction mm using Nat.strongRecOn with
    | _ mm ih =>
      intro v1 l1 hmm hrr hkp hb1
      have hk4 : v1 4 = a := (hkp 4 (by decide) (by decide)).trans h4
      have hk6 : v1 6 = e := (hkp 6 (by decide) (by decide)).trans h6
      have hk8 : v1 8 = v 8 := hkp 8 (by decide) (by decide)
      refine v_aload_n (pc := 4) 0 rfl dX12_some_4 ?_
      refine v_get (pc := 5) (v := ai (v1 7)) 7 (Or.inr ⟨0, rfl⟩) fl_12_51_12 rfl dX12_some_5 ?_
      refine v_if_ne (pc := 8) 43 dX12_some_8 (by decide) (by unfold iB; omega) (fun c_5 => ?_) (fun c_5 => ?_)
      · skip
        exact hret (v1, l1) _ _ _ _ _ (by exact ⟨by rw [← hrr]; exact lpP_st (by show ¬ (v1 7 = 0 ∧ hrp (tp f) e (v1 5) = 124); omega), hkp⟩) rfl rfl (Nat.le_of_ble_eq_true rfl) (Nat.le_of_ble_eq_true rfl) dX12_some_43
      · skip
        refine v_aload_n (pc := 11) 0 rfl dX12_some_11 ?_
        refine v_callV (pc := 12) [] [0, 1] [(h, co 12 (mO ad v1)), ((ad 1), cn 0 936 (wrS f a l1))] (As := []) (rest := []) (c_X12_here ad v1 h f a e l1 (v1 5) (by first | omega | assumption) (by first | omega | assumption) (by show (v1 6) = e; omega) (by rfl) (by first | omega | assumption)) (c := 12) rfl (Or.inr ⟨0, rfl⟩) wl_X12_55 wi_X12_here wv_X12_X12_here_X12_here wk_X12_here wz_X12 md_X12_here rfl (Nat.le_of_ble_eq_true rfl) ⟨Nat.le_of_ble_eq_true rfl, Nat.le_of_ble_eq_true rfl, Nat.le_of_ble_eq_true rfl, Nat.le_of_ble_eq_true rfl⟩ rfl rfl rfl rfl (by decide) (ro_cons (Or.inr ⟨0, rfl, by decide⟩) (ro_cons (Or.inr ⟨1, rfl, by decide⟩) ro_nil)) dX12_some_12 (fun u hu => ?_)
        show V x cX12_some RX12 1 (rmU 22 471 0 0) [(h, co 12 (mO ad v1)), ((ad 1), cn 0 936 (wrS f a l1))] 15 [(0, ar h)] [ai (hrp (tp f) e (v1 5))] 0 0
        have hb_6 := hrp_b (p := (v1 5)) hT (by omega)
        refine v_bipush (pc := 15) dX12_some_15 (by decide) ?_
        refine v_icmp_ne (pc := 17) 43 dX12_some_17 (by decide) (by unfold iB; omega) (by unfold iB; omega) (fun c_7 => ?_) (fun c_7 => ?_)
        · skip
          exact hret (v1, l1) _ _ _ _ _ (by exact ⟨by rw [← hrr]; exact lpP_st (by show ¬ (v1 7 = 0 ∧ hrp (tp f) e (v1 5) = 124); omega), hkp⟩) rfl rfl (Nat.le_of_ble_eq_true rfl) (Nat.le_of_ble_eq_true rfl) dX12_some_43
        · skip
          refine v_aload_n (pc := 20) 0 rfl dX12_some_20 ?_
          refine v_dup (pc := 21) rfl dX12_some_21 ?_
          refine v_get (pc := 22) (v := ai (v1 5)) 5 (Or.inr ⟨0, rfl⟩) fl_12_45_12 rfl dX12_some_22 ?_
          refine v_iconst (pc := 25) dX12_some_25 ?_
          refine v_iadd (pc := 26) dX12_some_26 ?_
          refine v_put (pc := 27) 5 0 rfl fl_12_45_12 ck_12 ft_12_5 (okV_i _) (Nat.le_of_ble_eq_true rfl) (ws2 := [(h, co 12 (mO ad (nup v1 5 ((v1 5) + 1)))), ((ad 1), cn 0 936 (wrS f a l1))]) rfl dX12_some_27 ?_
          refine v_aload_n (pc := 30) 0 rfl dX12_some_30 ?_
          refine v_callV (pc := 31) [0, 1] [] [] (As := []) (rest := []) (c_every_5 ad (nup v1 5 ((v1 5) + 1)) h f a e l1 (by first | omega | assumption) (by first | omega | assumption) (by exact hT) (by show (v1 4) = a; omega) (by show (v1 6) = e; omega) (by exact ⟨by show 0 ≤ ((v1 5) + 1); omega, by show ((v1 5) + 1) ≤ e; omega, by show (v1 7) = 0 ∨ (v1 7) = 1; omega⟩) (by show ((l1.length : Nat) : Int) ≤ ((v1 5) + 1); omega) (by show (v1 8) = _; omega)) (c := 12) rfl (Or.inr ⟨0, rfl⟩) wl_X12_98 wi_X12_every wv_X12_X12_every_X12_every wk_X12_every wz_X12 md_X12_every rfl (Nat.le_of_ble_eq_true rfl) ⟨Nat.le_of_ble_eq_true rfl, Nat.le_of_ble_eq_true rfl, Nat.le_of_ble_eq_true rfl, Nat.le_of_ble_eq_true rfl⟩ rfl rfl rfl rfl (by decide) ro_nil dX12_some_31 (fun u hu => ?_)
          obtain ⟨v2_8, l2_9⟩ := u
          have g_10 : evP (tp f) e (fac (tp f) e 5) (ps (nup v1 5 ((v1 5) + 1)) l1) = ps v2_8 l2_9 ∧ kp (nup v1 5 ((v1 5) + 1)) v2_8 := hu
          show V x cX12_some RX12 1 (rmU 22 471 0 0) [(h, co 12 (mO ad v2_8)), ((ad 1), cn 0 936 (wrS f a l2_9))] 34 [(0, ar h)] [] 0 0
          have hn_11 : PN e (ps (nup v1 5 ((v1 5) + 1)) l1) (evP (tp f) e (fac (tp f) e 5) (ps (nup v1 5 ((v1 5) + 1)) l1)) := evP_k (fac_k (t := tp f) 5) _ ⟨by show 0 ≤ ((v1 5) + 1); omega, by show ((v1 5) + 1) ≤ e; omega, by show (v1 7) = 0 ∨ (v1 7) = 1; omega⟩
          rw [g_10.1] at hn_11
          have hn_11a : (0 ≤ v2_8 5 ∧ v2_8 5 ≤ e ∧ (v2_8 7 = 0 ∨ v2_8 7 = 1)) ∧ ((v1 5) + 1) ≤ v2_8 5 ∧ ((v1 5) + 1) - ((l1.length : Nat) : Int) ≤ v2_8 5 - ((l2_9.length : Nat) : Int) := hn_11
          have hn_11k4 : v2_8 4 = a := (g_10.2 4 (by decide) (by decide)).trans (by show (v1 4) = a; omega)
          have hn_11k6 : v2_8 6 = e := (g_10.2 6 (by decide) (by decide)).trans (by show (v1 6) = e; omega)
          have hn_11k8 : v2_8 8 = (v1 8) := (g_10.2 8 (by decide) (by decide)).trans (by show (v1 8) = (v1 8); omega)
          refine v_aload_n (pc := 34) 0 rfl dX12_some_34 ?_
          refine v_bipush (pc := 35) dX12_some_35 (by decide) ?_
          refine v_callV (pc := 37) [1] [0] [(h, co 12 (mO ad v2_8))] (As := [ai (-3)]) (rest := []) (c_X12_emits ad v2_8 h f a e l2_9 (-3) (by first | omega | assumption) (by first | omega | assumption) (by exact hT) (by show (v2_8 4) = a; omega) (by show (v2_8 6) = e; omega) (by exact ⟨by show 0 ≤ (v2_8 5); omega, by show (v2_8 5) ≤ e; omega, by show (v2_8 7) = 0 ∨ (v2_8 7) = 1; omega⟩) (by show ((l2_9.length : Nat) : Int) ≤ 139; omega)) (c := 12) rfl (Or.inr ⟨0, rfl⟩) wl_X12_81 wi_X12_emits wv_X12_X12_emits_X12_emits wk_X12_emits wz_X12 md_X12_emits rfl (Nat.le_of_ble_eq_true rfl) ⟨Nat.le_of_ble_eq_true rfl, Nat.le_of_ble_eq_true rfl, Nat.le_of_ble_eq_true rfl, Nat.le_of_ble_eq_true rfl⟩ rfl rfl rfl rfl (by decide) (ro_cons (Or.inr ⟨0, rfl, by decide⟩) ro_nil) dX12_some_37 (fun u hu => ?_)
          obtain ⟨l2_12, rfl⟩ : ∃ z, z = u := ⟨_, rfl⟩
          have g_13 : emi (-3) (ps v2_8 l2_9) = ps v2_8 l2_12 := hu
          show V x cX12_some RX12 1 (rmU 22 471 0 0) [(h, co 12 (mO ad v2_8)), ((ad 1), cn 0 936 (wrS f a l2_12))] 40 [(0, ar h)] [] 0 0
          refine v_goto (pc := 40) 4 dX12_some_40 (by decide) ?_
          exact ih _ (by omega) v2_8 l2_12 rfl (by rw [← hrr, lpP_go (s := ps v1 l1) (by decide) (evP_k (fac_k 5)) he.2 ⟨hb1.1, hb1.2.1, hb1.2.2.1⟩ (by show v1 7 = 0; omega) (by show hrp (tp f) e (v1 5) = _; omega)]; congr 1; rw [show evP (tp f) e (fac (tp f) e 5) (adv (ps v1 l1)) = _ from g_10.1]; exact g_13.symm) (by exact kp_tr (kp_5 hkp) g_10.2) (by have q := emi_len g_13; omega)
  exact lp4 _ v2_1 l2_2 rfl (by exact congrArg (lpP (tp f) e 124 (-3) (evP (tp f) e (fac (tp f) e 5)) 101) g_3.1.symm) (by exact g_3.2) (by omega)
