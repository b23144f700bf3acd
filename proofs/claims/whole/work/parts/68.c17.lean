/-- the one who is ahead has fewer ahead -/
theorem ahd_lt {M : Int → Int} {i j : Int} (h : M j < M i ∨ (M i = M j ∧ i < j)) (h0 : 0 ≤ i) : ∀ n : Nat, ahd M i n + (if i < (n : Int) then 1 else 0) ≤ ahd M j n
  | 0 => by
    show (0 : Int) + _ ≤ 0
    rw [if_neg (by omega)]
    omega
  | n + 1 => by
    have q := ahd_lt h h0 n
    rw [ahd_succ, ahd_succ]
    by_cases e : i = (n : Int)
    · subst e
      rw [if_neg (by omega)] at q
      rw [if_neg (by omega), if_pos (by omega), if_pos (by omega)]
      omega
    · have e1 : (if i < ((n + 1 : Nat) : Int) then (1 : Int) else 0) = (if i < (n : Int) then 1 else 0) := by
        by_cases z : i < (n : Int)
        · rw [if_pos z, if_pos (by omega)]
        · rw [if_neg z, if_neg (by omega)]
      rw [e1]
      by_cases z : M i < M (n : Int) ∨ (M (n : Int) = M i ∧ (n : Int) < i)
      · rw [if_pos z, if_pos (show M j < M (n : Int) ∨ (M (n : Int) = M j ∧ (n : Int) < j) by omega)]
        omega
      · rw [if_neg z]
        have q2 : (0 : Int) ≤ (if M j < M (n : Int) ∨ (M (n : Int) = M j ∧ (n : Int) < j) then 1 else 0) := by split <;> omega
        omega
theorem ahd_self {M : Int → Int} {n : Nat} : ahd M (n : Int) (n + 1) = ahd M (n : Int) n := by
  rw [ahd_succ, if_neg (by omega)]
  omega
/-- every place is somebody's -/
theorem ahd_ex {M : Int → Int} : ∀ (n : Nat) (k : Int), 0 ≤ k → k < (n : Int) → ∃ i : Int, 0 ≤ i ∧ i < (n : Int) ∧ ahd M i n = k
  | 0, k, h0, h1 => by omega
  | n + 1, k, h0, h1 => by
    have hb := ahd_b M (n : Int) n
    have key : ∀ i : Int, 0 ≤ i → i < (n : Int) → (ahd M i n < ahd M (n : Int) n ∧ ahd M i (n + 1) = ahd M i n) ∨ (ahd M (n : Int) n ≤ ahd M i n ∧ ahd M i (n + 1) = ahd M i n + 1) := by
      intro i i0 i1
      rw [ahd_succ]
      by_cases z : M i < M (n : Int)
      · right
        have q := ahd_lt (M := M) (i := (n : Int)) (j := i) (Or.inl z) (by omega) n
        rw [if_neg (by omega)] at q
        rw [if_pos (Or.inl z)]
        omega
      · left
        have q := ahd_lt (M := M) (i := i) (j := (n : Int)) (by omega) i0 n
        rw [if_pos i1] at q
        rw [if_neg (by omega)]
        omega
    rcases (show k < ahd M (n : Int) n ∨ k = ahd M (n : Int) n ∨ ahd M (n : Int) n < k by omega) with c | c | c
    · obtain ⟨i, i0, i1, e⟩ := ahd_ex (M := M) n k h0 (by omega)
      exact ⟨i, i0, by omega, by have := key i i0 i1; omega⟩
    · exact ⟨(n : Int), by omega, by omega, by rw [ahd_self, c]⟩
    · obtain ⟨i, i0, i1, e⟩ := ahd_ex (M := M) n (k - 1) (by omega) (by omega)
      exact ⟨i, i0, by omega, by have := key i i0 i1; omega⟩
theorem ahd_inj {M : Int → Int} {n : Nat} {i j : Int} (i0 : 0 ≤ i) (i1 : i < (n : Int)) (j0 : 0 ≤ j) (j1 : j < (n : Int)) (h : ahd M i n = ahd M j n) : i = j := by
  rcases (show i = j ∨ (M j < M i ∨ (M i = M j ∧ i < j)) ∨ (M i < M j ∨ (M j = M i ∧ j < i)) by omega) with c | c | c
  · exact c
  · have q := ahd_lt c i0 n
    rw [if_pos i1] at q
    omega
  · have q := ahd_lt c j0 n
    rw [if_pos j1] at q
    omega
theorem ordL_eq {M : Int → Int} {np : Nat} {k i : Int} (i0 : 0 ≤ i) (i1 : i < (np : Int)) (h : ahd M i np = k) : ∀ m : Nat, m ≤ np → i < (m : Int) → ordL M np k m = i
  | 0, _, z => by omega
  | m + 1, hm, z => by
    by_cases e : (m : Int) = i
    · subst e
      unfold ordL
      rw [if_pos h]
    · unfold ordL
      rw [if_neg (fun q => e (ahd_inj (by omega) (by omega) i0 i1 (q.trans h.symm)))]
      exact ordL_eq i0 i1 h m (by omega) (by omega)
theorem aup_k {P : Int → Int} {p q x : Int} (h : p ≠ q) : aup (aup P p x) q (P q) = aup P p x := by
  have e : P q = aup P p x q := (aup_n _ _ (fun z => h z.symm)).symm
  rw [e, aup_id]
theorem mtP_v (a b : Int) : (b < a ∧ mtP a b = 2) ∨ (a = b ∧ mtP a b = 1) ∨ (a < b ∧ mtP a b = 0) := by
  unfold mtP
  (repeat' split) <;> omega
theorem mt_p {f M P Q : Int → Int} {p q z : Int} (hz : P z = Q z) (hp : P p = Q p) (hq : P q = Q q) : mt f M P p q z = mt f M Q p q z := by
  unfold mt aup
  rw [hz, hp, hq]
set_option maxHeartbeats 4000000 in
set_option maxRecDepth 100000 in
theorem c_X11_fillMosts {gS : sG} (mo : Nat) (kw : Nat) (pi : Nat) (ta : Nat) (ms : Nat) (pt : Nat) (po : Nat) (hi : Int) (nw : Nat) (pls : Nat) (ins : Nat) (tap : Nat) (e3 : Nat) (e4 : Nat) (e5 : Nat) (e6 : Nat) (e7 : Nat) (e8 : Nat) (bar : Nat) (fa : Nat) (m : Nat → Int) (fa0 : Int → Int) (iv : Int → Option Nat) (hq : Nat) (ns : Int) (us : Int) (sla : Nat) (ena : Nat) (cda : Nat) (cd : Int → Int) (sl : Int → Int) (en : Int → Int) (pv : Int → Option Nat) (pl : Int → Nat) (tu : Int → Nat) (f : Int → Int) (ms0 : Int → Int) (hS : SOK f) (hI : inC f iv bar hq ns us sl en cd) (hpv : ∀ i : Int, 0 ≤ i → i ≤ f 0 - 1 → pv i = some (pl i)) : Ct gS (S := (Int → Int) × (Nat → Int) × (Int → Int)) yX11_fillMosts cX11_fillMosts 3 none 5 126 0 0 [ar mo] [(ms, cn 0 6 ms0), (pi, co 4 (pO fa m)), (fa, cn 0 6 fa0)] (fun q => q ∈ ([(mo, co 11 [ar nw, ar kw, ar pi, ar ta, ar ms, ar pt, ar po, ai hi]), (nw, co 10 [ar pls, ar ins, ar tap, ar e3, ar e4, ar e5, ar e6, ar e7, ar e8, ai (f 0), ai (f 1), ai (f 4), ai (f 2), ai (f 3), ai (f 6), ar bar]), (pls, cq 3 6 pv), (ins, cq 2 5 iv), (hq, co 3 [ai (kWide f), ai (kPay f), ai ns, ai us, ar sla, ar ena, ar cda]), (cda, cn 0 100 cd), (sla, cn 0 10 sl), (ena, cn 0 10 en)] : aW) ++ zpA ta f pl tu) (fun u => ∀ i : Int, 0 ≤ i → i < f 0 → u.1 i = fMost f i) (fun u => none) (fun u => [(ms, cn 0 6 u.1), (pi, co 4 (pO fa u.2.1)), (fa, cn 0 6 u.2.2)]) := by
  refine ct_V RX11 [(0, ar mo)] (by decide) rfl (Nat.le_of_ble_eq_true rfl) rfl (fun x hgS hnm hro hret => ?_)
  subst hgS
  have r0 := hro _ (List.mem_append_left _ (mem_at 0 rfl))
  have r1 := hro _ (List.mem_append_left _ (mem_at 1 rfl))
  have r2 := hro _ (List.mem_append_left _ (mem_at 2 rfl))
  have r3 := hro _ (List.mem_append_left _ (mem_at 3 rfl))
  have r4 := hro _ (List.mem_append_left _ (mem_at 4 rfl))
  have r5 := hro _ (List.mem_append_left _ (mem_at 5 rfl))
  have r6 := hro _ (List.mem_append_left _ (mem_at 6 rfl))
  have r7 := hro _ (List.mem_append_left _ (mem_at 7 rfl))
  have hra : ∀ q, q ∈ zpA ta f pl tu → Ro x q := fun q h => hro _ (List.mem_append_right _ h)
  obtain ⟨⟨hg0, hg1, hg2, hg3, hg4, hg5, hg6, hg7⟩, hSp, hSh, hSs, hSb, hSt, hSw⟩ := id hS
  show V x cX11_fillMosts RX11 3 (rmU 5 126 0 0) [(ms, cn 0 6 ms0), (pi, co 4 (pO fa m)), (fa, cn 0 6 fa0)] 0 [(0, ar mo)] [] 0 0
  refine v_iconst (pc := 0) dX11_fillMosts_0 ?_
  refine v_istore_n (pc := 1) (L2 := [(1, ai 0), (0, ar mo)]) rfl (by decide) dX11_fillMosts_1 ?_
  have lp2 : ∀ (mm : Nat) (i : Int) (ms1 : Int → Int) (m1 : Nat → Int) (fa1 : Int → Int), (f 0 - i).toNat = mm → (0 ≤ i ∧ i ≤ f 0) → (∀ j : Int, 0 ≤ j → j < i → ms1 j = fMost f j) → V x cX11_fillMosts RX11 3 (rmU 5 126 0 0) [(ms, cn 0 6 ms1), (pi, co 4 (pO fa m1)), (fa, cn 0 6 fa1)] 2 [(0, ar mo), (1, ai i)] [] 0 0 := by
    intro mm
    induction mm using Nat.strongRecOn with
    | _ mm ih =>
      intro i ms1 m1 fa1 hmm hix hms
      refine v_iload_n (pc := 2) 1 rfl dX11_fillMosts_2 ?_
      refine v_aload_n (pc := 3) 0 rfl dX11_fillMosts_3 ?_
      refine v_get (pc := 4) (v := ar nw) 0 (Or.inl r0) fl_11_12_11 rfl dX11_fillMosts_4 ?_
      refine v_get (pc := 7) (v := ai (f 0)) 9 (Or.inl r1) fl_11_71_10 rfl dX11_fillMosts_7 ?_
      refine v_icmp_ge (pc := 10) 48 dX11_fillMosts_10 (by decide) (by unfold iB; omega) (by unfold iB; omega) (fun c_1 => ?_) (fun c_1 => ?_)
      · skip
        exact hret (ms1, m1, fa1) _ _ _ _ _ (by intro j j0 j1; exact hms j j0 (by omega)) rfl rfl (Nat.le_of_ble_eq_true rfl) (Nat.le_of_ble_eq_true rfl) dX11_fillMosts_48
      · skip
        refine v_aload_n (pc := 13) 0 rfl dX11_fillMosts_13 ?_
        refine v_iload_n (pc := 14) 1 rfl dX11_fillMosts_14 ?_
        have hp : 0 ≤ i ∧ i ≤ f 0 - 1 := by omega
        have hpl := hpv i hp.1 hp.2
        have rP := hra _ (zpA_p (ta := ta) (pl := pl) (tu := tu) hp)
        have rQ := hra _ (zpA_t (ta := ta) (pl := pl) (tu := tu) hp)
        have hp6 : 0 ≤ i ∧ i < 6 := by omega
        obtain ⟨hpp, hf1, hf2, hf3, hf4, hf5, hf6, hf7, hf8⟩ := hSp i hp6.1 hp6.2
        refine v_callV (pc := 15) [] [0, 1, 2] [(ms, cn 0 6 ms1), (pi, co 4 (pO fa m1)), (fa, cn 0 6 fa1)] (As := [ai i]) (rest := []) (c_X11_find_y mo kw pi ta ms pt po hi nw pls ins tap e3 e4 e5 e6 e7 e8 bar pv (pl i) f i (by assumption) (by exact hpl) (by exact hp)) (c := 11) rfl (Or.inl r0) wl_X11_99 wi_X11_find wv_X11_X11_find_X11_find wk_X11_find wz_X11 md_X11_find rfl (Nat.le_of_ble_eq_true rfl) ⟨Nat.le_of_ble_eq_true rfl, Nat.le_of_ble_eq_true rfl, Nat.le_of_ble_eq_true rfl, Nat.le_of_ble_eq_true rfl⟩ rfl rfl rfl rfl (by decide) (ro_cons (Or.inl r0) (ro_cons (Or.inl r1) (ro_cons (Or.inl r2) ro_nil))) dX11_fillMosts_15 (fun u hu => ?_)
        show V x cX11_fillMosts RX11 3 (rmU 5 126 0 0) [(ms, cn 0 6 ms1), (pi, co 4 (pO fa m1)), (fa, cn 0 6 fa1)] 18 [(0, ar mo), (1, ai i)] [ar (pl i)] 0 0
        refine v_astore_n (pc := 18) (L2 := [(2, ar (pl i)), (0, ar mo), (1, ai i)]) rfl (by decide) dX11_fillMosts_18 ?_
        refine v_aload_n (pc := 19) 1 rfl dX11_fillMosts_19 ?_
        refine v_get (pc := 20) (v := ar ms) 4 (Or.inl r0) fl_11_32_11 rfl dX11_fillMosts_20 ?_
        refine v_iload_n (pc := 23) 2 rfl dX11_fillMosts_23 ?_
        refine v_aload_n (pc := 24) 0 rfl dX11_fillMosts_24 ?_
        refine v_ifnonnull_r (pc := 25) 32 dX11_fillMosts_25 (by decide) ?_
        refine v_aload_n (pc := 32) 1 rfl dX11_fillMosts_32 ?_
        refine v_aload_n (pc := 33) 0 rfl dX11_fillMosts_33 ?_
        refine v_aload_n (pc := 34) 0 rfl dX11_fillMosts_34 ?_
        refine v_get (pc := 35) (v := ai (f (31 + i))) 6 (Or.inl rP) (flP_11_106 (by omega)) rfl dX11_fillMosts_35 ?_
        refine v_callV (pc := 38) [1, 2] [0] [(ms, cn 0 6 ms1)] (As := [ar (pl i), ai (f (31 + i))]) (rest := [ai i, ar ms]) (c_X11_mostBy mo kw pi ta ms pt po hi nw pls ins tap e3 e4 e5 e6 e7 e8 bar fa m1 fa1 iv hq ns us sla ena cda cd sl en (pl i) (tu i) f i (f (31 + i)) (by assumption) (by assumption) (by first | omega | assumption) (by first | omega | assumption)) (c := 11) rfl (Or.inl r0) wl_X11_187 wi_X11_mostBy wv_X11_X11_mostBy_X11_mostBy wk_X11_mostBy wz_X11 md_X11_mostBy rfl (Nat.le_of_ble_eq_true rfl) ⟨Nat.le_of_ble_eq_true rfl, Nat.le_of_ble_eq_true rfl, Nat.le_of_ble_eq_true rfl, Nat.le_of_ble_eq_true rfl⟩ rfl rfl rfl rfl (by decide) (ro_cons (Or.inl r0) (ro_cons (Or.inl r1) (ro_cons (Or.inl r3) (ro_cons (Or.inl r4) (ro_cons (Or.inl r5) (ro_cons (Or.inl r6) (ro_cons (Or.inl r7) (ro_cons (Or.inl rP) (ro_cons (Or.inl rQ) ro_nil))))))))) dX11_fillMosts_38 (fun u hu => ?_)
        obtain ⟨m2_2, fa2_3⟩ := u
        show V x cX11_fillMosts RX11 3 (rmU 5 126 0 0) [(ms, cn 0 6 ms1), (pi, co 4 (pO fa m2_2)), (fa, cn 0 6 fa2_3)] 41 [(2, ar (pl i)), (0, ar mo), (1, ai i)] [ai (mst (fBest (fS f i (f (19 + i)) (f (31 + i))) i) 99), ai i, ar ms] 0 0
        refine v_eqi (y := fMost f i) (by rw [fS_id]; rfl) ?_
        refine v_iast (pc := 41) 0 rfl (by omega) (by omega) (by decide) (ws2 := [(ms, cn 0 6 (aup ms1 i (fMost f i))), (pi, co 4 (pO fa m2_2)), (fa, cn 0 6 fa2_3)]) rfl dX11_fillMosts_41 ?_
        refine v_iinc (pc := 42) 2 (L2 := [(1, ai (i + 1)), (2, ar (pl i)), (0, ar mo)]) rfl rfl (by decide) dX11_fillMosts_42 ?_
        refine v_goto (pc := 45) 2 dX11_fillMosts_45 (by decide) ?_
        refine v_sub (L2 := [(0, ar mo), (1, ai (i + 1))]) [2, 0] rfl ?_
        exact ih _ (by omega) (i + 1) (aup ms1 i (fMost f i)) m2_2 fa2_3 rfl (by omega) (by intro j j0 j1; by_cases e : j = i; subst e; exact aup_s _ _ _; rw [aup_n _ _ e]; exact hms j j0 (by omega))
  refine v_sub (L2 := [(0, ar mo), (1, ai 0)]) [1, 0] rfl ?_
  exact lp2 _ 0 ms0 m fa0 rfl (by omega) (by intro j j0 j1; exfalso; omega)
set_option maxHeartbeats 4000000 in
set_option maxRecDepth 100000 in
theorem c_X11_placeOf {gS : sG} (mo : Nat) (kw : Nat) (pi : Nat) (ta : Nat) (ms : Nat) (pt : Nat) (po : Nat) (hi : Int) (nw : Nat) (pls : Nat) (ins : Nat) (tap : Nat) (e3 : Nat) (e4 : Nat) (e5 : Nat) (e6 : Nat) (e7 : Nat) (e8 : Nat) (bar : Nat) (f : Int → Int) (ms0 : Int → Int) (i : Int) (hS : SOK f) (hms : ∀ j : Int, 0 ≤ j → j < f 0 → 0 ≤ ms0 j ∧ ms0 j ≤ 99) (hix : 0 ≤ i ∧ i < f 0) : Ct gS (S := Unit) yX11_placeOf cX11_placeOf 4 (some .int) 0 0 0 0 [ar mo, ai i] [] (fun q => q ∈ ([(mo, co 11 [ar nw, ar kw, ar pi, ar ta, ar ms, ar pt, ar po, ai hi]), (nw, co 10 [ar pls, ar ins, ar tap, ar e3, ar e4, ar e5, ar e6, ar e7, ar e8, ai (f 0), ai (f 1), ai (f 4), ai (f 2), ai (f 3), ai (f 6), ar bar]), (ms, cn 0 6 ms0)] : aW)) (fun _ => True) (fun _ => some (ai (ahd ms0 i (f 0).toNat))) (fun _ => []) := by
  refine ct_I RX11 [(0, ar mo), (1, ai i)] (by decide) rfl (Nat.le_of_ble_eq_true rfl) rfl (fun x hgS hro hret => ?_)
  subst hgS
  have r0 := hro _ (mem_at 0 rfl)
  have r1 := hro _ (mem_at 1 rfl)
  have r2 := hro _ (mem_at 2 rfl)
  obtain ⟨⟨hg0, hg1, hg2, hg3, hg4, hg5, hg6, hg7⟩, hSp, hSh, hSs, hSb, hSt, hSw⟩ := id hS
  have hmi := hms i hix.1 hix.2
  show V x cX11_placeOf RX11 4 (rmU 0 0 0 0) [] 0 [(0, ar mo), (1, ai i)] [] 0 0
  refine v_iconst (pc := 0) dX11_placeOf_0 ?_
  refine v_istore_n (pc := 1) (L2 := [(2, ai 0), (0, ar mo), (1, ai i)]) rfl (by decide) dX11_placeOf_1 ?_
  refine v_iconst (pc := 2) dX11_placeOf_2 ?_
  refine v_istore_n (pc := 3) (L2 := [(3, ai 0), (2, ai 0), (0, ar mo), (1, ai i)]) rfl (by decide) dX11_placeOf_3 ?_
  have lp4 : ∀ (mm : Nat) (ac : Int) (j : Int), (f 0 - j).toNat = mm → (0 ≤ j ∧ j ≤ f 0) → (ac = ahd ms0 i j.toNat) → V x cX11_placeOf RX11 4 (rmU 0 0 0 0) [] 4 [(0, ar mo), (1, ai i), (2, ai ac), (3, ai j)] [] 0 0 := by
    intro mm
    induction mm using Nat.strongRecOn with
    | _ mm ih =>
      intro ac j hmm hj hac
      have hab := ahd_b ms0 i j.toNat
      refine v_iload_n (pc := 4) 3 rfl dX11_placeOf_4 ?_
      refine v_aload_n (pc := 5) 0 rfl dX11_placeOf_5 ?_
      refine v_get (pc := 6) (v := ar nw) 0 (Or.inl r0) fl_11_12_11 rfl dX11_placeOf_6 ?_
      refine v_get (pc := 9) (v := ai (f 0)) 9 (Or.inl r1) fl_11_71_10 rfl dX11_placeOf_9 ?_
      refine v_icmp_ge (pc := 12) 59 dX11_placeOf_12 (by decide) (by unfold iB; omega) (by unfold iB; omega) (fun c_1 => ?_) (fun c_1 => ?_)
      · skip
        refine v_iload_n (pc := 59) 2 rfl dX11_placeOf_59 ?_
        exact hret () _ _ _ _ _ _ trivial (congrArg (fun z => some (ai z)) (by rw [hac, show j.toNat = (f 0).toNat by omega])) rfl (Nat.le_of_ble_eq_true rfl) (Nat.le_of_ble_eq_true rfl) dX11_placeOf_60
      · skip
        refine v_aload_n (pc := 15) 0 rfl dX11_placeOf_15 ?_
        refine v_get (pc := 16) (v := ar ms) 4 (Or.inl r0) fl_11_32_11 rfl dX11_placeOf_16 ?_
        have hmj := hms j (by omega) (by omega)
        refine v_iload_n (pc := 19) 3 rfl dX11_placeOf_19 ?_
        refine v_iald (pc := 20) (Or.inl r2) (by omega) (by omega) (by decide) dX11_placeOf_20 ?_
        refine v_aload_n (pc := 21) 0 rfl dX11_placeOf_21 ?_
        refine v_get (pc := 22) (v := ar ms) 4 (Or.inl r0) fl_11_32_11 rfl dX11_placeOf_22 ?_
        refine v_iload_n (pc := 25) 1 rfl dX11_placeOf_25 ?_
        refine v_iald (pc := 26) (Or.inl r2) (by omega) (by omega) (by decide) dX11_placeOf_26 ?_
        refine v_icmp_gt (pc := 27) 50 dX11_placeOf_27 (by decide) (by unfold iB; omega) (by unfold iB; omega) (fun c_2 => ?_) (fun c_2 => ?_)
        · skip
          refine v_iinc (pc := 50) 2 (L2 := [(2, ai (ac + 1)), (0, ar mo), (1, ai i), (3, ai j)]) rfl rfl (by decide) dX11_placeOf_50 ?_
          refine v_iinc (pc := 53) 3 (L2 := [(3, ai (j + 1)), (2, ai (ac + 1)), (0, ar mo), (1, ai i)]) rfl rfl (by decide) dX11_placeOf_53 ?_
          refine v_goto (pc := 56) 4 dX11_placeOf_56 (by decide) ?_
          refine v_sub (L2 := [(0, ar mo), (1, ai i), (2, ai (ac + 1)), (3, ai (j + 1))]) [2, 3, 1, 0] rfl ?_
          exact ih _ (by omega) (ac + 1) (j + 1) rfl (by omega) (by rw [show (j + 1).toNat = j.toNat + 1 by omega, ahd_succ, show ((j.toNat : Nat) : Int) = j by omega]; first | (rw [if_pos (by omega)]; omega) | (rw [if_neg (by omega)]; omega))
        · skip
          refine v_aload_n (pc := 30) 0 rfl dX11_placeOf_30 ?_
          refine v_get (pc := 31) (v := ar ms) 4 (Or.inl r0) fl_11_32_11 rfl dX11_placeOf_31 ?_
          refine v_iload_n (pc := 34) 3 rfl dX11_placeOf_34 ?_
          refine v_iald (pc := 35) (Or.inl r2) (by omega) (by omega) (by decide) dX11_placeOf_35 ?_
          refine v_aload_n (pc := 36) 0 rfl dX11_placeOf_36 ?_
          refine v_get (pc := 37) (v := ar ms) 4 (Or.inl r0) fl_11_32_11 rfl dX11_placeOf_37 ?_
          refine v_iload_n (pc := 40) 1 rfl dX11_placeOf_40 ?_
          refine v_iald (pc := 41) (Or.inl r2) (by omega) (by omega) (by decide) dX11_placeOf_41 ?_
          refine v_icmp_ne (pc := 42) 53 dX11_placeOf_42 (by decide) (by unfold iB; omega) (by unfold iB; omega) (fun c_3 => ?_) (fun c_3 => ?_)
          · skip
            refine v_iinc (pc := 53) 3 (L2 := [(3, ai (j + 1)), (0, ar mo), (1, ai i), (2, ai ac)]) rfl rfl (by decide) dX11_placeOf_53 ?_
            refine v_goto (pc := 56) 4 dX11_placeOf_56 (by decide) ?_
            refine v_sub (L2 := [(0, ar mo), (1, ai i), (2, ai ac), (3, ai (j + 1))]) [1, 2, 3, 0] rfl ?_
            exact ih _ (by omega) ac (j + 1) rfl (by omega) (by rw [show (j + 1).toNat = j.toNat + 1 by omega, ahd_succ, show ((j.toNat : Nat) : Int) = j by omega]; first | (rw [if_pos (by omega)]; omega) | (rw [if_neg (by omega)]; omega))
          · skip
            refine v_iload_n (pc := 45) 3 rfl dX11_placeOf_45 ?_
            refine v_iload_n (pc := 46) 1 rfl dX11_placeOf_46 ?_
            refine v_icmp_ge (pc := 47) 53 dX11_placeOf_47 (by decide) (by unfold iB; omega) (by unfold iB; omega) (fun c_4 => ?_) (fun c_4 => ?_)
            · skip
              refine v_iinc (pc := 53) 3 (L2 := [(3, ai (j + 1)), (0, ar mo), (1, ai i), (2, ai ac)]) rfl rfl (by decide) dX11_placeOf_53 ?_
              refine v_goto (pc := 56) 4 dX11_placeOf_56 (by decide) ?_
              refine v_sub (L2 := [(0, ar mo), (1, ai i), (2, ai ac), (3, ai (j + 1))]) [1, 2, 3, 0] rfl ?_
              exact ih _ (by omega) ac (j + 1) rfl (by omega) (by rw [show (j + 1).toNat = j.toNat + 1 by omega, ahd_succ, show ((j.toNat : Nat) : Int) = j by omega]; first | (rw [if_pos (by omega)]; omega) | (rw [if_neg (by omega)]; omega))
            · skip
              refine v_iinc (pc := 50) 2 (L2 := [(2, ai (ac + 1)), (0, ar mo), (1, ai i), (3, ai j)]) rfl rfl (by decide) dX11_placeOf_50 ?_
              refine v_iinc (pc := 53) 3 (L2 := [(3, ai (j + 1)), (2, ai (ac + 1)), (0, ar mo), (1, ai i)]) rfl rfl (by decide) dX11_placeOf_53 ?_
              refine v_goto (pc := 56) 4 dX11_placeOf_56 (by decide) ?_
              refine v_sub (L2 := [(0, ar mo), (1, ai i), (2, ai (ac + 1)), (3, ai (j + 1))]) [2, 3, 1, 0] rfl ?_
              exact ih _ (by omega) (ac + 1) (j + 1) rfl (by omega) (by rw [show (j + 1).toNat = j.toNat + 1 by omega, ahd_succ, show ((j.toNat : Nat) : Int) = j by omega]; first | (rw [if_pos (by omega)]; omega) | (rw [if_neg (by omega)]; omega))
  refine v_sub (L2 := [(0, ar mo), (1, ai i), (2, ai 0), (3, ai 0)]) [2, 3, 1, 0] rfl ?_
  exact lp4 _ 0 0 rfl (by omega) (by rfl)
set_option maxHeartbeats 4000000 in
set_option maxRecDepth 100000 in
theorem c_X11_order {gS : sG} (mo : Nat) (kw : Nat) (pi : Nat) (ta : Nat) (ms : Nat) (pt : Nat) (po : Nat) (hi : Int) (nw : Nat) (pls : Nat) (ins : Nat) (tap : Nat) (e3 : Nat) (e4 : Nat) (e5 : Nat) (e6 : Nat) (e7 : Nat) (e8 : Nat) (bar : Nat) (fa : Nat) (m : Nat → Int) (fa0 : Int → Int) (iv : Int → Option Nat) (hq : Nat) (ns : Int) (us : Int) (sla : Nat) (ena : Nat) (cda : Nat) (cd : Int → Int) (sl : Int → Int) (en : Int → Int) (pv : Int → Option Nat) (pl : Int → Nat) (tu : Int → Nat) (f : Int → Int) (ms0 : Int → Int) (k : Int) (hS : SOK f) (hI : inC f iv bar hq ns us sl en cd) (hpv : ∀ i : Int, 0 ≤ i → i ≤ f 0 - 1 → pv i = some (pl i)) (hb_k : -2147483648 ≤ k ∧ k < 2147483648) : Ct gS (S := (Int → Int) × (Nat → Int) × (Int → Int)) yX11_order cX11_order 3 (some .int) 6 148 0 0 [ar mo, ai k] [(ms, cn 0 6 ms0), (pi, co 4 (pO fa m)), (fa, cn 0 6 fa0)] (fun q => q ∈ ([(mo, co 11 [ar nw, ar kw, ar pi, ar ta, ar ms, ar pt, ar po, ai hi]), (nw, co 10 [ar pls, ar ins, ar tap, ar e3, ar e4, ar e5, ar e6, ar e7, ar e8, ai (f 0), ai (f 1), ai (f 4), ai (f 2), ai (f 3), ai (f 6), ar bar]), (pls, cq 3 6 pv), (ins, cq 2 5 iv), (hq, co 3 [ai (kWide f), ai (kPay f), ai ns, ai us, ar sla, ar ena, ar cda]), (cda, cn 0 100 cd), (sla, cn 0 10 sl), (ena, cn 0 10 en)] : aW) ++ zpA ta f pl tu) (fun u => True) (fun u => some (ai (qOrder f k))) (fun u => [(ms, cn 0 6 u.1), (pi, co 4 (pO fa u.2.1)), (fa, cn 0 6 u.2.2)]) := by
  refine ct_I RX11 [(0, ar mo), (1, ai k)] (by decide) rfl (Nat.le_of_ble_eq_true rfl) rfl (fun x hgS hro hret => ?_)
  subst hgS
  have r0 := hro _ (List.mem_append_left _ (mem_at 0 rfl))
  have r1 := hro _ (List.mem_append_left _ (mem_at 1 rfl))
  have r2 := hro _ (List.mem_append_left _ (mem_at 2 rfl))
  have r3 := hro _ (List.mem_append_left _ (mem_at 3 rfl))
  have r4 := hro _ (List.mem_append_left _ (mem_at 4 rfl))
  have r5 := hro _ (List.mem_append_left _ (mem_at 5 rfl))
  have r6 := hro _ (List.mem_append_left _ (mem_at 6 rfl))
  have r7 := hro _ (List.mem_append_left _ (mem_at 7 rfl))
  have hra : ∀ q, q ∈ zpA ta f pl tu → Ro x q := fun q h => hro _ (List.mem_append_right _ h)
  obtain ⟨⟨hg0, hg1, hg2, hg3, hg4, hg5, hg6, hg7⟩, hSp, hSh, hSs, hSb, hSt, hSw⟩ := id hS
  show V x cX11_order RX11 3 (rmU 6 148 0 0) [(ms, cn 0 6 ms0), (pi, co 4 (pO fa m)), (fa, cn 0 6 fa0)] 0 [(0, ar mo), (1, ai k)] [] 0 0
  refine v_iload_n (pc := 0) 1 rfl dX11_order_0 ?_
  refine v_iconst (pc := 1) dX11_order_1 ?_
  refine v_aload_n (pc := 2) 0 rfl dX11_order_2 ?_
  refine v_get (pc := 3) (v := ar nw) 0 (Or.inl r0) fl_11_12_11 rfl dX11_order_3 ?_
  refine v_get (pc := 6) (v := ai (f 0)) 9 (Or.inl r1) fl_11_71_10 rfl dX11_order_6 ?_
  refine v_iconst (pc := 9) dX11_order_9 ?_
  refine v_isub (pc := 10) dX11_order_10 ?_
  refine v_callS (pc := 11) [] [0, 1, 2] [(ms, cn 0 6 ms0), (pi, co 4 (pO fa m)), (fa, cn 0 6 fa0)] (As := [ai k, ai 0, ai ((f 0) - 1)]) (rest := []) (c_X11_isOut k 0 ((f 0) - 1) (by first | omega | assumption) (by first | omega | assumption) (by first | omega | assumption)) wl_X11_41 ws_X11_isOut wk_X11_isOut wz_X11 md_X11_isOut rfl (Nat.le_of_ble_eq_true rfl) ⟨Nat.le_of_ble_eq_true rfl, Nat.le_of_ble_eq_true rfl, Nat.le_of_ble_eq_true rfl, Nat.le_of_ble_eq_true rfl⟩ rfl rfl rfl rfl (by decide) ro_nil dX11_order_11 (fun u hu => ?_)
  show V x cX11_order RX11 3 (rmU 6 148 0 0) [(ms, cn 0 6 ms0), (pi, co 4 (pO fa m)), (fa, cn 0 6 fa0)] 14 [(0, ar mo), (1, ai k)] [ai (if k < 0 ∨ ((f 0) - 1) < k then 1 else 0)] 0 0
  refine v_ifb_eq (pc := 14) 19 dX11_order_14 (by decide) (fun c_1 => ?_) (fun c_1 => ?_)
  · skip
    refine v_aload_n (pc := 19) 0 rfl dX11_order_19 ?_
    refine v_callV (pc := 20) [0, 1, 2] [] [] (As := []) (rest := []) (c_X11_fillMosts mo kw pi ta ms pt po hi nw pls ins tap e3 e4 e5 e6 e7 e8 bar fa m fa0 iv hq ns us sla ena cda cd sl en pv pl tu f ms0 (by assumption) (by assumption) (by assumption)) (c := 11) rfl (Or.inl r0) wl_X11_229 wi_X11_fillMosts wv_X11_X11_fillMosts_X11_fillMosts wk_X11_fillMosts wz_X11 md_X11_fillMosts rfl (Nat.le_of_ble_eq_true rfl) ⟨Nat.le_of_ble_eq_true rfl, Nat.le_of_ble_eq_true rfl, Nat.le_of_ble_eq_true rfl, Nat.le_of_ble_eq_true rfl⟩ rfl rfl rfl rfl (by decide) (ro_app (ro_cons (Or.inl r0) (ro_cons (Or.inl r1) (ro_cons (Or.inl r2) (ro_cons (Or.inl r3) (ro_cons (Or.inl r4) (ro_cons (Or.inl r5) (ro_cons (Or.inl r6) (ro_cons (Or.inl r7) ro_nil)))))))) (fun q h => Or.inl (hra q h))) dX11_order_20 (fun u hu => ?_)
    obtain ⟨ms2_2, m2_3, fa2_4⟩ := u
    have g_5 : ∀ i : Int, 0 ≤ i → i < f 0 → ms2_2 i = fMost f i := hu
    show V x cX11_order RX11 3 (rmU 6 148 0 0) [(ms, cn 0 6 ms2_2), (pi, co 4 (pO fa m2_3)), (fa, cn 0 6 fa2_4)] 23 [(0, ar mo), (1, ai k)] [] 0 0
    have hfm := g_5
    have hcg : ∀ i : Int, 0 ≤ i → i < f 0 → ahd ms2_2 i (f 0).toNat = ahd (fMost f) i (f 0).toNat := fun i i0 i1 => ahd_congr _ (fun j j0 j1 => hfm j j0 (by omega)) (hfm i i0 i1)
    refine v_iconst (pc := 23) dX11_order_23 ?_
    refine v_istore_n (pc := 24) (L2 := [(2, ai 0), (0, ar mo), (1, ai k)]) rfl (by decide) dX11_order_24 ?_
    have lp25 : ∀ (mm : Nat) (i : Int), (f 0 - i).toNat = mm → (0 ≤ i ∧ i ≤ f 0) → (∀ j : Int, 0 ≤ j → j < i → ahd (fMost f) j (f 0).toNat ≠ k) → V x cX11_order RX11 3 (rmU 6 148 0 0) [(ms, cn 0 6 ms2_2), (pi, co 4 (pO fa m2_3)), (fa, cn 0 6 fa2_4)] 25 [(0, ar mo), (1, ai k), (2, ai i)] [] 0 0 := by
      intro mm
      induction mm using Nat.strongRecOn with
      | _ mm ih =>
        intro i hmm hix hno
        refine v_iload_n (pc := 25) 2 rfl dX11_order_25 ?_
        refine v_aload_n (pc := 26) 0 rfl dX11_order_26 ?_
        refine v_get (pc := 27) (v := ar nw) 0 (Or.inl r0) fl_11_12_11 rfl dX11_order_27 ?_
        refine v_get (pc := 30) (v := ai (f 0)) 9 (Or.inl r1) fl_11_71_10 rfl dX11_order_30 ?_
        refine v_icmp_ge (pc := 33) 53 dX11_order_33 (by decide) (by unfold iB; omega) (by unfold iB; omega) (fun c_6 => ?_) (fun c_6 => ?_)
        · skip
          refine v_iconst (pc := 53) dX11_order_53 ?_
          exact hret (ms2_2, m2_3, fa2_4) _ _ _ _ _ _ trivial (congrArg (fun z => some (ai z)) (by exfalso; obtain ⟨j, j0, j1, e⟩ := ahd_ex (M := fMost f) (f 0).toNat k (by omega) (by omega); exact hno j j0 (by omega) e)) rfl (Nat.le_of_ble_eq_true rfl) (Nat.le_of_ble_eq_true rfl) dX11_order_54
        · skip
          refine v_aload_n (pc := 36) 0 rfl dX11_order_36 ?_
          refine v_iload_n (pc := 37) 2 rfl dX11_order_37 ?_
          have hab := ahd_b (fMost f) i (f 0).toNat
          refine v_callV (pc := 38) [] [0, 1, 2] [(ms, cn 0 6 ms2_2), (pi, co 4 (pO fa m2_3)), (fa, cn 0 6 fa2_4)] (As := [ai i]) (rest := []) (c_X11_placeOf mo kw pi ta ms pt po hi nw pls ins tap e3 e4 e5 e6 e7 e8 bar f ms2_2 i (by assumption) (by intro j j0 j1; rw [hfm j j0 j1]; exact fMost_b) (by first | omega | assumption)) (c := 11) rfl (Or.inl r0) wl_X11_232 wi_X11_placeOf wv_X11_X11_placeOf_X11_placeOf wk_X11_placeOf wz_X11 md_X11_placeOf rfl (Nat.le_of_ble_eq_true rfl) ⟨Nat.le_of_ble_eq_true rfl, Nat.le_of_ble_eq_true rfl, Nat.le_of_ble_eq_true rfl, Nat.le_of_ble_eq_true rfl⟩ rfl rfl rfl rfl (by decide) (ro_cons (Or.inl r0) (ro_cons (Or.inl r1) (ro_cons (Or.inr ⟨0, rfl, by decide⟩) ro_nil))) dX11_order_38 (fun u hu => ?_)
          show V x cX11_order RX11 3 (rmU 6 148 0 0) [(ms, cn 0 6 ms2_2), (pi, co 4 (pO fa m2_3)), (fa, cn 0 6 fa2_4)] 41 [(0, ar mo), (1, ai k), (2, ai i)] [ai (ahd ms2_2 i (f 0).toNat)] 0 0
          refine v_eqi (y := ahd (fMost f) i (f 0).toNat) (hcg i (by omega) (by omega)) ?_
          refine v_iload_n (pc := 41) 1 rfl dX11_order_41 ?_
          refine v_icmp_ne (pc := 42) 47 dX11_order_42 (by decide) (by unfold iB; omega) (by unfold iB; omega) (fun c_7 => ?_) (fun c_7 => ?_)
          · skip
            refine v_iinc (pc := 47) 2 (L2 := [(2, ai (i + 1)), (0, ar mo), (1, ai k)]) rfl rfl (by decide) dX11_order_47 ?_
            refine v_goto (pc := 50) 25 dX11_order_50 (by decide) ?_
            refine v_sub (L2 := [(0, ar mo), (1, ai k), (2, ai (i + 1))]) [1, 2, 0] rfl ?_
            exact ih _ (by omega) (i + 1) rfl (by omega) (by intro j j0 j1 e; by_cases z : j = i; subst z; omega; exact hno j j0 (by omega) e)
          · skip
            refine v_iload_n (pc := 45) 2 rfl dX11_order_45 ?_
            exact hret (ms2_2, m2_3, fa2_4) _ _ _ _ _ _ trivial (congrArg (fun z => some (ai z)) (by unfold qOrder; rw [if_neg (by omega)]; exact ordL_eq (by omega) (by omega) (by omega) _ (Nat.le_refl _) (by omega))) rfl (Nat.le_of_ble_eq_true rfl) (Nat.le_of_ble_eq_true rfl) dX11_order_46
    refine v_sub (L2 := [(0, ar mo), (1, ai k), (2, ai 0)]) [1, 2, 0] rfl ?_
    exact lp25 _ 0 rfl (by omega) (by intro j j0 j1; exfalso; omega)
  · skip
    refine v_iconst (pc := 17) dX11_order_17 ?_
    exact hret (ms0, m, fa0) _ _ _ _ _ _ trivial (congrArg (fun z => some (ai z)) (by unfold qOrder; (repeat' split) <;> first | rfl | (exfalso; omega) | omega)) rfl (Nat.le_of_ble_eq_true rfl) (Nat.le_of_ble_eq_true rfl) dX11_order_18
set_option maxHeartbeats 4000000 in
set_option maxRecDepth 100000 in
theorem c_X11_addPoints {gS : sG} (mo : Nat) (kw : Nat) (pi : Nat) (ta : Nat) (ms : Nat) (pt : Nat) (po : Nat) (hi : Int) (nw : Nat) (pls : Nat) (ins : Nat) (tap : Nat) (e3 : Nat) (e4 : Nat) (e5 : Nat) (e6 : Nat) (e7 : Nat) (e8 : Nat) (bar : Nat) (fa : Nat) (m : Nat → Int) (fa0 : Int → Int) (iv : Int → Option Nat) (hq : Nat) (ns : Int) (us : Int) (sla : Nat) (ena : Nat) (cda : Nat) (cd : Int → Int) (sl : Int → Int) (en : Int → Int) (q1 : Nat) (t1 : Nat) (q2 : Nat) (t2 : Nat) (f : Int → Int) (a : Int) (b : Int) (ms0 : Int → Int) (pt0 : Int → Int) (hS : SOK f) (hI : inC f iv bar hq ns us sl en cd) (ha : 0 ≤ a ∧ a < 6) (hb : 0 ≤ b ∧ b < 6) (hab : a ≠ b) (hms : (0 ≤ ms0 a ∧ ms0 a ≤ 99) ∧ 0 ≤ ms0 b ∧ ms0 b ≤ 99) (hpt : (0 ≤ pt0 a ∧ pt0 a ≤ 100) ∧ 0 ≤ pt0 b ∧ pt0 b ≤ 100) : Ct gS (S := (Int → Int) × (Nat → Int) × (Int → Int)) yX11_addPoints cX11_addPoints 10 none 5 136 0 0 [ar mo, ar q1, ar q2] [(pt, cn 0 6 pt0), (pi, co 4 (pO fa m)), (fa, cn 0 6 fa0)] (fun q => q ∈ ([(mo, co 11 [ar nw, ar kw, ar pi, ar ta, ar ms, ar pt, ar po, ai hi]), (nw, co 10 [ar pls, ar ins, ar tap, ar e3, ar e4, ar e5, ar e6, ar e7, ar e8, ai (f 0), ai (f 1), ai (f 4), ai (f 2), ai (f 3), ai (f 6), ar bar]), (ins, cq 2 5 iv), (hq, co 3 [ai (kWide f), ai (kPay f), ai ns, ai us, ar sla, ar ena, ar cda]), (cda, cn 0 100 cd), (sla, cn 0 10 sl), (ena, cn 0 10 en), (q1, zpO ta f a t1), tqC ta f a q1 t1, (q2, zpO ta f b t2), tqC ta f b q2 t2, (ms, cn 0 6 ms0)] : aW)) (fun u => u.1 = mt f ms0 pt0 a b) (fun u => none) (fun u => [(pt, cn 0 6 u.1), (pi, co 4 (pO fa u.2.1)), (fa, cn 0 6 u.2.2)]) := by
  refine ct_V RX11 [(0, ar mo), (1, ar q1), (2, ar q2)] (by decide) rfl (Nat.le_of_ble_eq_true rfl) rfl (fun x hgS hnm hro hret => ?_)
  subst hgS
  have r0 := hro _ (mem_at 0 rfl)
  have r1 := hro _ (mem_at 1 rfl)
  have r2 := hro _ (mem_at 2 rfl)
  have r3 := hro _ (mem_at 3 rfl)
  have r4 := hro _ (mem_at 4 rfl)
  have r5 := hro _ (mem_at 5 rfl)
  have r6 := hro _ (mem_at 6 rfl)
  have r7 := hro _ (mem_at 7 rfl)
  have r8 := hro _ (mem_at 8 rfl)
  have r9 := hro _ (mem_at 9 rfl)
  have r10 := hro _ (mem_at 10 rfl)
  have r11 := hro _ (mem_at 11 rfl)
  obtain ⟨⟨hg0, hg1, hg2, hg3, hg4, hg5, hg6, hg7⟩, hSp, hSh, hSs, hSb, hSt, hSw⟩ := id hS
  obtain ⟨hpp, hf1, hf2, hf3, hf4, hf5, hf6, hf7, hf8⟩ := hSp a ha.1 ha.2
  obtain ⟨hppb, hf1b, hf2b, hf3b, hf4b, hf5b, hf6b, hf7b, hf8b⟩ := hSp b hb.1 hb.2
  have hN : mtN ms0 a b = (if 1 < (if ms0 a < ms0 b then ms0 b else ms0 a) then (if ms0 a < ms0 b then ms0 b else ms0 a) else 1) := by unfold mtN; (repeat' split) <;> omega
  have hrb := rs_b (G := rsG f a b (mtN ms0 a b)) (fun _ => fBest_b) 4
  have e10k : (10 : Int) ^ 4 = 10000 := by decide
  rw [e10k] at hrb
  have hwv : mtW f ms0 a b = (rs (rsG f a b (mtN ms0 a b)) 4).1 := rfl
  have hlv : mtL f ms0 a b = 10000 - (rs (rsG f a b (mtN ms0 a b)) 4).1 - (rs (rsG f a b (mtN ms0 a b)) 4).2 := rfl
  have hv1 := mtP_v (mtW f ms0 a b) (mtL f ms0 a b)
  have hv2 := mtP_v (mtL f ms0 a b) (mtW f ms0 a b)
  show V x cX11_addPoints RX11 10 (rmU 5 136 0 0) [(pt, cn 0 6 pt0), (pi, co 4 (pO fa m)), (fa, cn 0 6 fa0)] 0 [(0, ar mo), (1, ar q1), (2, ar q2)] [] 0 0
  refine v_aload_n (pc := 0) 1 rfl dX11_addPoints_0 ?_
  refine v_get (pc := 1) (v := ai a) 2 (Or.inl r7) (flP_11_80 (by omega)) rfl dX11_addPoints_1 ?_
  refine v_istore_n (pc := 4) (L2 := [(3, ai a), (0, ar mo), (1, ar q1), (2, ar q2)]) rfl (by decide) dX11_addPoints_4 ?_
  refine v_aload_n (pc := 5) 3 rfl dX11_addPoints_5 ?_
  refine v_get (pc := 6) (v := ai b) 2 (Or.inl r9) (flP_11_80 (by omega)) rfl dX11_addPoints_6 ?_
  refine v_istore (pc := 9) (L2 := [(4, ai b), (3, ai a), (0, ar mo), (1, ar q1), (2, ar q2)]) rfl (by decide) dX11_addPoints_9 ?_
  refine v_iconst (pc := 11) dX11_addPoints_11 ?_
  refine v_aload_n (pc := 12) 2 rfl dX11_addPoints_12 ?_
  refine v_get (pc := 13) (v := ar ms) 4 (Or.inl r0) fl_11_32_11 rfl dX11_addPoints_13 ?_
  refine v_iload_n (pc := 16) 1 rfl dX11_addPoints_16 ?_
  refine v_iald (pc := 17) (Or.inl r11) (by omega) (by omega) (by decide) dX11_addPoints_17 ?_
  refine v_aload_n (pc := 18) 2 rfl dX11_addPoints_18 ?_
  refine v_get (pc := 19) (v := ar ms) 4 (Or.inl r0) fl_11_32_11 rfl dX11_addPoints_19 ?_
  refine v_iload (pc := 22) 0 rfl dX11_addPoints_22 ?_
  refine v_iald (pc := 24) (Or.inl r11) (by omega) (by omega) (by decide) dX11_addPoints_24 ?_
  refine v_callS (pc := 25) [] [0, 1, 2] [(pt, cn 0 6 pt0), (pi, co 4 (pO fa m)), (fa, cn 0 6 fa0)] (As := [ai (ms0 a), ai (ms0 b)]) (rest := [ai 1]) (c_J9_max_7cf53 (ms0 a) (ms0 b) (by first | omega | assumption) (by first | omega | assumption)) wl_X11_191 ws_J9_max_7cf53 wk_J9_max_7cf53 wz_J9 md_J9_max_7cf53 rfl (Nat.le_of_ble_eq_true rfl) ⟨Nat.le_of_ble_eq_true rfl, Nat.le_of_ble_eq_true rfl, Nat.le_of_ble_eq_true rfl, Nat.le_of_ble_eq_true rfl⟩ rfl rfl rfl rfl (by decide) ro_nil dX11_addPoints_25 (fun u hu => ?_)
  show V x cX11_addPoints RX11 10 (rmU 5 136 0 0) [(pt, cn 0 6 pt0), (pi, co 4 (pO fa m)), (fa, cn 0 6 fa0)] 28 [(4, ai b), (3, ai a), (0, ar mo), (1, ar q1), (2, ar q2)] [ai (if (ms0 a) < (ms0 b) then (ms0 b) else (ms0 a)), ai 1] 0 0
  refine v_callS (pc := 28) [] [0, 1, 2] [(pt, cn 0 6 pt0), (pi, co 4 (pO fa m)), (fa, cn 0 6 fa0)] (As := [ai 1, ai (if (ms0 a) < (ms0 b) then (ms0 b) else (ms0 a))]) (rest := []) (c_J9_max_7cf53 1 (if (ms0 a) < (ms0 b) then (ms0 b) else (ms0 a)) (by first | omega | assumption) (by first | omega | assumption)) wl_X11_191 ws_J9_max_7cf53 wk_J9_max_7cf53 wz_J9 md_J9_max_7cf53 rfl (Nat.le_of_ble_eq_true rfl) ⟨Nat.le_of_ble_eq_true rfl, Nat.le_of_ble_eq_true rfl, Nat.le_of_ble_eq_true rfl, Nat.le_of_ble_eq_true rfl⟩ rfl rfl rfl rfl (by decide) ro_nil dX11_addPoints_28 (fun u hu => ?_)
  show V x cX11_addPoints RX11 10 (rmU 5 136 0 0) [(pt, cn 0 6 pt0), (pi, co 4 (pO fa m)), (fa, cn 0 6 fa0)] 31 [(4, ai b), (3, ai a), (0, ar mo), (1, ar q1), (2, ar q2)] [ai (if 1 < (if (ms0 a) < (ms0 b) then (ms0 b) else (ms0 a)) then (if (ms0 a) < (ms0 b) then (ms0 b) else (ms0 a)) else 1)] 0 0
  refine v_istore (pc := 31) (L2 := [(5, ai (if 1 < (if (ms0 a) < (ms0 b) then (ms0 b) else (ms0 a)) then (if (ms0 a) < (ms0 b) then (ms0 b) else (ms0 a)) else 1)), (4, ai b), (3, ai a), (0, ar mo), (1, ar q1), (2, ar q2)]) rfl (by decide) dX11_addPoints_31 ?_
  refine v_aload_n (pc := 33) 3 rfl dX11_addPoints_33 ?_
  refine v_aload_n (pc := 34) 4 rfl dX11_addPoints_34 ?_
  refine v_aload_n (pc := 35) 5 rfl dX11_addPoints_35 ?_
  refine v_iload (pc := 36) 0 rfl dX11_addPoints_36 ?_
  refine v_iconst (pc := 38) dX11_addPoints_38 ?_
  refine v_iconst (pc := 39) dX11_addPoints_39 ?_
  refine v_callV (pc := 40) [1, 2] [0] [(pt, cn 0 6 pt0)] (As := [ar q1, ar q2, ai (if 1 < (if (ms0 a) < (ms0 b) then (ms0 b) else (ms0 a)) then (if (ms0 a) < (ms0 b) then (ms0 b) else (ms0 a)) else 1), ai 4, ai 0]) (rest := []) (c_X11_raised mo kw pi ta ms pt po hi nw pls ins tap e3 e4 e5 e6 e7 e8 bar fa m fa0 iv hq ns us sla ena cda cd sl en q1 t1 q2 t2 f a b (if 1 < (if (ms0 a) < (ms0 b) then (ms0 b) else (ms0 a)) then (if (ms0 a) < (ms0 b) then (ms0 b) else (ms0 a)) else 1) 4 0 (by assumption) (by assumption) (by first | omega | assumption) (by first | omega | assumption) (by first | omega | assumption) (by first | omega | assumption) (by first | omega | assumption)) (c := 11) rfl (Or.inl r0) wl_X11_225 wi_X11_raised wv_X11_X11_raised_X11_raised wk_X11_raised wz_X11 md_X11_raised rfl (Nat.le_of_ble_eq_true rfl) ⟨Nat.le_of_ble_eq_true rfl, Nat.le_of_ble_eq_true rfl, Nat.le_of_ble_eq_true rfl, Nat.le_of_ble_eq_true rfl⟩ rfl rfl rfl rfl (by decide) (ro_cons (Or.inl r0) (ro_cons (Or.inl r1) (ro_cons (Or.inl r2) (ro_cons (Or.inl r3) (ro_cons (Or.inl r4) (ro_cons (Or.inl r5) (ro_cons (Or.inl r6) (ro_cons (Or.inl r7) (ro_cons (Or.inl r8) (ro_cons (Or.inl r9) (ro_cons (Or.inl r10) ro_nil))))))))))) dX11_addPoints_40 (fun u hu => ?_)
  obtain ⟨m2_1, fa2_2⟩ := u
  show V x cX11_addPoints RX11 10 (rmU 5 136 0 0) [(pt, cn 0 6 pt0), (pi, co 4 (pO fa m2_1)), (fa, cn 0 6 fa2_2)] 43 [(5, ai (if 1 < (if (ms0 a) < (ms0 b) then (ms0 b) else (ms0 a)) then (if (ms0 a) < (ms0 b) then (ms0 b) else (ms0 a)) else 1)), (4, ai b), (3, ai a), (0, ar mo), (1, ar q1), (2, ar q2)] [al (if 0 = 0 then (rs (rsG f a b (if 1 < (if (ms0 a) < (ms0 b) then (ms0 b) else (ms0 a)) then (if (ms0 a) < (ms0 b) then (ms0 b) else (ms0 a)) else 1)) (4 : Int).toNat).1 else (rs (rsG f a b (if 1 < (if (ms0 a) < (ms0 b) then (ms0 b) else (ms0 a)) then (if (ms0 a) < (ms0 b) then (ms0 b) else (ms0 a)) else 1)) (4 : Int).toNat).2)] 0 0
  refine v_eql (y := (mtW f ms0 a b)) (by rw [if_pos rfl, hwv, hN]; rfl) ?_
  refine v_lstore (pc := 43) (L2 := [(6, al (mtW f ms0 a b)), (5, ai (if 1 < (if (ms0 a) < (ms0 b) then (ms0 b) else (ms0 a)) then (if (ms0 a) < (ms0 b) then (ms0 b) else (ms0 a)) else 1)), (4, ai b), (3, ai a), (0, ar mo), (1, ar q1), (2, ar q2)]) rfl (by decide) dX11_addPoints_43 ?_
  refine v_iconst (pc := 45) dX11_addPoints_45 ?_
  refine v_callS (pc := 46) [] [0, 1, 2] [(pt, cn 0 6 pt0), (pi, co 4 (pO fa m2_1)), (fa, cn 0 6 fa2_2)] (As := [ai 4]) (rest := []) (c_X11_tenths 4 (by first | omega | assumption)) wl_X11_206 ws_X11_tenths wk_X11_tenths wz_X11 md_X11_tenths rfl (Nat.le_of_ble_eq_true rfl) ⟨Nat.le_of_ble_eq_true rfl, Nat.le_of_ble_eq_true rfl, Nat.le_of_ble_eq_true rfl, Nat.le_of_ble_eq_true rfl⟩ rfl rfl rfl rfl (by decide) ro_nil dX11_addPoints_46 (fun u hu => ?_)
  show V x cX11_addPoints RX11 10 (rmU 5 136 0 0) [(pt, cn 0 6 pt0), (pi, co 4 (pO fa m2_1)), (fa, cn 0 6 fa2_2)] 49 [(6, al (mtW f ms0 a b)), (5, ai (if 1 < (if (ms0 a) < (ms0 b) then (ms0 b) else (ms0 a)) then (if (ms0 a) < (ms0 b) then (ms0 b) else (ms0 a)) else 1)), (4, ai b), (3, ai a), (0, ar mo), (1, ar q1), (2, ar q2)] [al (10 ^ (4 : Int).toNat)] 0 0
  refine v_lload (pc := 49) 0 rfl dX11_addPoints_49 ?_
  refine v_lsub (pc := 51) dX11_addPoints_51 ?_
  refine v_aload_n (pc := 52) 4 rfl dX11_addPoints_52 ?_
  refine v_aload_n (pc := 53) 5 rfl dX11_addPoints_53 ?_
  refine v_aload_n (pc := 54) 6 rfl dX11_addPoints_54 ?_
  refine v_iload (pc := 55) 1 rfl dX11_addPoints_55 ?_
  refine v_iconst (pc := 57) dX11_addPoints_57 ?_
  refine v_iconst (pc := 58) dX11_addPoints_58 ?_
  refine v_callV (pc := 59) [1, 2] [0] [(pt, cn 0 6 pt0)] (As := [ar q1, ar q2, ai (if 1 < (if (ms0 a) < (ms0 b) then (ms0 b) else (ms0 a)) then (if (ms0 a) < (ms0 b) then (ms0 b) else (ms0 a)) else 1), ai 4, ai 1]) (rest := [al ((10 ^ (4 : Int).toNat) - (mtW f ms0 a b))]) (c_X11_raised mo kw pi ta ms pt po hi nw pls ins tap e3 e4 e5 e6 e7 e8 bar fa m2_1 fa2_2 iv hq ns us sla ena cda cd sl en q1 t1 q2 t2 f a b (if 1 < (if (ms0 a) < (ms0 b) then (ms0 b) else (ms0 a)) then (if (ms0 a) < (ms0 b) then (ms0 b) else (ms0 a)) else 1) 4 1 (by assumption) (by assumption) (by first | omega | assumption) (by first | omega | assumption) (by first | omega | assumption) (by first | omega | assumption) (by first | omega | assumption)) (c := 11) rfl (Or.inl r0) wl_X11_225 wi_X11_raised wv_X11_X11_raised_X11_raised wk_X11_raised wz_X11 md_X11_raised rfl (Nat.le_of_ble_eq_true rfl) ⟨Nat.le_of_ble_eq_true rfl, Nat.le_of_ble_eq_true rfl, Nat.le_of_ble_eq_true rfl, Nat.le_of_ble_eq_true rfl⟩ rfl rfl rfl rfl (by decide) (ro_cons (Or.inl r0) (ro_cons (Or.inl r1) (ro_cons (Or.inl r2) (ro_cons (Or.inl r3) (ro_cons (Or.inl r4) (ro_cons (Or.inl r5) (ro_cons (Or.inl r6) (ro_cons (Or.inl r7) (ro_cons (Or.inl r8) (ro_cons (Or.inl r9) (ro_cons (Or.inl r10) ro_nil))))))))))) dX11_addPoints_59 (fun u hu => ?_)
  obtain ⟨m2_3, fa2_4⟩ := u
  show V x cX11_addPoints RX11 10 (rmU 5 136 0 0) [(pt, cn 0 6 pt0), (pi, co 4 (pO fa m2_3)), (fa, cn 0 6 fa2_4)] 62 [(6, al (mtW f ms0 a b)), (5, ai (if 1 < (if (ms0 a) < (ms0 b) then (ms0 b) else (ms0 a)) then (if (ms0 a) < (ms0 b) then (ms0 b) else (ms0 a)) else 1)), (4, ai b), (3, ai a), (0, ar mo), (1, ar q1), (2, ar q2)] [al (if 1 = 0 then (rs (rsG f a b (if 1 < (if (ms0 a) < (ms0 b) then (ms0 b) else (ms0 a)) then (if (ms0 a) < (ms0 b) then (ms0 b) else (ms0 a)) else 1)) (4 : Int).toNat).1 else (rs (rsG f a b (if 1 < (if (ms0 a) < (ms0 b) then (ms0 b) else (ms0 a)) then (if (ms0 a) < (ms0 b) then (ms0 b) else (ms0 a)) else 1)) (4 : Int).toNat).2), al ((10 ^ (4 : Int).toNat) - (mtW f ms0 a b))] 0 0
  refine v_lsub (pc := 62) dX11_addPoints_62 ?_
  refine v_eql (y := (mtL f ms0 a b)) (by rw [if_neg (by decide), hlv, hN, hwv, hN]; rfl) ?_
  refine v_lstore (pc := 63) (L2 := [(8, al (mtL f ms0 a b)), (6, al (mtW f ms0 a b)), (5, ai (if 1 < (if (ms0 a) < (ms0 b) then (ms0 b) else (ms0 a)) then (if (ms0 a) < (ms0 b) then (ms0 b) else (ms0 a)) else 1)), (4, ai b), (3, ai a), (0, ar mo), (1, ar q1), (2, ar q2)]) rfl (by decide) dX11_addPoints_63 ?_
  refine v_lload (pc := 65) 1 rfl dX11_addPoints_65 ?_
  refine v_lload (pc := 67) 0 rfl dX11_addPoints_67 ?_
  refine v_lcmp (pc := 69) (by unfold lB; omega) (by unfold lB; omega) dX11_addPoints_69 ?_
  refine v_if_lt (pc := 70) 95 dX11_addPoints_70 (by decide) (acmp_iB _ _) (fun c_5 => ?_) (fun c_5 => ?_)
  · skip
    have c_5 := acmp_lt.mp c_5
    refine v_lload (pc := 95) 0 rfl dX11_addPoints_95 ?_
    refine v_lload (pc := 97) 1 rfl dX11_addPoints_97 ?_
    refine v_lcmp (pc := 99) (by unfold lB; omega) (by unfold lB; omega) dX11_addPoints_99 ?_
    refine v_if_lt (pc := 100) 126 dX11_addPoints_100 (by decide) (acmp_iB _ _) (fun c_6 => ?_) (fun c_6 => ?_)
    · skip
      have c_6 := acmp_lt.mp c_6
      exact hret (pt0, m2_3, fa2_4) _ _ _ _ _ (by show _ = mt f ms0 pt0 a b; unfold mt; first | (exfalso; omega) | (rw [show mtP (mtW f ms0 a b) (mtL f ms0 a b) = 2 by omega, show mtP (mtL f ms0 a b) (mtW f ms0 a b) = 0 by omega, Int.add_zero, aup_k hab]; done) | (rw [show mtP (mtW f ms0 a b) (mtL f ms0 a b) = 1 by omega, show mtP (mtL f ms0 a b) (mtW f ms0 a b) = 1 by omega, aup_n _ _ (fun z => hab z.symm)]; done) | (rw [show mtP (mtW f ms0 a b) (mtL f ms0 a b) = 0 by omega, show mtP (mtL f ms0 a b) (mtW f ms0 a b) = 2 by omega, Int.add_zero, aup_id]; done)) rfl rfl (Nat.le_of_ble_eq_true rfl) (Nat.le_of_ble_eq_true rfl) dX11_addPoints_126
    · skip
      have c_6 := acmp_ge.mp c_6
      refine v_aload_n (pc := 103) 5 rfl dX11_addPoints_103 ?_
      refine v_get (pc := 104) (v := ar pt) 5 (Or.inl r0) fl_11_35_11 rfl dX11_addPoints_104 ?_
      refine v_iload (pc := 107) 3 rfl dX11_addPoints_107 ?_
      refine v_dup2 (pc := 109) rfl rfl dX11_addPoints_109 ?_
      refine v_iald (pc := 110) (Or.inr ⟨0, rfl⟩) (by omega) (by omega) (by decide) dX11_addPoints_110 ?_
      refine v_lload (pc := 111) 1 rfl dX11_addPoints_111 ?_
      refine v_lload (pc := 113) 0 rfl dX11_addPoints_113 ?_
      refine v_lcmp (pc := 115) (by unfold lB; omega) (by unfold lB; omega) dX11_addPoints_115 ?_
      refine v_if_ne (pc := 116) 123 dX11_addPoints_116 (by decide) (acmp_iB _ _) (fun c_7 => ?_) (fun c_7 => ?_)
      · skip
        have c_7 : ¬ _ = _ := fun z => c_7 (acmp_eq.mpr z)
        refine v_iconst (pc := 123) dX11_addPoints_123 ?_
        refine v_iadd (pc := 124) dX11_addPoints_124 ?_
        refine v_iast (pc := 125) 0 rfl (by omega) (by omega) (by decide) (ws2 := [(pt, cn 0 6 (aup pt0 b ((pt0 b) + 2))), (pi, co 4 (pO fa m2_3)), (fa, cn 0 6 fa2_4)]) rfl dX11_addPoints_125 ?_
        exact hret ((aup pt0 b ((pt0 b) + 2)), m2_3, fa2_4) _ _ _ _ _ (by show _ = mt f ms0 pt0 a b; unfold mt; first | (exfalso; omega) | (rw [show mtP (mtW f ms0 a b) (mtL f ms0 a b) = 2 by omega, show mtP (mtL f ms0 a b) (mtW f ms0 a b) = 0 by omega, Int.add_zero, aup_k hab]; done) | (rw [show mtP (mtW f ms0 a b) (mtL f ms0 a b) = 1 by omega, show mtP (mtL f ms0 a b) (mtW f ms0 a b) = 1 by omega, aup_n _ _ (fun z => hab z.symm)]; done) | (rw [show mtP (mtW f ms0 a b) (mtL f ms0 a b) = 0 by omega, show mtP (mtL f ms0 a b) (mtW f ms0 a b) = 2 by omega, Int.add_zero, aup_id]; done)) rfl rfl (Nat.le_of_ble_eq_true rfl) (Nat.le_of_ble_eq_true rfl) dX11_addPoints_126
      · skip
        have c_7 := acmp_eq.mp c_7
        refine v_iconst (pc := 119) dX11_addPoints_119 ?_
        refine v_goto (pc := 120) 124 dX11_addPoints_120 (by decide) ?_
        refine v_iadd (pc := 124) dX11_addPoints_124 ?_
        refine v_iast (pc := 125) 0 rfl (by omega) (by omega) (by decide) (ws2 := [(pt, cn 0 6 (aup pt0 b ((pt0 b) + 1))), (pi, co 4 (pO fa m2_3)), (fa, cn 0 6 fa2_4)]) rfl dX11_addPoints_125 ?_
        exact hret ((aup pt0 b ((pt0 b) + 1)), m2_3, fa2_4) _ _ _ _ _ (by show _ = mt f ms0 pt0 a b; unfold mt; first | (exfalso; omega) | (rw [show mtP (mtW f ms0 a b) (mtL f ms0 a b) = 2 by omega, show mtP (mtL f ms0 a b) (mtW f ms0 a b) = 0 by omega, Int.add_zero, aup_k hab]; done) | (rw [show mtP (mtW f ms0 a b) (mtL f ms0 a b) = 1 by omega, show mtP (mtL f ms0 a b) (mtW f ms0 a b) = 1 by omega, aup_n _ _ (fun z => hab z.symm)]; done) | (rw [show mtP (mtW f ms0 a b) (mtL f ms0 a b) = 0 by omega, show mtP (mtL f ms0 a b) (mtW f ms0 a b) = 2 by omega, Int.add_zero, aup_id]; done)) rfl rfl (Nat.le_of_ble_eq_true rfl) (Nat.le_of_ble_eq_true rfl) dX11_addPoints_126
  · skip
    have c_5 := acmp_ge.mp c_5
    refine v_aload_n (pc := 73) 5 rfl dX11_addPoints_73 ?_
    refine v_get (pc := 74) (v := ar pt) 5 (Or.inl r0) fl_11_35_11 rfl dX11_addPoints_74 ?_
    refine v_iload_n (pc := 77) 4 rfl dX11_addPoints_77 ?_
    refine v_dup2 (pc := 78) rfl rfl dX11_addPoints_78 ?_
    refine v_iald (pc := 79) (Or.inr ⟨0, rfl⟩) (by omega) (by omega) (by decide) dX11_addPoints_79 ?_
    refine v_lload (pc := 80) 1 rfl dX11_addPoints_80 ?_
    refine v_lload (pc := 82) 0 rfl dX11_addPoints_82 ?_
    refine v_lcmp (pc := 84) (by unfold lB; omega) (by unfold lB; omega) dX11_addPoints_84 ?_
    refine v_if_ne (pc := 85) 92 dX11_addPoints_85 (by decide) (acmp_iB _ _) (fun c_8 => ?_) (fun c_8 => ?_)
    · skip
      have c_8 : ¬ _ = _ := fun z => c_8 (acmp_eq.mpr z)
      refine v_iconst (pc := 92) dX11_addPoints_92 ?_
      refine v_iadd (pc := 93) dX11_addPoints_93 ?_
      refine v_iast (pc := 94) 0 rfl (by omega) (by omega) (by decide) (ws2 := [(pt, cn 0 6 (aup pt0 a ((pt0 a) + 2))), (pi, co 4 (pO fa m2_3)), (fa, cn 0 6 fa2_4)]) rfl dX11_addPoints_94 ?_
      refine v_lload (pc := 95) 0 rfl dX11_addPoints_95 ?_
      refine v_lload (pc := 97) 1 rfl dX11_addPoints_97 ?_
      refine v_lcmp (pc := 99) (by unfold lB; omega) (by unfold lB; omega) dX11_addPoints_99 ?_
      refine v_if_lt (pc := 100) 126 dX11_addPoints_100 (by decide) (acmp_iB _ _) (fun c_9 => ?_) (fun c_9 => ?_)
      · skip
        have c_9 := acmp_lt.mp c_9
        exact hret ((aup pt0 a ((pt0 a) + 2)), m2_3, fa2_4) _ _ _ _ _ (by show _ = mt f ms0 pt0 a b; unfold mt; first | (exfalso; omega) | (rw [show mtP (mtW f ms0 a b) (mtL f ms0 a b) = 2 by omega, show mtP (mtL f ms0 a b) (mtW f ms0 a b) = 0 by omega, Int.add_zero, aup_k hab]; done) | (rw [show mtP (mtW f ms0 a b) (mtL f ms0 a b) = 1 by omega, show mtP (mtL f ms0 a b) (mtW f ms0 a b) = 1 by omega, aup_n _ _ (fun z => hab z.symm)]; done) | (rw [show mtP (mtW f ms0 a b) (mtL f ms0 a b) = 0 by omega, show mtP (mtL f ms0 a b) (mtW f ms0 a b) = 2 by omega, Int.add_zero, aup_id]; done)) rfl rfl (Nat.le_of_ble_eq_true rfl) (Nat.le_of_ble_eq_true rfl) dX11_addPoints_126
      · skip
        have c_9 := acmp_ge.mp c_9
        refine v_aload_n (pc := 103) 5 rfl dX11_addPoints_103 ?_
        refine v_get (pc := 104) (v := ar pt) 5 (Or.inl r0) fl_11_35_11 rfl dX11_addPoints_104 ?_
        refine v_iload (pc := 107) 3 rfl dX11_addPoints_107 ?_
        refine v_dup2 (pc := 109) rfl rfl dX11_addPoints_109 ?_
        refine v_iald (pc := 110) (Or.inr ⟨0, rfl⟩) (by omega) (by omega) (by decide) dX11_addPoints_110 ?_
        refine v_lload (pc := 111) 1 rfl dX11_addPoints_111 ?_
        refine v_lload (pc := 113) 0 rfl dX11_addPoints_113 ?_
        refine v_lcmp (pc := 115) (by unfold lB; omega) (by unfold lB; omega) dX11_addPoints_115 ?_
        refine v_if_ne (pc := 116) 123 dX11_addPoints_116 (by decide) (acmp_iB _ _) (fun c_10 => ?_) (fun c_10 => ?_)
        · skip
          have c_10 : ¬ _ = _ := fun z => c_10 (acmp_eq.mpr z)
          refine v_iconst (pc := 123) dX11_addPoints_123 ?_
          refine v_iadd (pc := 124) dX11_addPoints_124 ?_
          refine v_iast (pc := 125) 0 rfl (by omega) (by omega) (by decide) (ws2 := [(pt, cn 0 6 (aup (aup pt0 a ((pt0 a) + 2)) b (((aup pt0 a ((pt0 a) + 2)) b) + 2))), (pi, co 4 (pO fa m2_3)), (fa, cn 0 6 fa2_4)]) rfl dX11_addPoints_125 ?_
          exact hret ((aup (aup pt0 a ((pt0 a) + 2)) b (((aup pt0 a ((pt0 a) + 2)) b) + 2)), m2_3, fa2_4) _ _ _ _ _ (by show _ = mt f ms0 pt0 a b; unfold mt; first | (exfalso; omega) | (rw [show mtP (mtW f ms0 a b) (mtL f ms0 a b) = 2 by omega, show mtP (mtL f ms0 a b) (mtW f ms0 a b) = 0 by omega, Int.add_zero, aup_k hab]; done) | (rw [show mtP (mtW f ms0 a b) (mtL f ms0 a b) = 1 by omega, show mtP (mtL f ms0 a b) (mtW f ms0 a b) = 1 by omega, aup_n _ _ (fun z => hab z.symm)]; done) | (rw [show mtP (mtW f ms0 a b) (mtL f ms0 a b) = 0 by omega, show mtP (mtL f ms0 a b) (mtW f ms0 a b) = 2 by omega, Int.add_zero, aup_id]; done)) rfl rfl (Nat.le_of_ble_eq_true rfl) (Nat.le_of_ble_eq_true rfl) dX11_addPoints_126
        · skip
          have c_10 := acmp_eq.mp c_10
          refine v_iconst (pc := 119) dX11_addPoints_119 ?_
          refine v_goto (pc := 120) 124 dX11_addPoints_120 (by decide) ?_
          refine v_iadd (pc := 124) dX11_addPoints_124 ?_
          refine v_iast (pc := 125) 0 rfl (by omega) (by omega) (by decide) (ws2 := [(pt, cn 0 6 (aup (aup pt0 a ((pt0 a) + 2)) b (((aup pt0 a ((pt0 a) + 2)) b) + 1))), (pi, co 4 (pO fa m2_3)), (fa, cn 0 6 fa2_4)]) rfl dX11_addPoints_125 ?_
          exact hret ((aup (aup pt0 a ((pt0 a) + 2)) b (((aup pt0 a ((pt0 a) + 2)) b) + 1)), m2_3, fa2_4) _ _ _ _ _ (by show _ = mt f ms0 pt0 a b; unfold mt; first | (exfalso; omega) | (rw [show mtP (mtW f ms0 a b) (mtL f ms0 a b) = 2 by omega, show mtP (mtL f ms0 a b) (mtW f ms0 a b) = 0 by omega, Int.add_zero, aup_k hab]; done) | (rw [show mtP (mtW f ms0 a b) (mtL f ms0 a b) = 1 by omega, show mtP (mtL f ms0 a b) (mtW f ms0 a b) = 1 by omega, aup_n _ _ (fun z => hab z.symm)]; done) | (rw [show mtP (mtW f ms0 a b) (mtL f ms0 a b) = 0 by omega, show mtP (mtL f ms0 a b) (mtW f ms0 a b) = 2 by omega, Int.add_zero, aup_id]; done)) rfl rfl (Nat.le_of_ble_eq_true rfl) (Nat.le_of_ble_eq_true rfl) dX11_addPoints_126
    · skip
      have c_8 := acmp_eq.mp c_8
      refine v_iconst (pc := 88) dX11_addPoints_88 ?_
      refine v_goto (pc := 89) 93 dX11_addPoints_89 (by decide) ?_
      refine v_iadd (pc := 93) dX11_addPoints_93 ?_
      refine v_iast (pc := 94) 0 rfl (by omega) (by omega) (by decide) (ws2 := [(pt, cn 0 6 (aup pt0 a ((pt0 a) + 1))), (pi, co 4 (pO fa m2_3)), (fa, cn 0 6 fa2_4)]) rfl dX11_addPoints_94 ?_
      refine v_lload (pc := 95) 0 rfl dX11_addPoints_95 ?_
      refine v_lload (pc := 97) 1 rfl dX11_addPoints_97 ?_
      refine v_lcmp (pc := 99) (by unfold lB; omega) (by unfold lB; omega) dX11_addPoints_99 ?_
      refine v_if_lt (pc := 100) 126 dX11_addPoints_100 (by decide) (acmp_iB _ _) (fun c_11 => ?_) (fun c_11 => ?_)
      · skip
        have c_11 := acmp_lt.mp c_11
        exact hret ((aup pt0 a ((pt0 a) + 1)), m2_3, fa2_4) _ _ _ _ _ (by show _ = mt f ms0 pt0 a b; unfold mt; first | (exfalso; omega) | (rw [show mtP (mtW f ms0 a b) (mtL f ms0 a b) = 2 by omega, show mtP (mtL f ms0 a b) (mtW f ms0 a b) = 0 by omega, Int.add_zero, aup_k hab]; done) | (rw [show mtP (mtW f ms0 a b) (mtL f ms0 a b) = 1 by omega, show mtP (mtL f ms0 a b) (mtW f ms0 a b) = 1 by omega, aup_n _ _ (fun z => hab z.symm)]; done) | (rw [show mtP (mtW f ms0 a b) (mtL f ms0 a b) = 0 by omega, show mtP (mtL f ms0 a b) (mtW f ms0 a b) = 2 by omega, Int.add_zero, aup_id]; done)) rfl rfl (Nat.le_of_ble_eq_true rfl) (Nat.le_of_ble_eq_true rfl) dX11_addPoints_126
      · skip
        have c_11 := acmp_ge.mp c_11
        refine v_aload_n (pc := 103) 5 rfl dX11_addPoints_103 ?_
        refine v_get (pc := 104) (v := ar pt) 5 (Or.inl r0) fl_11_35_11 rfl dX11_addPoints_104 ?_
        refine v_iload (pc := 107) 3 rfl dX11_addPoints_107 ?_
        refine v_dup2 (pc := 109) rfl rfl dX11_addPoints_109 ?_
        refine v_iald (pc := 110) (Or.inr ⟨0, rfl⟩) (by omega) (by omega) (by decide) dX11_addPoints_110 ?_
        refine v_lload (pc := 111) 1 rfl dX11_addPoints_111 ?_
        refine v_lload (pc := 113) 0 rfl dX11_addPoints_113 ?_
        refine v_lcmp (pc := 115) (by unfold lB; omega) (by unfold lB; omega) dX11_addPoints_115 ?_
        refine v_if_ne (pc := 116) 123 dX11_addPoints_116 (by decide) (acmp_iB _ _) (fun c_12 => ?_) (fun c_12 => ?_)
        · skip
          have c_12 : ¬ _ = _ := fun z => c_12 (acmp_eq.mpr z)
          refine v_iconst (pc := 123) dX11_addPoints_123 ?_
          refine v_iadd (pc := 124) dX11_addPoints_124 ?_
          refine v_iast (pc := 125) 0 rfl (by omega) (by omega) (by decide) (ws2 := [(pt, cn 0 6 (aup (aup pt0 a ((pt0 a) + 1)) b (((aup pt0 a ((pt0 a) + 1)) b) + 2))), (pi, co 4 (pO fa m2_3)), (fa, cn 0 6 fa2_4)]) rfl dX11_addPoints_125 ?_
          exact hret ((aup (aup pt0 a ((pt0 a) + 1)) b (((aup pt0 a ((pt0 a) + 1)) b) + 2)), m2_3, fa2_4) _ _ _ _ _ (by show _ = mt f ms0 pt0 a b; unfold mt; first | (exfalso; omega) | (rw [show mtP (mtW f ms0 a b) (mtL f ms0 a b) = 2 by omega, show mtP (mtL f ms0 a b) (mtW f ms0 a b) = 0 by omega, Int.add_zero, aup_k hab]; done) | (rw [show mtP (mtW f ms0 a b) (mtL f ms0 a b) = 1 by omega, show mtP (mtL f ms0 a b) (mtW f ms0 a b) = 1 by omega, aup_n _ _ (fun z => hab z.symm)]; done) | (rw [show mtP (mtW f ms0 a b) (mtL f ms0 a b) = 0 by omega, show mtP (mtL f ms0 a b) (mtW f ms0 a b) = 2 by omega, Int.add_zero, aup_id]; done)) rfl rfl (Nat.le_of_ble_eq_true rfl) (Nat.le_of_ble_eq_true rfl) dX11_addPoints_126
        · skip
          have c_12 := acmp_eq.mp c_12
          refine v_iconst (pc := 119) dX11_addPoints_119 ?_
          refine v_goto (pc := 120) 124 dX11_addPoints_120 (by decide) ?_
          refine v_iadd (pc := 124) dX11_addPoints_124 ?_
          refine v_iast (pc := 125) 0 rfl (by omega) (by omega) (by decide) (ws2 := [(pt, cn 0 6 (aup (aup pt0 a ((pt0 a) + 1)) b (((aup pt0 a ((pt0 a) + 1)) b) + 1))), (pi, co 4 (pO fa m2_3)), (fa, cn 0 6 fa2_4)]) rfl dX11_addPoints_125 ?_
          exact hret ((aup (aup pt0 a ((pt0 a) + 1)) b (((aup pt0 a ((pt0 a) + 1)) b) + 1)), m2_3, fa2_4) _ _ _ _ _ (by show _ = mt f ms0 pt0 a b; unfold mt; first | (exfalso; omega) | (rw [show mtP (mtW f ms0 a b) (mtL f ms0 a b) = 2 by omega, show mtP (mtL f ms0 a b) (mtW f ms0 a b) = 0 by omega, Int.add_zero, aup_k hab]; done) | (rw [show mtP (mtW f ms0 a b) (mtL f ms0 a b) = 1 by omega, show mtP (mtL f ms0 a b) (mtW f ms0 a b) = 1 by omega, aup_n _ _ (fun z => hab z.symm)]; done) | (rw [show mtP (mtW f ms0 a b) (mtL f ms0 a b) = 0 by omega, show mtP (mtL f ms0 a b) (mtW f ms0 a b) = 2 by omega, Int.add_zero, aup_id]; done)) rfl rfl (Nat.le_of_ble_eq_true rfl) (Nat.le_of_ble_eq_true rfl) dX11_addPoints_126
set_option maxHeartbeats 4000000 in
set_option maxRecDepth 100000 in
theorem c_X11_fillPoints {gS : sG} (mo : Nat) (kw : Nat) (pi : Nat) (ta : Nat) (ms : Nat) (pt : Nat) (po : Nat) (hi : Int) (nw : Nat) (pls : Nat) (ins : Nat) (tap : Nat) (e3 : Nat) (e4 : Nat) (e5 : Nat) (e6 : Nat) (e7 : Nat) (e8 : Nat) (bar : Nat) (fa : Nat) (m : Nat → Int) (fa0 : Int → Int) (iv : Int → Option Nat) (hq : Nat) (ns : Int) (us : Int) (sla : Nat) (ena : Nat) (cda : Nat) (cd : Int → Int) (sl : Int → Int) (en : Int → Int) (pv : Int → Option Nat) (pl : Int → Nat) (tu : Int → Nat) (f : Int → Int) (ms0 : Int → Int) (pt0 : Int → Int) (hS : SOK f) (hI : inC f iv bar hq ns us sl en cd) (hpv : ∀ i : Int, 0 ≤ i → i ≤ f 0 - 1 → pv i = some (pl i)) (hms : ∀ j : Int, 0 ≤ j → j < f 0 → ms0 j = fMost f j) : Ct gS (S := (Int → Int) × (Nat → Int) × (Int → Int)) yX11_fillPoints cX11_fillPoints 5 none 6 165 0 0 [ar mo] [(pt, cn 0 6 pt0), (pi, co 4 (pO fa m)), (fa, cn 0 6 fa0)] (fun q => q ∈ ([(mo, co 11 [ar nw, ar kw, ar pi, ar ta, ar ms, ar pt, ar po, ai hi]), (nw, co 10 [ar pls, ar ins, ar tap, ar e3, ar e4, ar e5, ar e6, ar e7, ar e8, ai (f 0), ai (f 1), ai (f 4), ai (f 2), ai (f 3), ai (f 6), ar bar]), (pls, cq 3 6 pv), (ins, cq 2 5 iv), (hq, co 3 [ai (kWide f), ai (kPay f), ai ns, ai us, ar sla, ar ena, ar cda]), (cda, cn 0 100 cd), (sla, cn 0 10 sl), (ena, cn 0 10 en), (ms, cn 0 6 ms0)] : aW) ++ zpA ta f pl tu) (fun u => ∀ i : Int, 0 ≤ i → i < f 0 → u.1 i = qPts f i) (fun u => none) (fun u => [(pt, cn 0 6 u.1), (pi, co 4 (pO fa u.2.1)), (fa, cn 0 6 u.2.2)]) := by
  refine ct_V RX11 [(0, ar mo)] (by decide) rfl (Nat.le_of_ble_eq_true rfl) rfl (fun x hgS hnm hro hret => ?_)
  subst hgS
  have r0 := hro _ (List.mem_append_left _ (mem_at 0 rfl))
  have r1 := hro _ (List.mem_append_left _ (mem_at 1 rfl))
  have r2 := hro _ (List.mem_append_left _ (mem_at 2 rfl))
  have r3 := hro _ (List.mem_append_left _ (mem_at 3 rfl))
  have r4 := hro _ (List.mem_append_left _ (mem_at 4 rfl))
  have r5 := hro _ (List.mem_append_left _ (mem_at 5 rfl))
  have r6 := hro _ (List.mem_append_left _ (mem_at 6 rfl))
  have r7 := hro _ (List.mem_append_left _ (mem_at 7 rfl))
  have r8 := hro _ (List.mem_append_left _ (mem_at 8 rfl))
  have hra : ∀ q, q ∈ zpA ta f pl tu → Ro x q := fun q h => hro _ (List.mem_append_right _ h)
  obtain ⟨⟨hg0, hg1, hg2, hg3, hg4, hg5, hg6, hg7⟩, hSp, hSh, hSs, hSb, hSt, hSw⟩ := id hS
  show V x cX11_fillPoints RX11 5 (rmU 6 165 0 0) [(pt, cn 0 6 pt0), (pi, co 4 (pO fa m)), (fa, cn 0 6 fa0)] 0 [(0, ar mo)] [] 0 0
  refine v_iconst (pc := 0) dX11_fillPoints_0 ?_
  refine v_istore_n (pc := 1) (L2 := [(1, ai 0), (0, ar mo)]) rfl (by decide) dX11_fillPoints_1 ?_
  have lp2 : ∀ (mm : Nat) (i : Int) (pt1 : Int → Int), (f 0 - i).toNat = mm → (0 ≤ i ∧ i ≤ f 0) → (∀ z : Int, 0 ≤ z → z < i → pt1 z = 0) → V x cX11_fillPoints RX11 5 (rmU 6 165 0 0) [(pt, cn 0 6 pt1), (pi, co 4 (pO fa m)), (fa, cn 0 6 fa0)] 2 [(0, ar mo), (1, ai i)] [] 0 0 := by
    intro mm
    induction mm using Nat.strongRecOn with
    | _ mm ih =>
      intro i pt1 hmm hix hz
      refine v_iload_n (pc := 2) 1 rfl dX11_fillPoints_2 ?_
      refine v_aload_n (pc := 3) 0 rfl dX11_fillPoints_3 ?_
      refine v_get (pc := 4) (v := ar nw) 0 (Or.inl r0) fl_11_12_11 rfl dX11_fillPoints_4 ?_
      refine v_get (pc := 7) (v := ai (f 0)) 9 (Or.inl r1) fl_11_71_10 rfl dX11_fillPoints_7 ?_
      refine v_icmp_ge (pc := 10) 26 dX11_fillPoints_10 (by decide) (by unfold iB; omega) (by unfold iB; omega) (fun c_1 => ?_) (fun c_1 => ?_)
      · skip
        refine v_iconst (pc := 26) dX11_fillPoints_26 ?_
        refine v_istore_n (pc := 27) (L2 := [(1, ai 0), (0, ar mo)]) rfl (by decide) dX11_fillPoints_27 ?_
        have lp28 : ∀ (mm : Nat) (i : Int) (pt1 : Int → Int) (m1 : Nat → Int) (fa1 : Int → Int), (f 0 - i).toNat = mm → (0 ≤ i ∧ i ≤ f 0) → (∀ z : Int, 0 ≤ z → z < f 0 → pt1 z = (ttO f (fMost f) (f 0) (fun _ => 0) i.toNat) z) → V x cX11_fillPoints RX11 5 (rmU 6 165 0 0) [(pt, cn 0 6 pt1), (pi, co 4 (pO fa m1)), (fa, cn 0 6 fa1)] 28 [(0, ar mo), (1, ai i)] [] 0 0 := by
          intro mm
          induction mm using Nat.strongRecOn with
          | _ mm ih28 =>
            intro i pt1 m1 fa1 hmm hix hpo
            refine v_iload_n (pc := 28) 1 rfl dX11_fillPoints_28 ?_
            refine v_aload_n (pc := 29) 0 rfl dX11_fillPoints_29 ?_
            refine v_get (pc := 30) (v := ar nw) 0 (Or.inl r0) fl_11_12_11 rfl dX11_fillPoints_30 ?_
            refine v_get (pc := 33) (v := ai (f 0)) 9 (Or.inl r1) fl_11_71_10 rfl dX11_fillPoints_33 ?_
            refine v_icmp_ge (pc := 36) 95 dX11_fillPoints_36 (by decide) (by unfold iB; omega) (by unfold iB; omega) (fun c_2 => ?_) (fun c_2 => ?_)
            · skip
              exact hret (pt1, m1, fa1) _ _ _ _ _ (by intro z z0 z1; show pt1 z = qPts f z; rw [hpo z z0 z1, show i.toNat = (f 0).toNat by omega]; rfl) rfl rfl (Nat.le_of_ble_eq_true rfl) (Nat.le_of_ble_eq_true rfl) dX11_fillPoints_95
            · skip
              refine v_iload_n (pc := 39) 1 rfl dX11_fillPoints_39 ?_
              refine v_iconst (pc := 40) dX11_fillPoints_40 ?_
              refine v_iadd (pc := 41) dX11_fillPoints_41 ?_
              refine v_istore_n (pc := 42) (L2 := [(2, ai (i + 1)), (0, ar mo), (1, ai i)]) rfl (by decide) dX11_fillPoints_42 ?_
              have lp43 : ∀ (mm : Nat) (j : Int) (pt3 : Int → Int) (m3 : Nat → Int) (fa3 : Int → Int), (f 0 - j).toNat = mm → (i + 1 ≤ j ∧ j ≤ f 0) → (∀ z : Int, 0 ≤ z → z < f 0 → pt3 z = (ttI f (fMost f) i (ttO f (fMost f) (f 0) (fun _ => 0) i.toNat) (j - i - 1).toNat) z) → V x cX11_fillPoints RX11 5 (rmU 6 165 0 0) [(pt, cn 0 6 pt3), (pi, co 4 (pO fa m3)), (fa, cn 0 6 fa3)] 43 [(0, ar mo), (1, ai i), (2, ai j)] [] 0 0 := by
                intro mm
                induction mm using Nat.strongRecOn with
                | _ mm ih43 =>
                  intro j pt3 m3 fa3 hmm hj hpt
                  refine v_iload_n (pc := 43) 2 rfl dX11_fillPoints_43 ?_
                  refine v_aload_n (pc := 44) 0 rfl dX11_fillPoints_44 ?_
                  refine v_get (pc := 45) (v := ar nw) 0 (Or.inl r0) fl_11_12_11 rfl dX11_fillPoints_45 ?_
                  refine v_get (pc := 48) (v := ai (f 0)) 9 (Or.inl r1) fl_11_71_10 rfl dX11_fillPoints_48 ?_
                  refine v_icmp_ge (pc := 51) 89 dX11_fillPoints_51 (by decide) (by unfold iB; omega) (by unfold iB; omega) (fun c_3 => ?_) (fun c_3 => ?_)
                  · skip
                    refine v_iinc (pc := 89) 1 (L2 := [(1, ai (i + 1)), (0, ar mo), (2, ai j)]) rfl rfl (by decide) dX11_fillPoints_89 ?_
                    refine v_goto (pc := 92) 28 dX11_fillPoints_92 (by decide) ?_
                    refine v_sub (L2 := [(0, ar mo), (1, ai (i + 1))]) [1, 0] rfl ?_
                    exact ih28 _ (by omega) (i + 1) pt3 m3 fa3 rfl (by omega) (by intro z z0 z1; rw [show (i + 1).toNat = i.toNat + 1 by omega, ttO_succ, show ((i.toNat : Nat) : Int) = i by omega, hpt z z0 z1, show (f 0 - i - 1).toNat = (j - i - 1).toNat by omega])
                  · skip
                    refine v_aload_n (pc := 54) 0 rfl dX11_fillPoints_54 ?_
                    refine v_iload_n (pc := 55) 1 rfl dX11_fillPoints_55 ?_
                    have hp : 0 ≤ i ∧ i ≤ f 0 - 1 := by omega
                    have hpq : 0 ≤ j ∧ j ≤ f 0 - 1 := by omega
                    have hpl := hpv i hp.1 hp.2
                    have rP := hra _ (zpA_p (ta := ta) (pl := pl) (tu := tu) hp)
                    have rQ := hra _ (zpA_t (ta := ta) (pl := pl) (tu := tu) hp)
                    have hp6 : 0 ≤ i ∧ i < 6 := by omega
                    obtain ⟨hpp, hf1, hf2, hf3, hf4, hf5, hf6, hf7, hf8⟩ := hSp i hp6.1 hp6.2
                    have hplb := hpv j hpq.1 hpq.2
                    have rPb := hra _ (zpA_p (ta := ta) (pl := pl) (tu := tu) hpq)
                    have rQb := hra _ (zpA_t (ta := ta) (pl := pl) (tu := tu) hpq)
                    have hp6b : 0 ≤ j ∧ j < 6 := by omega
                    obtain ⟨hppb, hf1b, hf2b, hf3b, hf4b, hf5b, hf6b, hf7b, hf8b⟩ := hSp j hp6b.1 hp6b.2
                    refine v_callV (pc := 56) [] [0, 1, 2] [(pt, cn 0 6 pt3), (pi, co 4 (pO fa m3)), (fa, cn 0 6 fa3)] (As := [ai i]) (rest := []) (c_X11_find_y mo kw pi ta ms pt po hi nw pls ins tap e3 e4 e5 e6 e7 e8 bar pv (pl i) f i (by assumption) (by exact hpl) (by exact hp)) (c := 11) rfl (Or.inl r0) wl_X11_99 wi_X11_find wv_X11_X11_find_X11_find wk_X11_find wz_X11 md_X11_find rfl (Nat.le_of_ble_eq_true rfl) ⟨Nat.le_of_ble_eq_true rfl, Nat.le_of_ble_eq_true rfl, Nat.le_of_ble_eq_true rfl, Nat.le_of_ble_eq_true rfl⟩ rfl rfl rfl rfl (by decide) (ro_cons (Or.inl r0) (ro_cons (Or.inl r1) (ro_cons (Or.inl r2) ro_nil))) dX11_fillPoints_56 (fun u hu => ?_)
                    show V x cX11_fillPoints RX11 5 (rmU 6 165 0 0) [(pt, cn 0 6 pt3), (pi, co 4 (pO fa m3)), (fa, cn 0 6 fa3)] 59 [(0, ar mo), (1, ai i), (2, ai j)] [ar (pl i)] 0 0
                    refine v_astore_n (pc := 59) (L2 := [(3, ar (pl i)), (0, ar mo), (1, ai i), (2, ai j)]) rfl (by decide) dX11_fillPoints_59 ?_
                    refine v_aload_n (pc := 60) 1 rfl dX11_fillPoints_60 ?_
                    refine v_iload_n (pc := 61) 3 rfl dX11_fillPoints_61 ?_
                    refine v_callV (pc := 62) [] [0, 1, 2] [(pt, cn 0 6 pt3), (pi, co 4 (pO fa m3)), (fa, cn 0 6 fa3)] (As := [ai j]) (rest := []) (c_X11_find_y mo kw pi ta ms pt po hi nw pls ins tap e3 e4 e5 e6 e7 e8 bar pv (pl j) f j (by assumption) (by exact hplb) (by exact hpq)) (c := 11) rfl (Or.inl r0) wl_X11_99 wi_X11_find wv_X11_X11_find_X11_find wk_X11_find wz_X11 md_X11_find rfl (Nat.le_of_ble_eq_true rfl) ⟨Nat.le_of_ble_eq_true rfl, Nat.le_of_ble_eq_true rfl, Nat.le_of_ble_eq_true rfl, Nat.le_of_ble_eq_true rfl⟩ rfl rfl rfl rfl (by decide) (ro_cons (Or.inl r0) (ro_cons (Or.inl r1) (ro_cons (Or.inl r2) ro_nil))) dX11_fillPoints_62 (fun u hu => ?_)
                    show V x cX11_fillPoints RX11 5 (rmU 6 165 0 0) [(pt, cn 0 6 pt3), (pi, co 4 (pO fa m3)), (fa, cn 0 6 fa3)] 65 [(3, ar (pl i)), (0, ar mo), (1, ai i), (2, ai j)] [ar (pl j)] 0 0
                    refine v_astore (pc := 65) (L2 := [(4, ar (pl j)), (3, ar (pl i)), (0, ar mo), (1, ai i), (2, ai j)]) rfl (by decide) dX11_fillPoints_65 ?_
                    refine v_aload_n (pc := 67) 1 rfl dX11_fillPoints_67 ?_
                    refine v_ifnull_r (pc := 68) dX11_fillPoints_68 ?_
                    refine v_aload (pc := 71) 0 rfl dX11_fillPoints_71 ?_
                    refine v_ifnull_r (pc := 73) dX11_fillPoints_73 ?_
                    refine v_aload_n (pc := 76) 2 rfl dX11_fillPoints_76 ?_
                    refine v_aload_n (pc := 77) 1 rfl dX11_fillPoints_77 ?_
                    refine v_aload (pc := 78) 0 rfl dX11_fillPoints_78 ?_
                    have hma := fMost_b (f := f) (p := i)
                    have hmb := fMost_b (f := f) (p := j)
                    have htb := ttO_b (f := f) (M := fMost f) hg0 i.toNat
                    have hti := fun z => ttI_b (f := f) (M := fMost f) (p := i) htb (j - i - 1).toNat z
                    have hti1 := hti i
                    have hti2 := hti j
                    have hpi := hpt i (by omega) (by omega)
                    have hpj := hpt j (by omega) (by omega)
                    have hmi := hms i (by omega) (by omega)
                    have hmj := hms j (by omega) (by omega)
                    refine v_callV (pc := 80) [0, 1, 2] [] [] (As := [ar (pl i), ar (pl j)]) (rest := []) (c_X11_addPoints mo kw pi ta ms pt po hi nw pls ins tap e3 e4 e5 e6 e7 e8 bar fa m3 fa3 iv hq ns us sla ena cda cd sl en (pl i) (tu i) (pl j) (tu j) f i j ms0 pt3 (by assumption) (by assumption) (by first | omega | assumption) (by first | omega | assumption) (by omega) (by omega) (by omega)) (c := 11) rfl (Or.inl r0) wl_X11_300 wi_X11_addPoints wv_X11_X11_addPoints_X11_addPoints wk_X11_addPoints wz_X11 md_X11_addPoints rfl (Nat.le_of_ble_eq_true rfl) ⟨Nat.le_of_ble_eq_true rfl, Nat.le_of_ble_eq_true rfl, Nat.le_of_ble_eq_true rfl, Nat.le_of_ble_eq_true rfl⟩ rfl rfl rfl rfl (by decide) (ro_cons (Or.inl r0) (ro_cons (Or.inl r1) (ro_cons (Or.inl r3) (ro_cons (Or.inl r4) (ro_cons (Or.inl r5) (ro_cons (Or.inl r6) (ro_cons (Or.inl r7) (ro_cons (Or.inl rP) (ro_cons (Or.inl rQ) (ro_cons (Or.inl rPb) (ro_cons (Or.inl rQb) (ro_cons (Or.inl r8) ro_nil)))))))))))) dX11_fillPoints_80 (fun u hu => ?_)
                    obtain ⟨pt2_4, m2_5, fa2_6⟩ := u
                    have g_7 : pt2_4 = mt f ms0 pt3 i j := hu
                    show V x cX11_fillPoints RX11 5 (rmU 6 165 0 0) [(pt, cn 0 6 pt2_4), (pi, co 4 (pO fa m2_5)), (fa, cn 0 6 fa2_6)] 83 [(4, ar (pl j)), (3, ar (pl i)), (0, ar mo), (1, ai i), (2, ai j)] [] 0 0
                    have hmt := g_7
                    have hsu : (ttI f (fMost f) i (ttO f (fMost f) (f 0) (fun _ => 0) i.toNat) (j + 1 - i - 1).toNat) = mt f (fMost f) (ttI f (fMost f) i (ttO f (fMost f) (f 0) (fun _ => 0) i.toNat) (j - i - 1).toNat) i j := by rw [show (j + 1 - i - 1).toNat = (j - i - 1).toNat + 1 by omega, ttI_succ, show i + 1 + (((j - i - 1).toNat : Nat) : Int) = j by omega]
                    refine v_iinc (pc := 83) 4 (L2 := [(2, ai (j + 1)), (4, ar (pl j)), (3, ar (pl i)), (0, ar mo), (1, ai i)]) rfl rfl (by decide) dX11_fillPoints_83 ?_
                    refine v_goto (pc := 86) 43 dX11_fillPoints_86 (by decide) ?_
                    refine v_sub (L2 := [(0, ar mo), (1, ai i), (2, ai (j + 1))]) [3, 4, 0] rfl ?_
                    exact ih43 _ (by omega) (j + 1) pt2_4 m2_5 fa2_6 rfl (by omega) (by intro z z0 z1; rw [hsu, hmt, mt_congr (M2 := fMost f) hmi hmj]; exact mt_p (hpt z z0 z1) hpi hpj)
              refine v_sub (L2 := [(0, ar mo), (1, ai i), (2, ai (i + 1))]) [1, 2, 0] rfl ?_
              exact lp43 _ (i + 1) pt1 m1 fa1 rfl (by omega) (by intro z z0 z1; rw [show (i + 1 - i - 1).toNat = 0 by omega]; exact hpo z z0 z1)
        refine v_sub (L2 := [(0, ar mo), (1, ai 0)]) [1, 0] rfl ?_
        exact lp28 _ 0 pt1 m fa0 rfl (by omega) (by intro z z0 z1; exact hz z z0 (by omega))
      · skip
        refine v_aload_n (pc := 13) 0 rfl dX11_fillPoints_13 ?_
        refine v_get (pc := 14) (v := ar pt) 5 (Or.inl r0) fl_11_35_11 rfl dX11_fillPoints_14 ?_
        refine v_iload_n (pc := 17) 1 rfl dX11_fillPoints_17 ?_
        refine v_iconst (pc := 18) dX11_fillPoints_18 ?_
        refine v_iast (pc := 19) 0 rfl (by omega) (by omega) (by decide) (ws2 := [(pt, cn 0 6 (aup pt1 i 0)), (pi, co 4 (pO fa m)), (fa, cn 0 6 fa0)]) rfl dX11_fillPoints_19 ?_
        refine v_iinc (pc := 20) 1 (L2 := [(1, ai (i + 1)), (0, ar mo)]) rfl rfl (by decide) dX11_fillPoints_20 ?_
        refine v_goto (pc := 23) 2 dX11_fillPoints_23 (by decide) ?_
        refine v_sub (L2 := [(0, ar mo), (1, ai (i + 1))]) [1, 0] rfl ?_
        exact ih _ (by omega) (i + 1) (aup pt1 i 0) rfl (by omega) (by intro z z0 z1; by_cases e : z = i; subst e; exact aup_s _ _ _; rw [aup_n _ _ e]; exact hz z z0 (by omega))
  refine v_sub (L2 := [(0, ar mo), (1, ai 0)]) [1, 0] rfl ?_
  exact lp2 _ 0 pt0 rfl (by omega) (by intro z z0 z1; exfalso; omega)
set_option maxHeartbeats 4000000 in
set_option maxRecDepth 100000 in
theorem c_X11_title {gS : sG} (mo : Nat) (kw : Nat) (pi : Nat) (ta : Nat) (ms : Nat) (pt : Nat) (po : Nat) (hi : Int) (nw : Nat) (pls : Nat) (ins : Nat) (tap : Nat) (e3 : Nat) (e4 : Nat) (e5 : Nat) (e6 : Nat) (e7 : Nat) (e8 : Nat) (bar : Nat) (fa : Nat) (m : Nat → Int) (fa0 : Int → Int) (iv : Int → Option Nat) (hq : Nat) (ns : Int) (us : Int) (sla : Nat) (ena : Nat) (cda : Nat) (cd : Int → Int) (sl : Int → Int) (en : Int → Int) (pv : Int → Option Nat) (pl : Int → Nat) (tu : Int → Nat) (f : Int → Int) (ms0 : Int → Int) (pt0 : Int → Int) (player : Int) (hS : SOK f) (hI : inC f iv bar hq ns us sl en cd) (hpv : ∀ i : Int, 0 ≤ i → i ≤ f 0 - 1 → pv i = some (pl i)) (hb_player : -2147483648 ≤ player ∧ player < 2147483648) : Ct gS (S := (Int → Int) × (Int → Int) × (Nat → Int) × (Int → Int)) yX11_title cX11_title 4 (some .int) 7 189 0 0 [ar mo, ai player] [(ms, cn 0 6 ms0), (pt, cn 0 6 pt0), (pi, co 4 (pO fa m)), (fa, cn 0 6 fa0)] (fun q => q ∈ ([(mo, co 11 [ar nw, ar kw, ar pi, ar ta, ar ms, ar pt, ar po, ai hi]), (nw, co 10 [ar pls, ar ins, ar tap, ar e3, ar e4, ar e5, ar e6, ar e7, ar e8, ai (f 0), ai (f 1), ai (f 4), ai (f 2), ai (f 3), ai (f 6), ar bar]), (pls, cq 3 6 pv), (ins, cq 2 5 iv), (hq, co 3 [ai (kWide f), ai (kPay f), ai ns, ai us, ar sla, ar ena, ar cda]), (cda, cn 0 100 cd), (sla, cn 0 10 sl), (ena, cn 0 10 en)] : aW) ++ zpA ta f pl tu) (fun u => True) (fun u => some (ai (qTitle f player))) (fun u => [(ms, cn 0 6 u.1), (pt, cn 0 6 u.2.1), (pi, co 4 (pO fa u.2.2.1)), (fa, cn 0 6 u.2.2.2)]) := by
  refine ct_I RX11 [(0, ar mo), (1, ai player)] (by decide) rfl (Nat.le_of_ble_eq_true rfl) rfl (fun x hgS hro hret => ?_)
  subst hgS
  have r0 := hro _ (List.mem_append_left _ (mem_at 0 rfl))
  have r1 := hro _ (List.mem_append_left _ (mem_at 1 rfl))
  have r2 := hro _ (List.mem_append_left _ (mem_at 2 rfl))
  have r3 := hro _ (List.mem_append_left _ (mem_at 3 rfl))
  have r4 := hro _ (List.mem_append_left _ (mem_at 4 rfl))
  have r5 := hro _ (List.mem_append_left _ (mem_at 5 rfl))
  have r6 := hro _ (List.mem_append_left _ (mem_at 6 rfl))
  have r7 := hro _ (List.mem_append_left _ (mem_at 7 rfl))
  have hra : ∀ q, q ∈ zpA ta f pl tu → Ro x q := fun q h => hro _ (List.mem_append_right _ h)
  obtain ⟨⟨hg0, hg1, hg2, hg3, hg4, hg5, hg6, hg7⟩, hSp, hSh, hSs, hSb, hSt, hSw⟩ := id hS
  have hpts : ∀ z : Int, 0 ≤ qPts f z ∧ qPts f z ≤ 12 * (((f 0).toNat : Nat) : Int) := ttO_b hg0 (f 0).toNat
  have hf1 : f 0 ≤ 6 := hg0.2
  show V x cX11_title RX11 4 (rmU 7 189 0 0) [(ms, cn 0 6 ms0), (pt, cn 0 6 pt0), (pi, co 4 (pO fa m)), (fa, cn 0 6 fa0)] 0 [(0, ar mo), (1, ai player)] [] 0 0
  refine v_iload_n (pc := 0) 1 rfl dX11_title_0 ?_
  refine v_iconst (pc := 1) dX11_title_1 ?_
  refine v_icmp_eq (pc := 2) 15 dX11_title_2 (by decide) (by unfold iB; omega) (by unfold iB; omega) (fun c_1 => ?_) (fun c_1 => ?_)
  · skip
    refine v_aload_n (pc := 15) 0 rfl dX11_title_15 ?_
    refine v_get (pc := 16) (v := ar nw) 0 (Or.inl r0) fl_11_12_11 rfl dX11_title_16 ?_
    refine v_get (pc := 19) (v := ai (f 0)) 9 (Or.inl r1) fl_11_71_10 rfl dX11_title_19 ?_
    refine v_if_ne (pc := 22) 28 dX11_title_22 (by decide) (by unfold iB; omega) (fun c_2 => ?_) (fun c_2 => ?_)
    · skip
      refine v_aload_n (pc := 28) 0 rfl dX11_title_28 ?_
      refine v_callV (pc := 29) [0, 2, 3] [1] [(pt, cn 0 6 pt0)] (As := []) (rest := []) (c_X11_fillMosts mo kw pi ta ms pt po hi nw pls ins tap e3 e4 e5 e6 e7 e8 bar fa m fa0 iv hq ns us sla ena cda cd sl en pv pl tu f ms0 (by assumption) (by assumption) (by assumption)) (c := 11) rfl (Or.inl r0) wl_X11_229 wi_X11_fillMosts wv_X11_X11_fillMosts_X11_fillMosts wk_X11_fillMosts wz_X11 md_X11_fillMosts rfl (Nat.le_of_ble_eq_true rfl) ⟨Nat.le_of_ble_eq_true rfl, Nat.le_of_ble_eq_true rfl, Nat.le_of_ble_eq_true rfl, Nat.le_of_ble_eq_true rfl⟩ rfl rfl rfl rfl (by decide) (ro_app (ro_cons (Or.inl r0) (ro_cons (Or.inl r1) (ro_cons (Or.inl r2) (ro_cons (Or.inl r3) (ro_cons (Or.inl r4) (ro_cons (Or.inl r5) (ro_cons (Or.inl r6) (ro_cons (Or.inl r7) ro_nil)))))))) (fun q h => Or.inl (hra q h))) dX11_title_29 (fun u hu => ?_)
      obtain ⟨ms2_3, m2_4, fa2_5⟩ := u
      have g_6 : ∀ i : Int, 0 ≤ i → i < f 0 → ms2_3 i = fMost f i := hu
      show V x cX11_title RX11 4 (rmU 7 189 0 0) [(pt, cn 0 6 pt0), (ms, cn 0 6 ms2_3), (pi, co 4 (pO fa m2_4)), (fa, cn 0 6 fa2_5)] 32 [(0, ar mo), (1, ai player)] [] 0 0
      have hfm := g_6
      refine v_aload_n (pc := 32) 0 rfl dX11_title_32 ?_
      refine v_callV (pc := 33) [0, 2, 3] [1] [(ms, cn 0 6 ms2_3)] (As := []) (rest := []) (c_X11_fillPoints mo kw pi ta ms pt po hi nw pls ins tap e3 e4 e5 e6 e7 e8 bar fa m2_4 fa2_5 iv hq ns us sla ena cda cd sl en pv pl tu f ms2_3 pt0 (by assumption) (by assumption) (by assumption) (by exact hfm)) (c := 11) rfl (Or.inl r0) wl_X11_235 wi_X11_fillPoints wv_X11_X11_fillPoints_X11_fillPoints wk_X11_fillPoints wz_X11 md_X11_fillPoints rfl (Nat.le_of_ble_eq_true rfl) ⟨Nat.le_of_ble_eq_true rfl, Nat.le_of_ble_eq_true rfl, Nat.le_of_ble_eq_true rfl, Nat.le_of_ble_eq_true rfl⟩ rfl rfl rfl rfl (by decide) (ro_app (ro_cons (Or.inl r0) (ro_cons (Or.inl r1) (ro_cons (Or.inl r2) (ro_cons (Or.inl r3) (ro_cons (Or.inl r4) (ro_cons (Or.inl r5) (ro_cons (Or.inl r6) (ro_cons (Or.inl r7) (ro_cons (Or.inr ⟨1, rfl, by decide⟩) ro_nil))))))))) (fun q h => Or.inl (hra q h))) dX11_title_33 (fun u hu => ?_)
      obtain ⟨pt2_7, m2_8, fa2_9⟩ := u
      have g_10 : ∀ i : Int, 0 ≤ i → i < f 0 → pt2_7 i = qPts f i := hu
      show V x cX11_title RX11 4 (rmU 7 189 0 0) [(ms, cn 0 6 ms2_3), (pt, cn 0 6 pt2_7), (pi, co 4 (pO fa m2_8)), (fa, cn 0 6 fa2_9)] 36 [(0, ar mo), (1, ai player)] [] 0 0
      have hfp := g_10
      refine v_iload_n (pc := 36) 1 rfl dX11_title_36 ?_
      refine v_iconst (pc := 37) dX11_title_37 ?_
      refine v_icmp_eq (pc := 38) 48 dX11_title_38 (by decide) (by unfold iB; omega) (by unfold iB; omega) (fun c_11 => ?_) (fun c_11 => ?_)
      · skip
        refine v_iconst (pc := 48) dX11_title_48 ?_
        refine v_istore_n (pc := 49) (L2 := [(2, ai 0), (0, ar mo), (1, ai player)]) rfl (by decide) dX11_title_49 ?_
        refine v_iconst (pc := 50) dX11_title_50 ?_
        refine v_istore_n (pc := 51) (L2 := [(3, ai 1), (2, ai 0), (0, ar mo), (1, ai player)]) rfl (by decide) dX11_title_51 ?_
        have lp52 : ∀ (mm : Nat) (le : Int) (i : Int), (f 0 - i).toNat = mm → (1 ≤ i ∧ i ≤ f 0 ∧ 0 ≤ le ∧ le < i) → (le = tbs (qPts f) (i - 1).toNat) → V x cX11_title RX11 4 (rmU 7 189 0 0) [(ms, cn 0 6 ms2_3), (pt, cn 0 6 pt2_7), (pi, co 4 (pO fa m2_8)), (fa, cn 0 6 fa2_9)] 52 [(0, ar mo), (2, ai le), (3, ai i)] [] 0 0 := by
          intro mm
          induction mm using Nat.strongRecOn with
          | _ mm ih =>
            intro le i hmm hix hle
            refine v_iload_n (pc := 52) 2 rfl dX11_title_52 ?_
            refine v_aload_n (pc := 53) 0 rfl dX11_title_53 ?_
            refine v_get (pc := 54) (v := ar nw) 0 (Or.inl r0) fl_11_12_11 rfl dX11_title_54 ?_
            refine v_get (pc := 57) (v := ai (f 0)) 9 (Or.inl r1) fl_11_71_10 rfl dX11_title_57 ?_
            refine v_icmp_ge (pc := 60) 86 dX11_title_60 (by decide) (by unfold iB; omega) (by unfold iB; omega) (fun c_12 => ?_) (fun c_12 => ?_)
            · skip
              refine v_iload_n (pc := 86) 1 rfl dX11_title_86 ?_
              exact hret (ms2_3, pt2_7, m2_8, fa2_9) _ _ _ _ _ _ trivial (congrArg (fun z => some (ai z)) (by unfold qTitle; rw [if_neg (by omega), if_pos (by omega), if_neg (by omega), hle, show (f 0 - 1).toNat = (i - 1).toNat by omega])) rfl (Nat.le_of_ble_eq_true rfl) (Nat.le_of_ble_eq_true rfl) dX11_title_87
            · skip
              have hq1 := hpts i
              have hq2 := hpts le
              refine v_aload_n (pc := 63) 0 rfl dX11_title_63 ?_
              refine v_get (pc := 64) (v := ar pt) 5 (Or.inl r0) fl_11_35_11 rfl dX11_title_64 ?_
              refine v_iload_n (pc := 67) 2 rfl dX11_title_67 ?_
              refine v_iald (pc := 68) (Or.inr ⟨1, rfl⟩) (by omega) (by omega) (by decide) dX11_title_68 ?_
              refine v_eqi (y := (qPts f i)) (hfp i (by omega) (by omega)) ?_
              refine v_aload_n (pc := 69) 0 rfl dX11_title_69 ?_
              refine v_get (pc := 70) (v := ar pt) 5 (Or.inl r0) fl_11_35_11 rfl dX11_title_70 ?_
              refine v_iload_n (pc := 73) 1 rfl dX11_title_73 ?_
              refine v_iald (pc := 74) (Or.inr ⟨1, rfl⟩) (by omega) (by omega) (by decide) dX11_title_74 ?_
              refine v_eqi (y := (qPts f le)) (hfp le (by omega) (by omega)) ?_
              refine v_icmp_le (pc := 75) 80 dX11_title_75 (by decide) (by unfold iB; omega) (by unfold iB; omega) (fun c_13 => ?_) (fun c_13 => ?_)
              · skip
                refine v_iinc (pc := 80) 2 (L2 := [(3, ai (i + 1)), (0, ar mo), (2, ai le)]) rfl rfl (by decide) dX11_title_80 ?_
                refine v_goto (pc := 83) 52 dX11_title_83 (by decide) ?_
                refine v_sub (L2 := [(0, ar mo), (2, ai le), (3, ai (i + 1))]) [1, 2, 0] rfl ?_
                exact ih _ (by omega) le (i + 1) rfl (by omega) (by rw [show (i + 1 - 1).toNat = (i - 1).toNat + 1 by omega, tbs_succ, ← hle, show (((i - 1).toNat : Nat) : Int) + 1 = i by omega]; first | (rw [if_pos (by omega)]; done) | (rw [if_neg (by omega)]; done))
              · skip
                refine v_iload_n (pc := 78) 2 rfl dX11_title_78 ?_
                refine v_istore_n (pc := 79) (L2 := [(2, ai i), (0, ar mo), (3, ai i)]) rfl (by decide) dX11_title_79 ?_
                refine v_iinc (pc := 80) 2 (L2 := [(3, ai (i + 1)), (2, ai i), (0, ar mo)]) rfl rfl (by decide) dX11_title_80 ?_
                refine v_goto (pc := 83) 52 dX11_title_83 (by decide) ?_
                refine v_sub (L2 := [(0, ar mo), (2, ai i), (3, ai (i + 1))]) [2, 1, 0] rfl ?_
                exact ih _ (by omega) i (i + 1) rfl (by omega) (by rw [show (i + 1 - 1).toNat = (i - 1).toNat + 1 by omega, tbs_succ, ← hle, show (((i - 1).toNat : Nat) : Int) + 1 = i by omega]; first | (rw [if_pos (by omega)]; done) | (rw [if_neg (by omega)]; done))
        refine v_sub (L2 := [(0, ar mo), (2, ai 0), (3, ai 1)]) [2, 1, 0] rfl ?_
        exact lp52 _ 0 1 rfl (by omega) (by rfl)
      · skip
        refine v_aload_n (pc := 41) 0 rfl dX11_title_41 ?_
        refine v_get (pc := 42) (v := ar pt) 5 (Or.inl r0) fl_11_35_11 rfl dX11_title_42 ?_
        refine v_iload_n (pc := 45) 1 rfl dX11_title_45 ?_
        refine v_iald (pc := 46) (Or.inr ⟨1, rfl⟩) (by omega) (by omega) (by decide) dX11_title_46 ?_
        refine v_eqi (y := (qPts f player)) (hfp player (by omega) (by omega)) ?_
        exact hret (ms2_3, pt2_7, m2_8, fa2_9) _ _ _ _ _ _ trivial (congrArg (fun z => some (ai z)) (by unfold qTitle; rw [if_neg (by omega), if_neg (by omega)])) rfl (Nat.le_of_ble_eq_true rfl) (Nat.le_of_ble_eq_true rfl) dX11_title_47
    · skip
      refine v_bipush (pc := 25) dX11_title_25 (by decide) ?_
      exact hret (ms0, pt0, m, fa0) _ _ _ _ _ _ trivial (congrArg (fun z => some (ai z)) (by unfold qTitle; first | (rw [if_neg (by omega), if_pos (by omega), if_pos (by omega)]; done) | (exfalso; omega))) rfl (Nat.le_of_ble_eq_true rfl) (Nat.le_of_ble_eq_true rfl) dX11_title_27
  · skip
    refine v_aload_n (pc := 5) 0 rfl dX11_title_5 ?_
    refine v_iload_n (pc := 6) 1 rfl dX11_title_6 ?_
    rcases Classical.em (0 ≤ player ∧ player ≤ f 0 - 1) with hp | hp
    · skip
      have hpl := hpv player hp.1 hp.2
      have rP := hra _ (zpA_p (ta := ta) (pl := pl) (tu := tu) hp)
      have rQ := hra _ (zpA_t (ta := ta) (pl := pl) (tu := tu) hp)
      have hp6 : 0 ≤ player ∧ player < 6 := by omega
      obtain ⟨hpp, hf1, hf2, hf3, hf4, hf5, hf6, hf7, hf8⟩ := hSp player hp6.1 hp6.2
      refine v_callV (pc := 7) [] [0, 1, 2, 3] [(ms, cn 0 6 ms0), (pt, cn 0 6 pt0), (pi, co 4 (pO fa m)), (fa, cn 0 6 fa0)] (As := [ai player]) (rest := []) (c_X11_find_y mo kw pi ta ms pt po hi nw pls ins tap e3 e4 e5 e6 e7 e8 bar pv (pl player) f player (by assumption) (by exact hpl) (by exact hp)) (c := 11) rfl (Or.inl r0) wl_X11_99 wi_X11_find wv_X11_X11_find_X11_find wk_X11_find wz_X11 md_X11_find rfl (Nat.le_of_ble_eq_true rfl) ⟨Nat.le_of_ble_eq_true rfl, Nat.le_of_ble_eq_true rfl, Nat.le_of_ble_eq_true rfl, Nat.le_of_ble_eq_true rfl⟩ rfl rfl rfl rfl (by decide) (ro_cons (Or.inl r0) (ro_cons (Or.inl r1) (ro_cons (Or.inl r2) ro_nil))) dX11_title_7 (fun u hu => ?_)
      show V x cX11_title RX11 4 (rmU 7 189 0 0) [(ms, cn 0 6 ms0), (pt, cn 0 6 pt0), (pi, co 4 (pO fa m)), (fa, cn 0 6 fa0)] 10 [(0, ar mo), (1, ai player)] [ar (pl player)] 0 0
      refine v_ifnonnull_r (pc := 10) 15 dX11_title_10 (by decide) ?_
      refine v_aload_n (pc := 15) 0 rfl dX11_title_15 ?_
      refine v_get (pc := 16) (v := ar nw) 0 (Or.inl r0) fl_11_12_11 rfl dX11_title_16 ?_
      refine v_get (pc := 19) (v := ai (f 0)) 9 (Or.inl r1) fl_11_71_10 rfl dX11_title_19 ?_
      refine v_if_ne (pc := 22) 28 dX11_title_22 (by decide) (by unfold iB; omega) (fun c_14 => ?_) (fun c_14 => ?_)
      · skip
        refine v_aload_n (pc := 28) 0 rfl dX11_title_28 ?_
        refine v_callV (pc := 29) [0, 2, 3] [1] [(pt, cn 0 6 pt0)] (As := []) (rest := []) (c_X11_fillMosts mo kw pi ta ms pt po hi nw pls ins tap e3 e4 e5 e6 e7 e8 bar fa m fa0 iv hq ns us sla ena cda cd sl en pv pl tu f ms0 (by assumption) (by assumption) (by assumption)) (c := 11) rfl (Or.inl r0) wl_X11_229 wi_X11_fillMosts wv_X11_X11_fillMosts_X11_fillMosts wk_X11_fillMosts wz_X11 md_X11_fillMosts rfl (Nat.le_of_ble_eq_true rfl) ⟨Nat.le_of_ble_eq_true rfl, Nat.le_of_ble_eq_true rfl, Nat.le_of_ble_eq_true rfl, Nat.le_of_ble_eq_true rfl⟩ rfl rfl rfl rfl (by decide) (ro_app (ro_cons (Or.inl r0) (ro_cons (Or.inl r1) (ro_cons (Or.inl r2) (ro_cons (Or.inl r3) (ro_cons (Or.inl r4) (ro_cons (Or.inl r5) (ro_cons (Or.inl r6) (ro_cons (Or.inl r7) ro_nil)))))))) (fun q h => Or.inl (hra q h))) dX11_title_29 (fun u hu => ?_)
        obtain ⟨ms2_15, m2_16, fa2_17⟩ := u
        have g_18 : ∀ i : Int, 0 ≤ i → i < f 0 → ms2_15 i = fMost f i := hu
        show V x cX11_title RX11 4 (rmU 7 189 0 0) [(pt, cn 0 6 pt0), (ms, cn 0 6 ms2_15), (pi, co 4 (pO fa m2_16)), (fa, cn 0 6 fa2_17)] 32 [(0, ar mo), (1, ai player)] [] 0 0
        have hfm := g_18
        refine v_aload_n (pc := 32) 0 rfl dX11_title_32 ?_
        refine v_callV (pc := 33) [0, 2, 3] [1] [(ms, cn 0 6 ms2_15)] (As := []) (rest := []) (c_X11_fillPoints mo kw pi ta ms pt po hi nw pls ins tap e3 e4 e5 e6 e7 e8 bar fa m2_16 fa2_17 iv hq ns us sla ena cda cd sl en pv pl tu f ms2_15 pt0 (by assumption) (by assumption) (by assumption) (by exact hfm)) (c := 11) rfl (Or.inl r0) wl_X11_235 wi_X11_fillPoints wv_X11_X11_fillPoints_X11_fillPoints wk_X11_fillPoints wz_X11 md_X11_fillPoints rfl (Nat.le_of_ble_eq_true rfl) ⟨Nat.le_of_ble_eq_true rfl, Nat.le_of_ble_eq_true rfl, Nat.le_of_ble_eq_true rfl, Nat.le_of_ble_eq_true rfl⟩ rfl rfl rfl rfl (by decide) (ro_app (ro_cons (Or.inl r0) (ro_cons (Or.inl r1) (ro_cons (Or.inl r2) (ro_cons (Or.inl r3) (ro_cons (Or.inl r4) (ro_cons (Or.inl r5) (ro_cons (Or.inl r6) (ro_cons (Or.inl r7) (ro_cons (Or.inr ⟨1, rfl, by decide⟩) ro_nil))))))))) (fun q h => Or.inl (hra q h))) dX11_title_33 (fun u hu => ?_)
        obtain ⟨pt2_19, m2_20, fa2_21⟩ := u
        have g_22 : ∀ i : Int, 0 ≤ i → i < f 0 → pt2_19 i = qPts f i := hu
        show V x cX11_title RX11 4 (rmU 7 189 0 0) [(ms, cn 0 6 ms2_15), (pt, cn 0 6 pt2_19), (pi, co 4 (pO fa m2_20)), (fa, cn 0 6 fa2_21)] 36 [(0, ar mo), (1, ai player)] [] 0 0
        have hfp := g_22
        refine v_iload_n (pc := 36) 1 rfl dX11_title_36 ?_
        refine v_iconst (pc := 37) dX11_title_37 ?_
        refine v_icmp_eq (pc := 38) 48 dX11_title_38 (by decide) (by unfold iB; omega) (by unfold iB; omega) (fun c_23 => ?_) (fun c_23 => ?_)
        · skip
          refine v_iconst (pc := 48) dX11_title_48 ?_
          refine v_istore_n (pc := 49) (L2 := [(2, ai 0), (0, ar mo), (1, ai player)]) rfl (by decide) dX11_title_49 ?_
          refine v_iconst (pc := 50) dX11_title_50 ?_
          refine v_istore_n (pc := 51) (L2 := [(3, ai 1), (2, ai 0), (0, ar mo), (1, ai player)]) rfl (by decide) dX11_title_51 ?_
          have lp52 : ∀ (mm : Nat) (le : Int) (i : Int), (f 0 - i).toNat = mm → (1 ≤ i ∧ i ≤ f 0 ∧ 0 ≤ le ∧ le < i) → (le = tbs (qPts f) (i - 1).toNat) → V x cX11_title RX11 4 (rmU 7 189 0 0) [(ms, cn 0 6 ms2_15), (pt, cn 0 6 pt2_19), (pi, co 4 (pO fa m2_20)), (fa, cn 0 6 fa2_21)] 52 [(0, ar mo), (2, ai le), (3, ai i)] [] 0 0 := by
            intro mm
            induction mm using Nat.strongRecOn with
            | _ mm ih =>
              intro le i hmm hix hle
              refine v_iload_n (pc := 52) 2 rfl dX11_title_52 ?_
              refine v_aload_n (pc := 53) 0 rfl dX11_title_53 ?_
              refine v_get (pc := 54) (v := ar nw) 0 (Or.inl r0) fl_11_12_11 rfl dX11_title_54 ?_
              refine v_get (pc := 57) (v := ai (f 0)) 9 (Or.inl r1) fl_11_71_10 rfl dX11_title_57 ?_
              refine v_icmp_ge (pc := 60) 86 dX11_title_60 (by decide) (by unfold iB; omega) (by unfold iB; omega) (fun c_24 => ?_) (fun c_24 => ?_)
              · skip
                refine v_iload_n (pc := 86) 1 rfl dX11_title_86 ?_
                exact hret (ms2_15, pt2_19, m2_20, fa2_21) _ _ _ _ _ _ trivial (congrArg (fun z => some (ai z)) (by unfold qTitle; rw [if_neg (by omega), if_pos (by omega), if_neg (by omega), hle, show (f 0 - 1).toNat = (i - 1).toNat by omega])) rfl (Nat.le_of_ble_eq_true rfl) (Nat.le_of_ble_eq_true rfl) dX11_title_87
              · skip
                have hq1 := hpts i
                have hq2 := hpts le
                refine v_aload_n (pc := 63) 0 rfl dX11_title_63 ?_
                refine v_get (pc := 64) (v := ar pt) 5 (Or.inl r0) fl_11_35_11 rfl dX11_title_64 ?_
                refine v_iload_n (pc := 67) 2 rfl dX11_title_67 ?_
                refine v_iald (pc := 68) (Or.inr ⟨1, rfl⟩) (by omega) (by omega) (by decide) dX11_title_68 ?_
                refine v_eqi (y := (qPts f i)) (hfp i (by omega) (by omega)) ?_
                refine v_aload_n (pc := 69) 0 rfl dX11_title_69 ?_
                refine v_get (pc := 70) (v := ar pt) 5 (Or.inl r0) fl_11_35_11 rfl dX11_title_70 ?_
                refine v_iload_n (pc := 73) 1 rfl dX11_title_73 ?_
                refine v_iald (pc := 74) (Or.inr ⟨1, rfl⟩) (by omega) (by omega) (by decide) dX11_title_74 ?_
                refine v_eqi (y := (qPts f le)) (hfp le (by omega) (by omega)) ?_
                refine v_icmp_le (pc := 75) 80 dX11_title_75 (by decide) (by unfold iB; omega) (by unfold iB; omega) (fun c_25 => ?_) (fun c_25 => ?_)
                · skip
                  refine v_iinc (pc := 80) 2 (L2 := [(3, ai (i + 1)), (0, ar mo), (2, ai le)]) rfl rfl (by decide) dX11_title_80 ?_
                  refine v_goto (pc := 83) 52 dX11_title_83 (by decide) ?_
                  refine v_sub (L2 := [(0, ar mo), (2, ai le), (3, ai (i + 1))]) [1, 2, 0] rfl ?_
                  exact ih _ (by omega) le (i + 1) rfl (by omega) (by rw [show (i + 1 - 1).toNat = (i - 1).toNat + 1 by omega, tbs_succ, ← hle, show (((i - 1).toNat : Nat) : Int) + 1 = i by omega]; first | (rw [if_pos (by omega)]; done) | (rw [if_neg (by omega)]; done))
                · skip
                  refine v_iload_n (pc := 78) 2 rfl dX11_title_78 ?_
                  refine v_istore_n (pc := 79) (L2 := [(2, ai i), (0, ar mo), (3, ai i)]) rfl (by decide) dX11_title_79 ?_
                  refine v_iinc (pc := 80) 2 (L2 := [(3, ai (i + 1)), (2, ai i), (0, ar mo)]) rfl rfl (by decide) dX11_title_80 ?_
                  refine v_goto (pc := 83) 52 dX11_title_83 (by decide) ?_
                  refine v_sub (L2 := [(0, ar mo), (2, ai i), (3, ai (i + 1))]) [2, 1, 0] rfl ?_
                  exact ih _ (by omega) i (i + 1) rfl (by omega) (by rw [show (i + 1 - 1).toNat = (i - 1).toNat + 1 by omega, tbs_succ, ← hle, show (((i - 1).toNat : Nat) : Int) + 1 = i by omega]; first | (rw [if_pos (by omega)]; done) | (rw [if_neg (by omega)]; done))
          refine v_sub (L2 := [(0, ar mo), (2, ai 0), (3, ai 1)]) [2, 1, 0] rfl ?_
          exact lp52 _ 0 1 rfl (by omega) (by rfl)
        · skip
          refine v_aload_n (pc := 41) 0 rfl dX11_title_41 ?_
          refine v_get (pc := 42) (v := ar pt) 5 (Or.inl r0) fl_11_35_11 rfl dX11_title_42 ?_
          refine v_iload_n (pc := 45) 1 rfl dX11_title_45 ?_
          refine v_iald (pc := 46) (Or.inr ⟨1, rfl⟩) (by omega) (by omega) (by decide) dX11_title_46 ?_
          refine v_eqi (y := (qPts f player)) (hfp player (by omega) (by omega)) ?_
          exact hret (ms2_15, pt2_19, m2_20, fa2_21) _ _ _ _ _ _ trivial (congrArg (fun z => some (ai z)) (by unfold qTitle; rw [if_neg (by omega), if_neg (by omega)])) rfl (Nat.le_of_ble_eq_true rfl) (Nat.le_of_ble_eq_true rfl) dX11_title_47
      · skip
        refine v_bipush (pc := 25) dX11_title_25 (by decide) ?_
        exact hret (ms0, pt0, m, fa0) _ _ _ _ _ _ trivial (congrArg (fun z => some (ai z)) (by unfold qTitle; first | (rw [if_neg (by omega), if_pos (by omega), if_pos (by omega)]; done) | (exfalso; omega))) rfl (Nat.le_of_ble_eq_true rfl) (Nat.le_of_ble_eq_true rfl) dX11_title_27
    · skip
      refine v_callV (pc := 7) [] [0, 1, 2, 3] [(ms, cn 0 6 ms0), (pt, cn 0 6 pt0), (pi, co 4 (pO fa m)), (fa, cn 0 6 fa0)] (As := [ai player]) (rest := []) (c_X11_find_n mo kw pi ta ms pt po hi nw pls ins tap e3 e4 e5 e6 e7 e8 bar pv f player (by assumption) (by exact hp) (by first | omega | assumption)) (c := 11) rfl (Or.inl r0) wl_X11_99 wi_X11_find wv_X11_X11_find_X11_find wk_X11_find wz_X11 md_X11_find rfl (Nat.le_of_ble_eq_true rfl) ⟨Nat.le_of_ble_eq_true rfl, Nat.le_of_ble_eq_true rfl, Nat.le_of_ble_eq_true rfl, Nat.le_of_ble_eq_true rfl⟩ rfl rfl rfl rfl (by decide) (ro_cons (Or.inl r0) (ro_cons (Or.inl r1) (ro_cons (Or.inl r2) ro_nil))) dX11_title_7 (fun u hu => ?_)
      show V x cX11_title RX11 4 (rmU 7 189 0 0) [(ms, cn 0 6 ms0), (pt, cn 0 6 pt0), (pi, co 4 (pO fa m)), (fa, cn 0 6 fa0)] 10 [(0, ar mo), (1, ai player)] [an] 0 0
      refine v_ifnonnull_n (pc := 10) dX11_title_10 ?_
      refine v_iconst (pc := 13) dX11_title_13 ?_
      exact hret (ms0, pt0, m, fa0) _ _ _ _ _ _ trivial (congrArg (fun z => some (ai z)) (by unfold qTitle; (repeat' split) <;> first | rfl | (exfalso; omega) | omega)) rfl (Nat.le_of_ble_eq_true rfl) (Nat.le_of_ble_eq_true rfl) dX11_title_14
