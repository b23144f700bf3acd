set_option maxHeartbeats 4000000 in
set_option maxRecDepth 100000 in
theorem c_X4_drawsOf {gS : sG} (h : Nat) (fa : Nat) (n : Int) (hd : Int) (r : Int) (un : Int) (wd : Int) (op : Int) (fo : Int) (cc : Int) (hpi : (-200 ≤ r ∧ r ≤ 100) ∧ (0 ≤ un ∧ un ≤ 21) ∧ (0 ≤ wd ∧ wd ≤ 99) ∧ (0 ≤ hd ∧ hd ≤ 9) ∧ (0 ≤ n ∧ n ≤ 99) ∧ (0 ≤ op ∧ op ≤ 100000)) (hfo : 0 ≤ fo ∧ fo ≤ 20) (hcc : 0 ≤ cc ∧ cc ≤ 99) : Ct gS (S := Unit) yX4_drawsOf cX4_drawsOf 5 (some .int) 2 54 0 0 [ar h, ai fo, ai cc] [] (fun q => q ∈ ([(h, co 4 [ar fa, ai n, ai (10 * hd), ai r, ai un, ai wd, ai op])] : aW)) (fun _ => True) (fun _ => some (ai (bts (fun z : Nat => decide (kCat (5 * fo + r) un wd hd n (z : Int) op = cc)) 10))) (fun _ => []) := by
  refine ct_I RX4 [(0, ar h), (1, ai fo), (2, ai cc)] (by decide) rfl (Nat.le_of_ble_eq_true rfl) rfl (fun x hgS hro hret => ?_)
  subst hgS
  have r0 := hro _ (mem_at 0 rfl)
  have hkb := fun z => kCat_b (tu := 5 * fo + r) (un := un) (wide := wd) (hand := hd) (n := n) (draw := z) (opens := op) (by omega)
  show V x cX4_drawsOf RX4 5 (rmU 2 54 0 0) [] 0 [(0, ar h), (1, ai fo), (2, ai cc)] [] 0 0
  refine v_iconst (pc := 0) dX4_drawsOf_0 ?_
  refine v_istore_n (pc := 1) (L2 := [(3, ai 0), (0, ar h), (1, ai fo), (2, ai cc)]) rfl (by decide) dX4_drawsOf_1 ?_
  refine v_iconst (pc := 2) dX4_drawsOf_2 ?_
  refine v_istore (pc := 3) (L2 := [(4, ai 0), (3, ai 0), (0, ar h), (1, ai fo), (2, ai cc)]) rfl (by decide) dX4_drawsOf_3 ?_
  have lp5 : ∀ (mm : Nat) (st : Int) (d : Int), (10 - d).toNat = mm → (0 ≤ d ∧ d ≤ 10) → (st = bts (fun z : Nat => decide (kCat (5 * fo + r) un wd hd n (z : Int) op = cc)) d.toNat) → V x cX4_drawsOf RX4 5 (rmU 2 54 0 0) [] 5 [(0, ar h), (1, ai fo), (2, ai cc), (3, ai st), (4, ai d)] [] 0 0 := by
    intro mm
    induction mm using Nat.strongRecOn with
    | _ mm ih =>
      intro st d hmm hdd hst
      refine v_iload (pc := 5) 4 rfl dX4_drawsOf_5 ?_
      refine v_bipush (pc := 7) dX4_drawsOf_7 (by decide) ?_
      refine v_icmp_ge (pc := 9) 36 dX4_drawsOf_9 (by decide) (by unfold iB; omega) (by unfold iB; omega) (fun c_1 => ?_) (fun c_1 => ?_)
      · skip
        refine v_iload_n (pc := 36) 3 rfl dX4_drawsOf_36 ?_
        exact hret () _ _ _ _ _ _ trivial (congrArg (fun z => some (ai z)) (by rw [hst, show d = 10 by omega]; rfl)) rfl (Nat.le_of_ble_eq_true rfl) (Nat.le_of_ble_eq_true rfl) dX4_drawsOf_37
      · skip
        refine v_aload_n (pc := 12) 0 rfl dX4_drawsOf_12 ?_
        refine v_iload_n (pc := 13) 1 rfl dX4_drawsOf_13 ?_
        refine v_iload (pc := 14) 4 rfl dX4_drawsOf_14 ?_
        refine v_callV (pc := 16) [] [] [] (As := [ai fo, ai d]) (rest := []) (c_X4_caughtBy h fa n hd r un wd op fo d (by first | omega | assumption) (by first | omega | assumption) (by first | omega | assumption)) (c := 4) rfl (Or.inl r0) wl_X4_77 wi_X4_caughtBy wv_X4_X4_caughtBy_X4_caughtBy wk_X4_caughtBy wz_X4 md_X4_caughtBy rfl (Nat.le_of_ble_eq_true rfl) ⟨Nat.le_of_ble_eq_true rfl, Nat.le_of_ble_eq_true rfl, Nat.le_of_ble_eq_true rfl, Nat.le_of_ble_eq_true rfl⟩ rfl rfl rfl rfl (by decide) (ro_cons (Or.inl r0) ro_nil) dX4_drawsOf_16 (fun u hu => ?_)
        show V x cX4_drawsOf RX4 5 (rmU 2 54 0 0) [] 19 [(0, ar h), (1, ai fo), (2, ai cc), (3, ai st), (4, ai d)] [ai (kCat (5 * fo + r) un wd hd n d op)] 0 0
        have hkb1 := hkb d
        refine v_iload_n (pc := 19) 2 rfl dX4_drawsOf_19 ?_
        refine v_icmp_ne (pc := 20) 30 dX4_drawsOf_20 (by decide) (by unfold iB; omega) (by unfold iB; omega) (fun c_2 => ?_) (fun c_2 => ?_)
        · skip
          refine v_iinc (pc := 30) 4 (L2 := [(4, ai (d + 1)), (0, ar h), (1, ai fo), (2, ai cc), (3, ai st)]) rfl rfl (by decide) dX4_drawsOf_30 ?_
          refine v_goto (pc := 33) 5 dX4_drawsOf_33 (by decide) ?_
          refine v_sub (L2 := [(0, ar h), (1, ai fo), (2, ai cc), (3, ai st), (4, ai (d + 1))]) [1, 2, 3, 4, 0] rfl ?_
          exact ih _ (by omega) st (d + 1) rfl (by omega) (by rw [hst, show (d + 1).toNat = d.toNat + 1 by omega, bts_succ, show ((d.toNat : Nat) : Int) = d by omega]; first | (rw [if_pos (decide_eq_true (by omega))]; done) | (rw [if_neg (fun z => by have := of_decide_eq_true z; omega)]; omega))
        · skip
          refine v_iload_n (pc := 23) 3 rfl dX4_drawsOf_23 ?_
          refine v_iconst (pc := 24) dX4_drawsOf_24 ?_
          refine v_iload (pc := 25) 4 rfl dX4_drawsOf_25 ?_
          refine v_ishl1 (pc := 27) (by omega) dX4_drawsOf_27 ?_
          refine v_ior (pc := 28) (c := (st + (2 ^ d.toNat))) (or_add (m := d.toNat) (by omega) (by rw [hst]; exact bts_b _ _) (by first | exact Or.inl rfl | exact Or.inr rfl)) dX4_drawsOf_28 ?_
          refine v_istore_n (pc := 29) (L2 := [(3, ai (st + (2 ^ d.toNat))), (0, ar h), (1, ai fo), (2, ai cc), (4, ai d)]) rfl (by decide) dX4_drawsOf_29 ?_
          refine v_iinc (pc := 30) 4 (L2 := [(4, ai (d + 1)), (3, ai (st + (2 ^ d.toNat))), (0, ar h), (1, ai fo), (2, ai cc)]) rfl rfl (by decide) dX4_drawsOf_30 ?_
          refine v_goto (pc := 33) 5 dX4_drawsOf_33 (by decide) ?_
          refine v_sub (L2 := [(0, ar h), (1, ai fo), (2, ai cc), (3, ai (st + (2 ^ d.toNat))), (4, ai (d + 1))]) [2, 3, 4, 1, 0] rfl ?_
          exact ih _ (by omega) (st + (2 ^ d.toNat)) (d + 1) rfl (by omega) (by rw [hst, show (d + 1).toNat = d.toNat + 1 by omega, bts_succ, show ((d.toNat : Nat) : Int) = d by omega]; first | (rw [if_pos (decide_eq_true (by omega))]; done) | (rw [if_neg (fun z => by have := of_decide_eq_true z; omega)]; omega))
  refine v_sub (L2 := [(0, ar h), (1, ai fo), (2, ai cc), (3, ai 0), (4, ai 0)]) [2, 3, 4, 1, 0] rfl ?_
  exact lp5 _ 0 0 rfl (by omega) (by rfl)
set_option maxHeartbeats 4000000 in
set_option maxRecDepth 100000 in
theorem c_X3_isMet {gS : sG} (t : Int) (fa : Nat) (b : Int → Int) (ht : 0 ≤ t ∧ t < 1800) (hbf : ∀ k : Int, 0 ≤ k → k < 6 → 0 ≤ b k ∧ b k ≤ 1000) : Ct gS (S := Unit) yX3_isMet cX3_isMet 6 (some .boolean) 0 0 0 0 [ai t, ar fa] [] (fun q => q ∈ ([(fa, cn 0 6 b)] : aW)) (fun _ => True) (fun _ => some (ai (if tstC b t = true then 1 else 0))) (fun _ => []) := by
  refine ct_Z RX3 [(0, ai t), (1, ar fa)] (by decide) rfl (Nat.le_of_ble_eq_true rfl) rfl (fun x hgS hro hret => ?_)
  subst hgS
  have r0 := hro _ (mem_at 0 rfl)
  show V x cX3_isMet RX3 6 (rmU 0 0 0 0) [] 0 [(0, ai t), (1, ar fa)] [] 0 0
  refine v_iload_n (pc := 0) 0 rfl dX3_isMet_0 ?_
  refine v_sipush (pc := 1) dX3_isMet_1 (by decide) ?_
  refine v_idiv (pc := 4) (by omega) (by omega) (by unfold iB; omega) (by unfold iB; omega) dX3_isMet_4 ?_
  refine v_istore_n (pc := 5) (L2 := [(2, ai (t / 300)), (0, ai t), (1, ar fa)]) rfl (by decide) dX3_isMet_5 ?_
  refine v_iload_n (pc := 6) 1 rfl dX3_isMet_6 ?_
  refine v_bipush (pc := 7) dX3_isMet_7 (by decide) ?_
  refine v_idiv (pc := 9) (by omega) (by omega) (by unfold iB; omega) (by unfold iB; omega) dX3_isMet_9 ?_
  refine v_iconst (pc := 10) dX3_isMet_10 ?_
  refine v_irem (pc := 11) (by omega) (by omega) (by unfold iB; omega) (by unfold iB; omega) dX3_isMet_11 ?_
  refine v_istore_n (pc := 12) (L2 := [(3, ai ((t / 100) % 3)), (2, ai (t / 300)), (0, ai t), (1, ar fa)]) rfl (by decide) dX3_isMet_12 ?_
  refine v_iload_n (pc := 13) 2 rfl dX3_isMet_13 ?_
  refine v_bipush (pc := 14) dX3_isMet_14 (by decide) ?_
  refine v_irem (pc := 16) (by omega) (by omega) (by unfold iB; omega) (by unfold iB; omega) dX3_isMet_16 ?_
  refine v_istore (pc := 17) (L2 := [(4, ai (t % 100)), (3, ai ((t / 100) % 3)), (2, ai (t / 300)), (0, ai t), (1, ar fa)]) rfl (by decide) dX3_isMet_17 ?_
  refine v_iload_n (pc := 19) 2 rfl dX3_isMet_19 ?_
  refine v_if_lt (pc := 20) 29 dX3_isMet_20 (by decide) (by unfold iB; omega) (fun c_1 => ?_) (fun c_1 => ?_)
  · skip
    exfalso; omega
  · skip
    refine v_iload_n (pc := 23) 2 rfl dX3_isMet_23 ?_
    refine v_aload_n (pc := 24) 4 rfl dX3_isMet_24 ?_
    refine v_alen (pc := 25) (by decide) (Or.inl r0) dX3_isMet_25 ?_
    refine v_icmp_lt (pc := 26) 31 dX3_isMet_26 (by decide) (by unfold iB; omega) (by unfold iB; omega) (fun c_2 => ?_) (fun c_2 => ?_)
    · skip
      refine v_aload_n (pc := 31) 4 rfl dX3_isMet_31 ?_
      refine v_iload_n (pc := 32) 2 rfl dX3_isMet_32 ?_
      have hbt := hbf (t / 300) (by omega) (by omega)
      refine v_iald (pc := 33) (Or.inl r0) (by omega) (by omega) (by decide) dX3_isMet_33 ?_
      refine v_istore (pc := 34) (L2 := [(5, ai (b (t / 300))), (4, ai (t % 100)), (3, ai ((t / 100) % 3)), (2, ai (t / 300)), (0, ai t), (1, ar fa)]) rfl (by decide) dX3_isMet_34 ?_
      refine v_iload_n (pc := 36) 2 rfl dX3_isMet_36 ?_
      refine v_if_ne (pc := 37) 55 dX3_isMet_37 (by decide) (by unfold iB; omega) (fun c_3 => ?_) (fun c_3 => ?_)
      · skip
        refine v_iload_n (pc := 55) 2 rfl dX3_isMet_55 ?_
        refine v_iconst (pc := 56) dX3_isMet_56 ?_
        refine v_icmp_ne (pc := 57) 75 dX3_isMet_57 (by decide) (by unfold iB; omega) (by unfold iB; omega) (fun c_4 => ?_) (fun c_4 => ?_)
        · skip
          refine v_iload (pc := 75) 0 rfl dX3_isMet_75 ?_
          refine v_iload (pc := 77) 1 rfl dX3_isMet_77 ?_
          refine v_icmp_le (pc := 79) 86 dX3_isMet_79 (by decide) (by unfold iB; omega) (by unfold iB; omega) (fun c_5 => ?_) (fun c_5 => ?_)
          · skip
            refine v_iconst (pc := 86) dX3_isMet_86 ?_
            exact hret () _ _ _ _ _ _ trivial (congrArg (fun z => some (ai z)) (by first | (rw [if_pos (tstC_t.mpr (by omega))]; done) | (rw [if_neg (fun z => by have q := tstC_t.mp z; omega)]; done))) (Or.inl rfl) rfl (Nat.le_of_ble_eq_true rfl) (Nat.le_of_ble_eq_true rfl) dX3_isMet_87
          · skip
            refine v_iconst (pc := 82) dX3_isMet_82 ?_
            refine v_goto (pc := 83) 87 dX3_isMet_83 (by decide) ?_
            exact hret () _ _ _ _ _ _ trivial (congrArg (fun z => some (ai z)) (by first | (rw [if_pos (tstC_t.mpr (by omega))]; done) | (rw [if_neg (fun z => by have q := tstC_t.mp z; omega)]; done))) (Or.inr rfl) rfl (Nat.le_of_ble_eq_true rfl) (Nat.le_of_ble_eq_true rfl) dX3_isMet_87
        · skip
          refine v_iload (pc := 60) 0 rfl dX3_isMet_60 ?_
          refine v_iload (pc := 62) 1 rfl dX3_isMet_62 ?_
          refine v_icmp_ne (pc := 64) 71 dX3_isMet_64 (by decide) (by unfold iB; omega) (by unfold iB; omega) (fun c_6 => ?_) (fun c_6 => ?_)
          · skip
            refine v_iconst (pc := 71) dX3_isMet_71 ?_
            refine v_goto (pc := 72) 87 dX3_isMet_72 (by decide) ?_
            exact hret () _ _ _ _ _ _ trivial (congrArg (fun z => some (ai z)) (by first | (rw [if_pos (tstC_t.mpr (by omega))]; done) | (rw [if_neg (fun z => by have q := tstC_t.mp z; omega)]; done))) (Or.inl rfl) rfl (Nat.le_of_ble_eq_true rfl) (Nat.le_of_ble_eq_true rfl) dX3_isMet_87
          · skip
            refine v_iconst (pc := 67) dX3_isMet_67 ?_
            refine v_goto (pc := 68) 87 dX3_isMet_68 (by decide) ?_
            exact hret () _ _ _ _ _ _ trivial (congrArg (fun z => some (ai z)) (by first | (rw [if_pos (tstC_t.mpr (by omega))]; done) | (rw [if_neg (fun z => by have q := tstC_t.mp z; omega)]; done))) (Or.inr rfl) rfl (Nat.le_of_ble_eq_true rfl) (Nat.le_of_ble_eq_true rfl) dX3_isMet_87
      · skip
        refine v_iload (pc := 40) 0 rfl dX3_isMet_40 ?_
        refine v_iload (pc := 42) 1 rfl dX3_isMet_42 ?_
        refine v_icmp_ge (pc := 44) 51 dX3_isMet_44 (by decide) (by unfold iB; omega) (by unfold iB; omega) (fun c_7 => ?_) (fun c_7 => ?_)
        · skip
          refine v_iconst (pc := 51) dX3_isMet_51 ?_
          refine v_goto (pc := 52) 87 dX3_isMet_52 (by decide) ?_
          exact hret () _ _ _ _ _ _ trivial (congrArg (fun z => some (ai z)) (by first | (rw [if_pos (tstC_t.mpr (by omega))]; done) | (rw [if_neg (fun z => by have q := tstC_t.mp z; omega)]; done))) (Or.inl rfl) rfl (Nat.le_of_ble_eq_true rfl) (Nat.le_of_ble_eq_true rfl) dX3_isMet_87
        · skip
          refine v_iconst (pc := 47) dX3_isMet_47 ?_
          refine v_goto (pc := 48) 87 dX3_isMet_48 (by decide) ?_
          exact hret () _ _ _ _ _ _ trivial (congrArg (fun z => some (ai z)) (by first | (rw [if_pos (tstC_t.mpr (by omega))]; done) | (rw [if_neg (fun z => by have q := tstC_t.mp z; omega)]; done))) (Or.inr rfl) rfl (Nat.le_of_ble_eq_true rfl) (Nat.le_of_ble_eq_true rfl) dX3_isMet_87
    · skip
      exfalso; omega
set_option maxHeartbeats 4000000 in
set_option maxRecDepth 100000 in
theorem c_X3_holds {gS : sG} (h : Nat) (wi : Int) (pa : Int) (ns : Int) (us : Int) (sla : Nat) (ena : Nat) (cda : Nat) (i : Int) (j : Int) (fa : Nat) (cd : Int → Int) (b : Int → Int) (hij : 0 ≤ i ∧ i ≤ j ∧ j ≤ 100) (hok : ∀ m : Nat, (m : Int) < j - i → okC (evC b cd i m) (cd (i + (m : Int)))) (hbf : ∀ k : Int, 0 ≤ k → k < 6 → 0 ≤ b k ∧ b k ≤ 1000) : Ct gS (S := Unit) yX3_holds cX3_holds 8 (some .boolean) 1 25 0 0 [ar h, ai i, ai j, ar fa] [] (fun q => q ∈ ([(h, co 3 [ai wi, ai pa, ai ns, ai us, ar sla, ar ena, ar cda]), (cda, cn 0 100 cd), (fa, cn 0 6 b)] : aW)) (fun _ => True) (fun _ => some (ai (if hdB (evC b cd i (j - i).toNat) = true then 1 else 0))) (fun _ => []) := by
  refine ct_Z RX3 [(0, ar h), (1, ai i), (2, ai j), (3, ar fa)] (by decide) rfl (Nat.le_of_ble_eq_true rfl) rfl (fun x hgS hro hret => ?_)
  subst hgS
  have r0 := hro _ (mem_at 0 rfl)
  have r1 := hro _ (mem_at 1 rfl)
  have r2 := hro _ (mem_at 2 rfl)
  show V x cX3_holds RX3 8 (rmU 1 25 0 0) [] 0 [(0, ar h), (1, ai i), (2, ai j), (3, ar fa)] [] 0 0
  refine v_iconst (pc := 0) dX3_holds_0 ?_
  refine v_istore (pc := 1) (L2 := [(4, ai 0), (0, ar h), (1, ai i), (2, ai j), (3, ar fa)]) rfl (by decide) dX3_holds_1 ?_
  refine v_iload_n (pc := 3) 2 rfl dX3_holds_3 ?_
  refine v_istore (pc := 4) (L2 := [(5, ai i), (4, ai 0), (0, ar h), (1, ai i), (2, ai j), (3, ar fa)]) rfl (by decide) dX3_holds_4 ?_
  have lp6 : ∀ (mm : Nat) (z : Int) (k : Int), (j - k).toNat = mm → (i ≤ k ∧ k ≤ j) → (z = bz (evC b cd i (k - i).toNat)) → ((evC b cd i (k - i).toNat).length ≤ 25) → V x cX3_holds RX3 8 (rmU 1 25 0 0) [] 6 [(0, ar h), (1, ai i), (2, ai j), (3, ar fa), (4, ai z), (5, ai k)] [] 0 0 := by
    intro mm
    induction mm using Nat.strongRecOn with
    | _ mm ih =>
      intro z k hmm hk hz hle
      have hzp : ipos z ∧ z < 33554433 := by rw [hz]; exact bz_p hle
      have hzq : 0 ≤ z := hzp.1.1
      refine v_iload (pc := 6) 5 rfl dX3_holds_6 ?_
      refine v_iload_n (pc := 8) 2 rfl dX3_holds_8 ?_
      refine v_icmp_ge (pc := 9) 128 dX3_holds_9 (by decide) (by unfold iB; omega) (by unfold iB; omega) (fun c_1 => ?_) (fun c_1 => ?_)
      · skip
        refine v_iload (pc := 128) 4 rfl dX3_holds_128 ?_
        refine v_iconst (pc := 130) dX3_holds_130 ?_
        refine v_iand (pc := 131) (c := (z % 2)) (b_and1 hzp.1) dX3_holds_131 ?_
        refine v_iconst (pc := 132) dX3_holds_132 ?_
        refine v_icmp_ne (pc := 133) 140 dX3_holds_133 (by decide) (by unfold iB; omega) (by unfold iB; omega) (fun c_2 => ?_) (fun c_2 => ?_)
        · skip
          refine v_iconst (pc := 140) dX3_holds_140 ?_
          exact hret () _ _ _ _ _ _ trivial (congrArg (fun z => some (ai z)) (by rw [bz_hd, show (j - i).toNat = (k - i).toNat by omega, ← hz]; omega)) (Or.inl rfl) rfl (Nat.le_of_ble_eq_true rfl) (Nat.le_of_ble_eq_true rfl) dX3_holds_141
        · skip
          refine v_iconst (pc := 136) dX3_holds_136 ?_
          refine v_goto (pc := 137) 141 dX3_holds_137 (by decide) ?_
          exact hret () _ _ _ _ _ _ trivial (congrArg (fun z => some (ai z)) (by rw [bz_hd, show (j - i).toNat = (k - i).toNat by omega, ← hz]; omega)) (Or.inr rfl) rfl (Nat.le_of_ble_eq_true rfl) (Nat.le_of_ble_eq_true rfl) dX3_holds_141
      · skip
        obtain ⟨ho1, ho2⟩ := hok (k - i).toNat (by omega)
        rw [show i + (((k - i).toNat : Nat) : Int) = k by omega] at ho2
        refine v_iload (pc := 12) 5 rfl dX3_holds_12 ?_
        refine v_aload_n (pc := 14) 0 rfl dX3_holds_14 ?_
        refine v_get (pc := 15) (v := ar cda) 6 (Or.inl r0) fl_3_25_3 rfl dX3_holds_15 ?_
        refine v_alen (pc := 18) (by decide) (Or.inl r1) dX3_holds_18 ?_
        refine v_icmp_ge (pc := 19) 128 dX3_holds_19 (by decide) (by unfold iB; omega) (by unfold iB; omega) (fun c_3 => ?_) (fun c_3 => ?_)
        · skip
          exfalso; omega
        · skip
          refine v_aload_n (pc := 22) 0 rfl dX3_holds_22 ?_
          refine v_get (pc := 23) (v := ar cda) 6 (Or.inl r0) fl_3_25_3 rfl dX3_holds_23 ?_
          refine v_iload (pc := 26) 5 rfl dX3_holds_26 ?_
          refine v_iald (pc := 28) (Or.inl r1) (by omega) (by omega) (by decide) dX3_holds_28 ?_
          refine v_istore (pc := 29) (L2 := [(6, ai (cd k)), (0, ar h), (1, ai i), (2, ai j), (3, ar fa), (4, ai z), (5, ai k)]) rfl (by decide) dX3_holds_29 ?_
          refine v_iload (pc := 31) 5 rfl dX3_holds_31 ?_
          refine v_iconst (pc := 33) dX3_holds_33 ?_
          refine v_iand (pc := 34) (c := (z % 2)) (b_and1 hzp.1) dX3_holds_34 ?_
          refine v_istore (pc := 35) (L2 := [(7, ai (z % 2)), (6, ai (cd k)), (0, ar h), (1, ai i), (2, ai j), (3, ar fa), (4, ai z), (5, ai k)]) rfl (by decide) dX3_holds_35 ?_
          refine v_iload (pc := 37) 1 rfl dX3_holds_37 ?_
          refine v_if_lt (pc := 39) 66 dX3_holds_39 (by decide) (by unfold iB; omega) (fun c_4 => ?_) (fun c_4 => ?_)
          · skip
            refine v_iload (pc := 66) 1 rfl dX3_holds_66 ?_
            refine v_iconst (pc := 68) dX3_holds_68 ?_
            refine v_icmp_ne (pc := 69) 81 dX3_holds_69 (by decide) (by unfold iB; omega) (by unfold iB; omega) (fun c_5 => ?_) (fun c_5 => ?_)
            · skip
              refine v_iload (pc := 81) 1 rfl dX3_holds_81 ?_
              refine v_bipush (pc := 83) dX3_holds_83 (by decide) ?_
              refine v_icmp_ne (pc := 85) 113 dX3_holds_85 (by decide) (by unfold iB; omega) (by unfold iB; omega) (fun c_6 => ?_) (fun c_6 => ?_)
              · skip
                refine v_iload (pc := 113) 6 rfl dX3_holds_113 ?_
                refine v_iconst (pc := 115) dX3_holds_115 ?_
                refine v_ishr (pc := 116) (c := (z / 2)) (b_shr hzp.1) dX3_holds_116 ?_
                refine v_iload (pc := 117) 0 rfl dX3_holds_117 ?_
                refine v_ior (pc := 119) (c := (z / 2 - z / 2 % 2 + (if z / 2 % 2 = 1 ∨ z % 2 = 1 then 1 else 0))) (b_or (z := z / 2) (b := z % 2) (by have := hzp; unfold ipos at this ⊢; omega) (by omega)) dX3_holds_119 ?_
                refine v_istore (pc := 120) (L2 := [(4, ai (z / 2 - z / 2 % 2 + (if z / 2 % 2 = 1 ∨ z % 2 = 1 then 1 else 0))), (7, ai (z % 2)), (6, ai (cd k)), (0, ar h), (1, ai i), (2, ai j), (3, ar fa), (5, ai k)]) rfl (by decide) dX3_holds_120 ?_
                refine v_iinc (pc := 122) 7 (L2 := [(5, ai (k + 1)), (4, ai (z / 2 - z / 2 % 2 + (if z / 2 % 2 = 1 ∨ z % 2 = 1 then 1 else 0))), (7, ai (z % 2)), (6, ai (cd k)), (0, ar h), (1, ai i), (2, ai j), (3, ar fa)]) rfl rfl (by decide) dX3_holds_122 ?_
                refine v_goto (pc := 125) 6 dX3_holds_125 (by decide) ?_
                refine v_sub (L2 := [(0, ar h), (1, ai i), (2, ai j), (3, ar fa), (4, ai (z / 2 - z / 2 % 2 + (if z / 2 % 2 = 1 ∨ z % 2 = 1 then 1 else 0))), (5, ai (k + 1))]) [4, 5, 6, 7, 1, 0] rfl ?_
                exact ih _ (by omega) (z / 2 - z / 2 % 2 + (if z / 2 % 2 = 1 ∨ z % 2 = 1 then 1 else 0)) (k + 1) rfl (by omega) (by rw [show (k + 1 - i).toNat = (k - i).toNat + 1 by omega]; show _ = bz (cst b (evC b cd i (k - i).toNat) (cd (i + (((k - i).toNat : Nat) : Int)))); rw [show i + (((k - i).toNat : Nat) : Int) = k by omega]; first | (rw [bz_tst (by omega), ← hz]; (repeat' split) <;> first | omega | contradiction) | (rw [bz_not (by omega) (by omega), ← hz]; done) | (rw [bz_and (by omega) (by omega), ← hz]; (repeat' split) <;> omega) | (rw [bz_or (by omega) (by omega), ← hz]; done)) (by rw [show (k + 1 - i).toNat = (k - i).toNat + 1 by omega]; have q := cst_len (b := b) (e := (evC b cd i (k - i).toNat)) (c := cd (i + (((k - i).toNat : Nat) : Int))); show (cst b (evC b cd i (k - i).toNat) (cd (i + (((k - i).toNat : Nat) : Int)))).length ≤ 25; omega)
              · skip
                refine v_iload (pc := 88) 0 rfl dX3_holds_88 ?_
                refine v_iconst (pc := 90) dX3_holds_90 ?_
                refine v_icmp_ne (pc := 91) 101 dX3_holds_91 (by decide) (by unfold iB; omega) (by unfold iB; omega) (fun c_7 => ?_) (fun c_7 => ?_)
                · skip
                  refine v_iload (pc := 101) 6 rfl dX3_holds_101 ?_
                  refine v_iconst (pc := 103) dX3_holds_103 ?_
                  refine v_ishr (pc := 104) (c := (z / 2)) (b_shr hzp.1) dX3_holds_104 ?_
                  refine v_bipush (pc := 105) dX3_holds_105 (by decide) ?_
                  refine v_iand (pc := 107) (c := (z / 2 - z / 2 % 2)) (b_andm2 (z := z / 2) (by have := hzp; unfold ipos at this ⊢; omega)) dX3_holds_107 ?_
                  refine v_istore (pc := 108) (L2 := [(4, ai (z / 2 - z / 2 % 2)), (7, ai (z % 2)), (6, ai (cd k)), (0, ar h), (1, ai i), (2, ai j), (3, ar fa), (5, ai k)]) rfl (by decide) dX3_holds_108 ?_
                  refine v_goto (pc := 110) 122 dX3_holds_110 (by decide) ?_
                  refine v_iinc (pc := 122) 7 (L2 := [(5, ai (k + 1)), (4, ai (z / 2 - z / 2 % 2)), (7, ai (z % 2)), (6, ai (cd k)), (0, ar h), (1, ai i), (2, ai j), (3, ar fa)]) rfl rfl (by decide) dX3_holds_122 ?_
                  refine v_goto (pc := 125) 6 dX3_holds_125 (by decide) ?_
                  refine v_sub (L2 := [(0, ar h), (1, ai i), (2, ai j), (3, ar fa), (4, ai (z / 2 - z / 2 % 2)), (5, ai (k + 1))]) [4, 5, 6, 7, 1, 0] rfl ?_
                  exact ih _ (by omega) (z / 2 - z / 2 % 2) (k + 1) rfl (by omega) (by rw [show (k + 1 - i).toNat = (k - i).toNat + 1 by omega]; show _ = bz (cst b (evC b cd i (k - i).toNat) (cd (i + (((k - i).toNat : Nat) : Int)))); rw [show i + (((k - i).toNat : Nat) : Int) = k by omega]; first | (rw [bz_tst (by omega), ← hz]; (repeat' split) <;> first | omega | contradiction) | (rw [bz_not (by omega) (by omega), ← hz]; done) | (rw [bz_and (by omega) (by omega), ← hz]; (repeat' split) <;> omega) | (rw [bz_or (by omega) (by omega), ← hz]; done)) (by rw [show (k + 1 - i).toNat = (k - i).toNat + 1 by omega]; have q := cst_len (b := b) (e := (evC b cd i (k - i).toNat)) (c := cd (i + (((k - i).toNat : Nat) : Int))); show (cst b (evC b cd i (k - i).toNat) (cd (i + (((k - i).toNat : Nat) : Int)))).length ≤ 25; omega)
                · skip
                  refine v_iload (pc := 94) 6 rfl dX3_holds_94 ?_
                  refine v_iconst (pc := 96) dX3_holds_96 ?_
                  refine v_ishr (pc := 97) (c := (z / 2)) (b_shr hzp.1) dX3_holds_97 ?_
                  refine v_goto (pc := 98) 108 dX3_holds_98 (by decide) ?_
                  refine v_istore (pc := 108) (L2 := [(4, ai (z / 2)), (7, ai (z % 2)), (6, ai (cd k)), (0, ar h), (1, ai i), (2, ai j), (3, ar fa), (5, ai k)]) rfl (by decide) dX3_holds_108 ?_
                  refine v_goto (pc := 110) 122 dX3_holds_110 (by decide) ?_
                  refine v_iinc (pc := 122) 7 (L2 := [(5, ai (k + 1)), (4, ai (z / 2)), (7, ai (z % 2)), (6, ai (cd k)), (0, ar h), (1, ai i), (2, ai j), (3, ar fa)]) rfl rfl (by decide) dX3_holds_122 ?_
                  refine v_goto (pc := 125) 6 dX3_holds_125 (by decide) ?_
                  refine v_sub (L2 := [(0, ar h), (1, ai i), (2, ai j), (3, ar fa), (4, ai (z / 2)), (5, ai (k + 1))]) [4, 5, 6, 7, 1, 0] rfl ?_
                  exact ih _ (by omega) (z / 2) (k + 1) rfl (by omega) (by rw [show (k + 1 - i).toNat = (k - i).toNat + 1 by omega]; show _ = bz (cst b (evC b cd i (k - i).toNat) (cd (i + (((k - i).toNat : Nat) : Int)))); rw [show i + (((k - i).toNat : Nat) : Int) = k by omega]; first | (rw [bz_tst (by omega), ← hz]; (repeat' split) <;> first | omega | contradiction) | (rw [bz_not (by omega) (by omega), ← hz]; done) | (rw [bz_and (by omega) (by omega), ← hz]; (repeat' split) <;> omega) | (rw [bz_or (by omega) (by omega), ← hz]; done)) (by rw [show (k + 1 - i).toNat = (k - i).toNat + 1 by omega]; have q := cst_len (b := b) (e := (evC b cd i (k - i).toNat)) (c := cd (i + (((k - i).toNat : Nat) : Int))); show (cst b (evC b cd i (k - i).toNat) (cd (i + (((k - i).toNat : Nat) : Int)))).length ≤ 25; omega)
            · skip
              refine v_iload (pc := 72) 6 rfl dX3_holds_72 ?_
              refine v_iconst (pc := 74) dX3_holds_74 ?_
              refine v_ixor (pc := 75) (c := (z - z % 2 + (if z % 2 = 1 then 0 else 1))) (b_xor hzp.1) dX3_holds_75 ?_
              refine v_istore (pc := 76) (L2 := [(4, ai (z - z % 2 + (if z % 2 = 1 then 0 else 1))), (7, ai (z % 2)), (6, ai (cd k)), (0, ar h), (1, ai i), (2, ai j), (3, ar fa), (5, ai k)]) rfl (by decide) dX3_holds_76 ?_
              refine v_goto (pc := 78) 122 dX3_holds_78 (by decide) ?_
              refine v_iinc (pc := 122) 7 (L2 := [(5, ai (k + 1)), (4, ai (z - z % 2 + (if z % 2 = 1 then 0 else 1))), (7, ai (z % 2)), (6, ai (cd k)), (0, ar h), (1, ai i), (2, ai j), (3, ar fa)]) rfl rfl (by decide) dX3_holds_122 ?_
              refine v_goto (pc := 125) 6 dX3_holds_125 (by decide) ?_
              refine v_sub (L2 := [(0, ar h), (1, ai i), (2, ai j), (3, ar fa), (4, ai (z - z % 2 + (if z % 2 = 1 then 0 else 1))), (5, ai (k + 1))]) [4, 5, 6, 7, 1, 0] rfl ?_
              exact ih _ (by omega) (z - z % 2 + (if z % 2 = 1 then 0 else 1)) (k + 1) rfl (by omega) (by rw [show (k + 1 - i).toNat = (k - i).toNat + 1 by omega]; show _ = bz (cst b (evC b cd i (k - i).toNat) (cd (i + (((k - i).toNat : Nat) : Int)))); rw [show i + (((k - i).toNat : Nat) : Int) = k by omega]; first | (rw [bz_tst (by omega), ← hz]; (repeat' split) <;> first | omega | contradiction) | (rw [bz_not (by omega) (by omega), ← hz]; done) | (rw [bz_and (by omega) (by omega), ← hz]; (repeat' split) <;> omega) | (rw [bz_or (by omega) (by omega), ← hz]; done)) (by rw [show (k + 1 - i).toNat = (k - i).toNat + 1 by omega]; have q := cst_len (b := b) (e := (evC b cd i (k - i).toNat)) (c := cd (i + (((k - i).toNat : Nat) : Int))); show (cst b (evC b cd i (k - i).toNat) (cd (i + (((k - i).toNat : Nat) : Int)))).length ≤ 25; omega)
          · skip
            refine v_iload (pc := 42) 6 rfl dX3_holds_42 ?_
            refine v_iconst (pc := 44) dX3_holds_44 ?_
            refine v_ishl (pc := 45) (c := (2 * z)) (b_shl hzp.1) dX3_holds_45 ?_
            refine v_iload (pc := 46) 1 rfl dX3_holds_46 ?_
            refine v_aload_n (pc := 48) 5 rfl dX3_holds_48 ?_
            refine v_callS (pc := 49) [] [] [] (As := [ai (cd k), ar fa]) (rest := [ai (2 * z)]) (c_X3_isMet (cd k) fa b (by first | omega | assumption) (by assumption)) wl_X3_48 ws_X3_isMet wk_X3_isMet wz_X3 md_X3_isMet rfl (Nat.le_of_ble_eq_true rfl) ⟨Nat.le_of_ble_eq_true rfl, Nat.le_of_ble_eq_true rfl, Nat.le_of_ble_eq_true rfl, Nat.le_of_ble_eq_true rfl⟩ rfl rfl rfl rfl (by decide) (ro_cons (Or.inl r2) ro_nil) dX3_holds_49 (fun u hu => ?_)
            show V x cX3_holds RX3 8 (rmU 1 25 0 0) [] 52 [(7, ai (z % 2)), (6, ai (cd k)), (0, ar h), (1, ai i), (2, ai j), (3, ar fa), (4, ai z), (5, ai k)] [ai (if tstC b (cd k) = true then 1 else 0), ai (2 * z)] 0 0
            refine v_ifb_eq (pc := 52) 59 dX3_holds_52 (by decide) (fun c_8 => ?_) (fun c_8 => ?_)
            · skip
              refine v_iconst (pc := 59) dX3_holds_59 ?_
              refine v_ior (pc := 60) (c := (2 * z - 2 * z % 2 + (if 2 * z % 2 = 1 ∨ 0 = 1 then 1 else 0))) (b_or (z := 2 * z) (by have := hzp; unfold ipos at this ⊢; omega) (by first | exact Or.inl rfl | exact Or.inr rfl)) dX3_holds_60 ?_
              refine v_istore (pc := 61) (L2 := [(4, ai (2 * z - 2 * z % 2 + (if 2 * z % 2 = 1 ∨ 0 = 1 then 1 else 0))), (7, ai (z % 2)), (6, ai (cd k)), (0, ar h), (1, ai i), (2, ai j), (3, ar fa), (5, ai k)]) rfl (by decide) dX3_holds_61 ?_
              refine v_goto (pc := 63) 122 dX3_holds_63 (by decide) ?_
              refine v_iinc (pc := 122) 7 (L2 := [(5, ai (k + 1)), (4, ai (2 * z - 2 * z % 2 + (if 2 * z % 2 = 1 ∨ 0 = 1 then 1 else 0))), (7, ai (z % 2)), (6, ai (cd k)), (0, ar h), (1, ai i), (2, ai j), (3, ar fa)]) rfl rfl (by decide) dX3_holds_122 ?_
              refine v_goto (pc := 125) 6 dX3_holds_125 (by decide) ?_
              refine v_sub (L2 := [(0, ar h), (1, ai i), (2, ai j), (3, ar fa), (4, ai (2 * z - 2 * z % 2 + (if 2 * z % 2 = 1 ∨ 0 = 1 then 1 else 0))), (5, ai (k + 1))]) [4, 5, 6, 7, 1, 0] rfl ?_
              exact ih _ (by omega) (2 * z - 2 * z % 2 + (if 2 * z % 2 = 1 ∨ 0 = 1 then 1 else 0)) (k + 1) rfl (by omega) (by rw [show (k + 1 - i).toNat = (k - i).toNat + 1 by omega]; show _ = bz (cst b (evC b cd i (k - i).toNat) (cd (i + (((k - i).toNat : Nat) : Int)))); rw [show i + (((k - i).toNat : Nat) : Int) = k by omega]; first | (rw [bz_tst (by omega), ← hz]; (repeat' split) <;> first | omega | contradiction) | (rw [bz_not (by omega) (by omega), ← hz]; done) | (rw [bz_and (by omega) (by omega), ← hz]; (repeat' split) <;> omega) | (rw [bz_or (by omega) (by omega), ← hz]; done)) (by rw [show (k + 1 - i).toNat = (k - i).toNat + 1 by omega]; have q := cst_len (b := b) (e := (evC b cd i (k - i).toNat)) (c := cd (i + (((k - i).toNat : Nat) : Int))); show (cst b (evC b cd i (k - i).toNat) (cd (i + (((k - i).toNat : Nat) : Int)))).length ≤ 25; omega)
            · skip
              refine v_iconst (pc := 55) dX3_holds_55 ?_
              refine v_goto (pc := 56) 60 dX3_holds_56 (by decide) ?_
              refine v_ior (pc := 60) (c := (2 * z - 2 * z % 2 + (if 2 * z % 2 = 1 ∨ 1 = 1 then 1 else 0))) (b_or (z := 2 * z) (by have := hzp; unfold ipos at this ⊢; omega) (by first | exact Or.inl rfl | exact Or.inr rfl)) dX3_holds_60 ?_
              refine v_istore (pc := 61) (L2 := [(4, ai (2 * z - 2 * z % 2 + (if 2 * z % 2 = 1 ∨ 1 = 1 then 1 else 0))), (7, ai (z % 2)), (6, ai (cd k)), (0, ar h), (1, ai i), (2, ai j), (3, ar fa), (5, ai k)]) rfl (by decide) dX3_holds_61 ?_
              refine v_goto (pc := 63) 122 dX3_holds_63 (by decide) ?_
              refine v_iinc (pc := 122) 7 (L2 := [(5, ai (k + 1)), (4, ai (2 * z - 2 * z % 2 + (if 2 * z % 2 = 1 ∨ 1 = 1 then 1 else 0))), (7, ai (z % 2)), (6, ai (cd k)), (0, ar h), (1, ai i), (2, ai j), (3, ar fa)]) rfl rfl (by decide) dX3_holds_122 ?_
              refine v_goto (pc := 125) 6 dX3_holds_125 (by decide) ?_
              refine v_sub (L2 := [(0, ar h), (1, ai i), (2, ai j), (3, ar fa), (4, ai (2 * z - 2 * z % 2 + (if 2 * z % 2 = 1 ∨ 1 = 1 then 1 else 0))), (5, ai (k + 1))]) [4, 5, 6, 7, 1, 0] rfl ?_
              exact ih _ (by omega) (2 * z - 2 * z % 2 + (if 2 * z % 2 = 1 ∨ 1 = 1 then 1 else 0)) (k + 1) rfl (by omega) (by rw [show (k + 1 - i).toNat = (k - i).toNat + 1 by omega]; show _ = bz (cst b (evC b cd i (k - i).toNat) (cd (i + (((k - i).toNat : Nat) : Int)))); rw [show i + (((k - i).toNat : Nat) : Int) = k by omega]; first | (rw [bz_tst (by omega), ← hz]; (repeat' split) <;> first | omega | contradiction) | (rw [bz_not (by omega) (by omega), ← hz]; done) | (rw [bz_and (by omega) (by omega), ← hz]; (repeat' split) <;> omega) | (rw [bz_or (by omega) (by omega), ← hz]; done)) (by rw [show (k + 1 - i).toNat = (k - i).toNat + 1 by omega]; have q := cst_len (b := b) (e := (evC b cd i (k - i).toNat)) (c := cd (i + (((k - i).toNat : Nat) : Int))); show (cst b (evC b cd i (k - i).toNat) (cd (i + (((k - i).toNat : Nat) : Int)))).length ≤ 25; omega)
  refine v_sub (L2 := [(0, ar h), (1, ai i), (2, ai j), (3, ar fa), (4, ai 0), (5, ai i)]) [2, 3, 4, 5, 1, 0] rfl ?_
  exact lp6 _ 0 i rfl (by omega) (by rw [show (i - i).toNat = 0 by omega]; rfl) (by rw [show (i - i).toNat = 0 by omega]; exact Nat.zero_le _)
set_option maxHeartbeats 4000000 in
set_option maxRecDepth 100000 in
theorem c_X3_opensOf {gS : sG} (h : Nat) (wi : Int) (pa : Int) (ns : Int) (us : Int) (sla : Nat) (ena : Nat) (cda : Nat) (n : Int) (fa : Nat) (cd : Int → Int) (sl : Int → Int) (en : Int → Int) (b : Int → Int) (hns : 0 ≤ ns ∧ ns ≤ 10) (hn : 0 ≤ n ∧ n ≤ 99) (hsl : ∀ k : Int, 0 ≤ k → k < ns → -200 ≤ sl k ∧ sl k ≤ 200) (hen : ∀ m : Nat, (m : Int) < ns → (0 ≤ frE en m ∧ frE en m ≤ en (m : Int) ∧ en (m : Int) ≤ 100) ∧ ∀ q : Nat, (q : Int) < en (m : Int) - frE en m → okC (evC b cd (frE en m) q) (cd (frE en m + (q : Int)))) (hbf : ∀ k : Int, 0 ≤ k → k < 6 → 0 ≤ b k ∧ b k ≤ 1000) : Ct gS (S := Unit) yX3_opensOf cX3_opensOf 6 (some .int) 2 52 0 0 [ar h, ai n, ar fa] [] (fun q => q ∈ ([(h, co 3 [ai wi, ai pa, ai ns, ai us, ar sla, ar ena, ar cda]), (cda, cn 0 100 cd), (sla, cn 0 10 sl), (ena, cn 0 10 en), (fa, cn 0 6 b)] : aW)) (fun _ => True) (fun _ => some (ai (if 0 < opS b cd sl en n ns.toNat then opS b cd sl en n ns.toNat else 0))) (fun _ => []) := by
  refine ct_I RX3 [(0, ar h), (1, ai n), (2, ar fa)] (by decide) rfl (Nat.le_of_ble_eq_true rfl) rfl (fun x hgS hro hret => ?_)
  subst hgS
  have r0 := hro _ (mem_at 0 rfl)
  have r1 := hro _ (mem_at 1 rfl)
  have r2 := hro _ (mem_at 2 rfl)
  have r3 := hro _ (mem_at 3 rfl)
  have r4 := hro _ (mem_at 4 rfl)
  show V x cX3_opensOf RX3 6 (rmU 2 52 0 0) [] 0 [(0, ar h), (1, ai n), (2, ar fa)] [] 0 0
  refine v_iload_n (pc := 0) 1 rfl dX3_opensOf_0 ?_
  refine v_istore_n (pc := 1) (L2 := [(3, ai n), (0, ar h), (1, ai n), (2, ar fa)]) rfl (by decide) dX3_opensOf_1 ?_
  refine v_iconst (pc := 2) dX3_opensOf_2 ?_
  refine v_istore (pc := 3) (L2 := [(4, ai 0), (3, ai n), (0, ar h), (1, ai n), (2, ar fa)]) rfl (by decide) dX3_opensOf_3 ?_
  refine v_iconst (pc := 5) dX3_opensOf_5 ?_
  refine v_istore (pc := 6) (L2 := [(5, ai 0), (4, ai 0), (3, ai n), (0, ar h), (1, ai n), (2, ar fa)]) rfl (by decide) dX3_opensOf_6 ?_
  have lp8 : ∀ (mm : Nat) (o : Int) (fr : Int) (k : Int), (ns - k).toNat = mm → (0 ≤ k ∧ k ≤ ns) → (o = (opS b cd sl en n k.toNat)) → (fr = frE en k.toNat) → V x cX3_opensOf RX3 6 (rmU 2 52 0 0) [] 8 [(0, ar h), (1, ai n), (2, ar fa), (3, ai o), (4, ai fr), (5, ai k)] [] 0 0 := by
    intro mm
    induction mm using Nat.strongRecOn with
    | _ mm ih =>
      intro o fr k hmm hk ho hfr
      refine v_iload (pc := 8) 5 rfl dX3_opensOf_8 ?_
      refine v_aload_n (pc := 10) 0 rfl dX3_opensOf_10 ?_
      refine v_get (pc := 11) (v := ai ns) 2 (Or.inl r0) fl_3_35_3 rfl dX3_opensOf_11 ?_
      refine v_icmp_ge (pc := 14) 59 dX3_opensOf_14 (by decide) (by unfold iB; omega) (by unfold iB; omega) (fun c_1 => ?_) (fun c_1 => ?_)
      · skip
        have hob := opS_b (b := b) (cd := cd) (sl := sl) (en := en) (n := n) ns.toNat (fun k a c => hsl k a (by omega))
        have hkn : k = ns := by omega
        rw [hkn] at ho
        refine v_iconst (pc := 59) dX3_opensOf_59 ?_
        refine v_iload_n (pc := 60) 3 rfl dX3_opensOf_60 ?_
        refine v_callS (pc := 61) [] [] [] (As := [ai 0, ai o]) (rest := []) (c_J9_max_7cf53 0 o (by first | omega | assumption) (by first | omega | assumption)) wl_X3_42 ws_J9_max_7cf53 wk_J9_max_7cf53 wz_J9 md_J9_max_7cf53 rfl (Nat.le_of_ble_eq_true rfl) ⟨Nat.le_of_ble_eq_true rfl, Nat.le_of_ble_eq_true rfl, Nat.le_of_ble_eq_true rfl, Nat.le_of_ble_eq_true rfl⟩ rfl rfl rfl rfl (by decide) ro_nil dX3_opensOf_61 (fun u hu => ?_)
        show V x cX3_opensOf RX3 6 (rmU 2 52 0 0) [] 64 [(0, ar h), (1, ai n), (2, ar fa), (3, ai o), (4, ai fr), (5, ai k)] [ai (if 0 < o then o else 0)] 0 0
        exact hret () _ _ _ _ _ _ trivial (congrArg (fun z => some (ai z)) (by rw [ho])) rfl (Nat.le_of_ble_eq_true rfl) (Nat.le_of_ble_eq_true rfl) dX3_opensOf_64
      · skip
        have hek := hen k.toNat (by omega)
        rw [show ((k.toNat : Nat) : Int) = k by omega] at hek
        have hslk := hsl k (by omega) (by omega)
        refine v_aload_n (pc := 17) 0 rfl dX3_opensOf_17 ?_
        refine v_iload (pc := 18) 4 rfl dX3_opensOf_18 ?_
        refine v_aload_n (pc := 20) 0 rfl dX3_opensOf_20 ?_
        refine v_get (pc := 21) (v := ar ena) 5 (Or.inl r0) fl_3_22_3 rfl dX3_opensOf_21 ?_
        refine v_iload (pc := 24) 5 rfl dX3_opensOf_24 ?_
        refine v_iald (pc := 26) (Or.inl r3) (by omega) (by omega) (by decide) dX3_opensOf_26 ?_
        refine v_aload_n (pc := 27) 2 rfl dX3_opensOf_27 ?_
        refine v_callV (pc := 28) [] [] [] (As := [ai fr, ai (en k), ar fa]) (rest := []) (c_X3_holds h wi pa ns us sla ena cda fr (en k) fa cd b (by omega) (by intro q hq; rw [hfr]; exact hek.2 q (by omega)) (by assumption)) (c := 3) rfl (Or.inl r0) wl_X3_38 wi_X3_holds wv_X3_X3_holds_X3_holds wk_X3_holds wz_X3 md_X3_holds rfl (Nat.le_of_ble_eq_true rfl) ⟨Nat.le_of_ble_eq_true rfl, Nat.le_of_ble_eq_true rfl, Nat.le_of_ble_eq_true rfl, Nat.le_of_ble_eq_true rfl⟩ rfl rfl rfl rfl (by decide) (ro_cons (Or.inl r0) (ro_cons (Or.inl r1) (ro_cons (Or.inl r4) ro_nil))) dX3_opensOf_28 (fun u hu => ?_)
        show V x cX3_opensOf RX3 6 (rmU 2 52 0 0) [] 31 [(0, ar h), (1, ai n), (2, ar fa), (3, ai o), (4, ai fr), (5, ai k)] [ai (if hdB (evC b cd fr ((en k) - fr).toNat) = true then 1 else 0)] 0 0
        refine v_ifb_eq (pc := 31) 44 dX3_opensOf_31 (by decide) (fun c_2 => ?_) (fun c_2 => ?_)
        · skip
          refine v_aload_n (pc := 44) 0 rfl dX3_opensOf_44 ?_
          refine v_get (pc := 45) (v := ar ena) 5 (Or.inl r0) fl_3_22_3 rfl dX3_opensOf_45 ?_
          refine v_iload (pc := 48) 5 rfl dX3_opensOf_48 ?_
          refine v_iald (pc := 50) (Or.inl r3) (by omega) (by omega) (by decide) dX3_opensOf_50 ?_
          refine v_istore (pc := 51) (L2 := [(4, ai (en k)), (0, ar h), (1, ai n), (2, ar fa), (3, ai o), (5, ai k)]) rfl (by decide) dX3_opensOf_51 ?_
          refine v_iinc (pc := 53) 5 (L2 := [(5, ai (k + 1)), (4, ai (en k)), (0, ar h), (1, ai n), (2, ar fa), (3, ai o)]) rfl rfl (by decide) dX3_opensOf_53 ?_
          refine v_goto (pc := 56) 8 dX3_opensOf_56 (by decide) ?_
          refine v_sub (L2 := [(0, ar h), (1, ai n), (2, ar fa), (3, ai o), (4, ai (en k)), (5, ai (k + 1))]) [2, 3, 4, 5, 1, 0] rfl ?_
          exact ih _ (by omega) o (en k) (k + 1) rfl (by omega) (by rw [ho, show (k + 1).toNat = k.toNat + 1 by omega, opS, show ((k.toNat : Nat) : Int) = k by omega, ← hfr]; first | (rw [if_pos (by assumption)]; done) | (rw [if_neg (by assumption)]; omega)) (by unfold frE; rw [if_neg (by omega), show (((k + 1).toNat : Nat) : Int) - 1 = k by omega])
        · skip
          refine v_iload_n (pc := 34) 3 rfl dX3_opensOf_34 ?_
          refine v_aload_n (pc := 35) 0 rfl dX3_opensOf_35 ?_
          refine v_get (pc := 36) (v := ar sla) 4 (Or.inl r0) fl_3_18_3 rfl dX3_opensOf_36 ?_
          refine v_iload (pc := 39) 5 rfl dX3_opensOf_39 ?_
          refine v_iald (pc := 41) (Or.inl r2) (by omega) (by omega) (by decide) dX3_opensOf_41 ?_
          refine v_iadd (pc := 42) dX3_opensOf_42 ?_
          refine v_istore_n (pc := 43) (L2 := [(3, ai (o + (sl k))), (0, ar h), (1, ai n), (2, ar fa), (4, ai fr), (5, ai k)]) rfl (by decide) dX3_opensOf_43 ?_
          refine v_aload_n (pc := 44) 1 rfl dX3_opensOf_44 ?_
          refine v_get (pc := 45) (v := ar ena) 5 (Or.inl r0) fl_3_22_3 rfl dX3_opensOf_45 ?_
          refine v_iload (pc := 48) 5 rfl dX3_opensOf_48 ?_
          refine v_iald (pc := 50) (Or.inl r3) (by omega) (by omega) (by decide) dX3_opensOf_50 ?_
          refine v_istore (pc := 51) (L2 := [(4, ai (en k)), (3, ai (o + (sl k))), (0, ar h), (1, ai n), (2, ar fa), (5, ai k)]) rfl (by decide) dX3_opensOf_51 ?_
          refine v_iinc (pc := 53) 5 (L2 := [(5, ai (k + 1)), (4, ai (en k)), (3, ai (o + (sl k))), (0, ar h), (1, ai n), (2, ar fa)]) rfl rfl (by decide) dX3_opensOf_53 ?_
          refine v_goto (pc := 56) 8 dX3_opensOf_56 (by decide) ?_
          refine v_sub (L2 := [(0, ar h), (1, ai n), (2, ar fa), (3, ai (o + (sl k))), (4, ai (en k)), (5, ai (k + 1))]) [3, 4, 5, 2, 1, 0] rfl ?_
          exact ih _ (by omega) (o + (sl k)) (en k) (k + 1) rfl (by omega) (by rw [ho, show (k + 1).toNat = k.toNat + 1 by omega, opS, show ((k.toNat : Nat) : Int) = k by omega, ← hfr]; first | (rw [if_pos (by assumption)]; done) | (rw [if_neg (by assumption)]; omega)) (by unfold frE; rw [if_neg (by omega), show (((k + 1).toNat : Nat) : Int) - 1 = k by omega])
  refine v_sub (L2 := [(0, ar h), (1, ai n), (2, ar fa), (3, ai n), (4, ai 0), (5, ai 0)]) [3, 4, 5, 2, 1, 0] rfl ?_
  exact lp8 _ n 0 0 rfl (by omega) (by rfl) (by rfl)
set_option maxHeartbeats 4000000 in
set_option maxRecDepth 100000 in
theorem c_X3_addCode {gS : sG} (h : Nat) (wi : Int) (pa : Int) (ns : Int) (us : Int) (sla : Nat) (ena : Nat) (cda : Nat) (c : Int) (cd : Int → Int) (hus : 0 ≤ us ∧ us ≤ 100) : Ct gS (S := Unit) yX3_addCode cX3_addCode 2 none 0 0 0 0 [ar h, ai c] [(h, co 3 [ai wi, ai pa, ai ns, ai us, ar sla, ar ena, ar cda]), (cda, cn 0 100 cd)] (fun q => q ∈ ([] : aW)) (fun _ => True) (fun _ => none) (fun _ => [(h, co 3 [ai wi, ai pa, ai ns, ai (if us < 100 then us + 1 else us), ar sla, ar ena, ar cda]), (cda, cn 0 100 (if us < 100 then aup cd us c else cd))]) := by
  refine ct_V RX3 [(0, ar h), (1, ai c)] (by decide) rfl (Nat.le_of_ble_eq_true rfl) rfl (fun x hgS hnm hro hret => ?_)
  subst hgS
  show V x cX3_addCode RX3 2 (rmU 0 0 0 0) [(h, co 3 [ai wi, ai pa, ai ns, ai us, ar sla, ar ena, ar cda]), (cda, cn 0 100 cd)] 0 [(0, ar h), (1, ai c)] [] 0 0
  refine v_aload_n (pc := 0) 0 rfl dX3_addCode_0 ?_
  refine v_get (pc := 1) (v := ai us) 3 (Or.inr ⟨0, rfl⟩) fl_3_28_3 rfl dX3_addCode_1 ?_
  refine v_aload_n (pc := 4) 0 rfl dX3_addCode_4 ?_
  refine v_get (pc := 5) (v := ar cda) 6 (Or.inr ⟨0, rfl⟩) fl_3_25_3 rfl dX3_addCode_5 ?_
  refine v_alen (pc := 8) (by decide) (Or.inr ⟨1, rfl⟩) dX3_addCode_8 ?_
  refine v_icmp_lt (pc := 9) 13 dX3_addCode_9 (by decide) (by unfold iB; omega) (by unfold iB; omega) (fun c_1 => ?_) (fun c_1 => ?_)
  · skip
    refine v_aload_n (pc := 13) 0 rfl dX3_addCode_13 ?_
    refine v_get (pc := 14) (v := ar cda) 6 (Or.inr ⟨0, rfl⟩) fl_3_25_3 rfl dX3_addCode_14 ?_
    refine v_aload_n (pc := 17) 0 rfl dX3_addCode_17 ?_
    refine v_get (pc := 18) (v := ai us) 3 (Or.inr ⟨0, rfl⟩) fl_3_28_3 rfl dX3_addCode_18 ?_
    refine v_iload_n (pc := 21) 1 rfl dX3_addCode_21 ?_
    refine v_iast (pc := 22) 1 rfl (by omega) (by omega) (by decide) (ws2 := [(h, co 3 [ai wi, ai pa, ai ns, ai us, ar sla, ar ena, ar cda]), (cda, cn 0 100 (aup cd us c))]) rfl dX3_addCode_22 ?_
    refine v_aload_n (pc := 23) 0 rfl dX3_addCode_23 ?_
    refine v_dup (pc := 24) rfl dX3_addCode_24 ?_
    refine v_get (pc := 25) (v := ai us) 3 (Or.inr ⟨0, rfl⟩) fl_3_28_3 rfl dX3_addCode_25 ?_
    refine v_iconst (pc := 28) dX3_addCode_28 ?_
    refine v_iadd (pc := 29) dX3_addCode_29 ?_
    refine v_put (pc := 30) 3 0 rfl fl_3_28_3 ck_3 ft_3_3 (okV_i _) (Nat.le_of_ble_eq_true rfl) (ws2 := [(h, co 3 [ai wi, ai pa, ai ns, ai (us + 1), ar sla, ar ena, ar cda]), (cda, cn 0 100 (aup cd us c))]) rfl dX3_addCode_30 ?_
    refine v_ws (ws2 := [(h, co 3 [ai wi, ai pa, ai ns, ai (if us < 100 then us + 1 else us), ar sla, ar ena, ar cda]), (cda, cn 0 100 (if us < 100 then aup cd us c else cd))]) (by rw [if_pos (by omega), if_pos (by omega)]) ?_
    exact hret () _ _ _ _ _ trivial rfl rfl (Nat.le_of_ble_eq_true rfl) (Nat.le_of_ble_eq_true rfl) dX3_addCode_33
  · skip
    refine v_ws (ws2 := [(h, co 3 [ai wi, ai pa, ai ns, ai (if us < 100 then us + 1 else us), ar sla, ar ena, ar cda]), (cda, cn 0 100 (if us < 100 then aup cd us c else cd))]) (by rw [if_neg (by omega), if_neg (by omega)]) ?_
    exact hret () _ _ _ _ _ trivial rfl rfl (Nat.le_of_ble_eq_true rfl) (Nat.le_of_ble_eq_true rfl) dX3_addCode_12
