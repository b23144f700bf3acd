/-! ===== Math ===== -/
section MROWS
variable {x : Cx} {cc : ByteArray} {own : String} {nL : Nat} {rm : Room} {ws : aW} {pc : Nat} {L : List (Nat × aV)} {st : List aV} {k n : Nat}
theorem v_idivT {a b : Int} (h1 : 0 < b) (ha : iB a) (hb : iB b) (hd : decode cc pc = .ok (.idiv, 1)) (kk : V x cc own nL rm ws (pc + 1) L (ai (a.tdiv b) :: st) k n) : V x cc own nL rm ws pc L (ai b :: ai a :: st) k n := fun ok H locs ls hh => by
  have e := kk ok H locs ls hh
  rw [List.map_cons, show cV (ai (a.tdiv b)) = .int (Int32.ofInt (a.tdiv b)) from rfl, Int32.ofInt_tdiv ha.1 (Int.le_sub_one_of_lt ha.2) hb.1 (Int.le_sub_one_of_lt hb.2)] at e
  exact lv_idiv ok.1 ok.2.1 hd (Int32_ne0 h1 hb) e
end MROWS
theorem kXor_neg {a b : Int} (ha : iB a) (h0 : 0 < b) (hb : iB b) : kXor a b < 0 ↔ a < 0 := by
  have h := BitVec.msb_xor (x := (Int32.ofInt a).toBitVec) (y := (Int32.ofInt b).toBitVec)
  rw [BitVec.msb_eq_toInt, BitVec.msb_eq_toInt, BitVec.msb_eq_toInt] at h
  have ea : (Int32.ofInt a).toBitVec.toInt = a := tI ha
  have eb : (Int32.ofInt b).toBitVec.toInt = b := tI hb
  rw [ea, eb] at h
  have ek : ((Int32.ofInt a).toBitVec ^^^ (Int32.ofInt b).toBitVec).toInt = kXor a b := rfl
  rw [ek] at h
  have hb0 : decide (b < 0) = false := decide_eq_false (by omega)
  rw [hb0, Bool.xor_false] at h
  constructor
  · intro z; rw [decide_eq_true z] at h; exact of_decide_eq_true h.symm
  · intro z; rw [decide_eq_true z] at h; exact of_decide_eq_true h
theorem fd_pos {a b : Int} (h : 0 ≤ a) : a.tdiv b = a / b := Int.tdiv_eq_ediv_of_nonneg h
theorem fd_neg {a b : Int} (hb : 0 < b) (h : a < 0) : (a.tdiv b * b = a → a.tdiv b = a / b) ∧ (¬ a.tdiv b * b = a → a.tdiv b - 1 = a / b) := by
  have e := Int.tdiv_eq_ediv (a := a) (b := b)
  by_cases hd : b ∣ a
  · rw [if_pos (Or.inr hd)] at e
    have e2 : a.tdiv b = a / b := by omega
    refine ⟨fun _ => e2, fun z => absurd ?_ z⟩
    rw [e2]
    exact Int.ediv_mul_cancel hd
  · rw [if_neg (by rintro (z | z); exact absurd z (by omega); exact hd z), Int.sign_eq_one_of_pos hb] at e
    refine ⟨fun z => absurd ⟨a.tdiv b, ?_⟩ hd, fun _ => by omega⟩
    rw [Int.mul_comm]
    exact z.symm
theorem kXor_iB (a b : Int) : iB (kXor a b) := ⟨Int32.le_toInt _, Int32.toInt_lt _⟩
theorem td_b {a b : Int} (hb : 0 < b) (h : (-1000000 ≤ a ∧ a ≤ 1000000) ∧ b ≤ 1000000) : iB (a.tdiv b * b) := by
  have h1 := Int.ediv_mul_le a (b := b) (by omega)
  have h2 := Int.lt_ediv_add_one_mul_self a hb
  rw [Int.add_mul, Int.one_mul] at h2
  have h3 : a.tdiv b * b = a / b * b ∨ a.tdiv b * b = a / b * b + b := by
    rcases Int.lt_or_le a 0 with q | q
    · by_cases z : a.tdiv b * b = a
      · exact Or.inl (by rw [(fd_neg hb q).1 z])
      · refine Or.inr ?_
        have e := (fd_neg hb q).2 z
        rw [show a.tdiv b = a / b + 1 by omega, Int.add_mul, Int.one_mul]
    · exact Or.inl (by rw [fd_pos q])
  unfold iB
  omega

set_option maxHeartbeats 4000000 in
set_option maxRecDepth 100000 in
theorem c_J9_max_7cf53 {gS : sG} (a : Int) (b : Int) (hb_a : -2147483648 ≤ a ∧ a < 2147483648) (hb_b : -2147483648 ≤ b ∧ b < 2147483648) : Ct gS (S := Unit) yJ9_max_7cf53 cJ9_max_7cf53 2 (some .int) 0 0 0 0 [ai a, ai b] [] (fun q => q ∈ ([] : aW)) (fun _ => True) (fun _ => some (ai (if a < b then b else a))) (fun _ => []) := by
  refine ct_I RJ9 [(0, ai a), (1, ai b)] (by decide+kernel) rfl (Nat.le_of_ble_eq_true rfl) rfl (fun x hgS hro hret => ?_)
  subst hgS
  show V x cJ9_max_7cf53 RJ9 2 (rmU 0 0 0 0) [] 0 [(0, ai a), (1, ai b)] [] 0 0
  refine v_iload_n (pc := 0) 0 rfl dJ9_max_7cf53_0 ?_
  refine v_iload_n (pc := 1) 1 rfl dJ9_max_7cf53_1 ?_
  refine v_icmp_lt (pc := 2) 9 dJ9_max_7cf53_2 (by decide) (by unfold iB; omega) (by unfold iB; omega) (fun c_1 => ?_) (fun c_1 => ?_)
  · skip
    refine v_iload_n (pc := 9) 1 rfl dJ9_max_7cf53_9 ?_
    exact hret () _ _ _ _ _ _ trivial (congrArg (fun z => some (ai z)) (by split <;> omega)) rfl (Nat.le_of_ble_eq_true rfl) (Nat.le_of_ble_eq_true rfl) dJ9_max_7cf53_10
  · skip
    refine v_iload_n (pc := 5) 0 rfl dJ9_max_7cf53_5 ?_
    refine v_goto (pc := 6) 10 dJ9_max_7cf53_6 (by decide) ?_
    exact hret () _ _ _ _ _ _ trivial (congrArg (fun z => some (ai z)) (by split <;> omega)) rfl (Nat.le_of_ble_eq_true rfl) (Nat.le_of_ble_eq_true rfl) dJ9_max_7cf53_10
set_option maxHeartbeats 4000000 in
set_option maxRecDepth 100000 in
theorem c_J9_min_7cf53 {gS : sG} (a : Int) (b : Int) (hb_a : -2147483648 ≤ a ∧ a < 2147483648) (hb_b : -2147483648 ≤ b ∧ b < 2147483648) : Ct gS (S := Unit) yJ9_min_7cf53 cJ9_min_7cf53 2 (some .int) 0 0 0 0 [ai a, ai b] [] (fun q => q ∈ ([] : aW)) (fun _ => True) (fun _ => some (ai (if b < a then b else a))) (fun _ => []) := by
  refine ct_I RJ9 [(0, ai a), (1, ai b)] (by decide+kernel) rfl (Nat.le_of_ble_eq_true rfl) rfl (fun x hgS hro hret => ?_)
  subst hgS
  show V x cJ9_min_7cf53 RJ9 2 (rmU 0 0 0 0) [] 0 [(0, ai a), (1, ai b)] [] 0 0
  refine v_iload_n (pc := 0) 0 rfl dJ9_min_7cf53_0 ?_
  refine v_iload_n (pc := 1) 1 rfl dJ9_min_7cf53_1 ?_
  refine v_icmp_gt (pc := 2) 9 dJ9_min_7cf53_2 (by decide) (by unfold iB; omega) (by unfold iB; omega) (fun c_1 => ?_) (fun c_1 => ?_)
  · skip
    refine v_iload_n (pc := 9) 1 rfl dJ9_min_7cf53_9 ?_
    exact hret () _ _ _ _ _ _ trivial (congrArg (fun z => some (ai z)) (by split <;> omega)) rfl (Nat.le_of_ble_eq_true rfl) (Nat.le_of_ble_eq_true rfl) dJ9_min_7cf53_10
  · skip
    refine v_iload_n (pc := 5) 0 rfl dJ9_min_7cf53_5 ?_
    refine v_goto (pc := 6) 10 dJ9_min_7cf53_6 (by decide) ?_
    exact hret () _ _ _ _ _ _ trivial (congrArg (fun z => some (ai z)) (by split <;> omega)) rfl (Nat.le_of_ble_eq_true rfl) (Nat.le_of_ble_eq_true rfl) dJ9_min_7cf53_10
set_option maxHeartbeats 4000000 in
set_option maxRecDepth 100000 in
theorem c_J9_abs_0f7a4 {gS : sG} (a : Int) (hb_a : -2147483648 ≤ a ∧ a < 2147483648) : Ct gS (S := Unit) yJ9_abs_0f7a4 cJ9_abs_0f7a4 1 (some .int) 0 0 0 0 [ai a] [] (fun q => q ∈ ([] : aW)) (fun _ => True) (fun _ => some (ai (kAbs a))) (fun _ => []) := by
  refine ct_I RJ9 [(0, ai a)] (by decide+kernel) rfl (Nat.le_of_ble_eq_true rfl) rfl (fun x hgS hro hret => ?_)
  subst hgS
  show V x cJ9_abs_0f7a4 RJ9 1 (rmU 0 0 0 0) [] 0 [(0, ai a)] [] 0 0
  refine v_iload_n (pc := 0) 0 rfl dJ9_abs_0f7a4_0 ?_
  refine v_if_ge (pc := 1) 9 dJ9_abs_0f7a4_1 (by decide) (by unfold iB; omega) (fun c_1 => ?_) (fun c_1 => ?_)
  · skip
    refine v_iload_n (pc := 9) 0 rfl dJ9_abs_0f7a4_9 ?_
    exact hret () _ _ _ _ _ _ trivial (congrArg (fun z => some (ai z)) (by unfold kAbs; split <;> omega)) rfl (Nat.le_of_ble_eq_true rfl) (Nat.le_of_ble_eq_true rfl) dJ9_abs_0f7a4_10
  · skip
    refine v_iload_n (pc := 4) 0 rfl dJ9_abs_0f7a4_4 ?_
    refine v_ineg (pc := 5) dJ9_abs_0f7a4_5 ?_
    refine v_goto (pc := 6) 10 dJ9_abs_0f7a4_6 (by decide) ?_
    exact hret () _ _ _ _ _ _ trivial (congrArg (fun z => some (ai z)) (by unfold kAbs; split <;> omega)) rfl (Nat.le_of_ble_eq_true rfl) (Nat.le_of_ble_eq_true rfl) dJ9_abs_0f7a4_10
set_option maxHeartbeats 4000000 in
set_option maxRecDepth 100000 in
theorem c_J9_max_f86c9 {gS : sG} (a : Int) (b : Int) (hb_a : -9223372036854775808 ≤ a ∧ a < 9223372036854775808) (hb_b : -9223372036854775808 ≤ b ∧ b < 9223372036854775808) : Ct gS (S := Unit) yJ9_max_f86c9 cJ9_max_f86c9 4 (some .long) 0 0 0 0 [al a, al b] [] (fun q => q ∈ ([] : aW)) (fun _ => True) (fun _ => some (al (if a < b then b else a))) (fun _ => []) := by
  refine ct_L RJ9 [(0, al a), (2, al b)] (by decide+kernel) rfl (Nat.le_of_ble_eq_true rfl) rfl (fun x hgS hro hret => ?_)
  subst hgS
  show V x cJ9_max_f86c9 RJ9 4 (rmU 0 0 0 0) [] 0 [(0, al a), (2, al b)] [] 0 0
  refine v_lload_n (pc := 0) 0 rfl dJ9_max_f86c9_0 ?_
  refine v_lload_n (pc := 1) 1 rfl dJ9_max_f86c9_1 ?_
  refine v_lcmp (pc := 2) (by unfold lB; omega) (by unfold lB; omega) dJ9_max_f86c9_2 ?_
  refine v_if_lt (pc := 3) 10 dJ9_max_f86c9_3 (by decide) (acmp_iB _ _) (fun c_1 => ?_) (fun c_1 => ?_)
  · skip
    have c_1 := acmp_lt.mp c_1
    refine v_lload_n (pc := 10) 1 rfl dJ9_max_f86c9_10 ?_
    exact hret () _ _ _ _ _ _ trivial (congrArg (fun z => some (al z)) (by split <;> omega)) rfl (Nat.le_of_ble_eq_true rfl) (Nat.le_of_ble_eq_true rfl) dJ9_max_f86c9_11
  · skip
    have c_1 := acmp_ge.mp c_1
    refine v_lload_n (pc := 6) 0 rfl dJ9_max_f86c9_6 ?_
    refine v_goto (pc := 7) 11 dJ9_max_f86c9_7 (by decide) ?_
    exact hret () _ _ _ _ _ _ trivial (congrArg (fun z => some (al z)) (by split <;> omega)) rfl (Nat.le_of_ble_eq_true rfl) (Nat.le_of_ble_eq_true rfl) dJ9_max_f86c9_11
set_option maxHeartbeats 4000000 in
set_option maxRecDepth 100000 in
theorem c_J9_floorDiv_7cf53 {gS : sG} (a : Int) (b : Int) (hb_a : -1000000 ≤ a ∧ a ≤ 1000000) (hb0 : 0 < b) (hb_b : b ≤ 1000000) : Ct gS (S := Unit) yJ9_floorDiv_7cf53 cJ9_floorDiv_7cf53 3 (some .int) 0 0 0 0 [ai a, ai b] [] (fun q => q ∈ ([] : aW)) (fun _ => True) (fun _ => some (ai (a / b))) (fun _ => []) := by
  refine ct_I RJ9 [(0, ai a), (1, ai b)] (by decide+kernel) rfl (Nat.le_of_ble_eq_true rfl) rfl (fun x hgS hro hret => ?_)
  subst hgS
  have hkx := kXor_neg (a := a) (b := b) (by unfold iB; omega) hb0 (by unfold iB; omega)
  have hfp := fun z => fd_pos (a := a) (b := b) z
  have hfn := fun z => fd_neg (a := a) (b := b) hb0 z
  have hkb := kXor_iB a b
  have htb : iB (a.tdiv b * b) := td_b hb0 (by omega)
  show V x cJ9_floorDiv_7cf53 RJ9 3 (rmU 0 0 0 0) [] 0 [(0, ai a), (1, ai b)] [] 0 0
  refine v_iload_n (pc := 0) 0 rfl dJ9_floorDiv_7cf53_0 ?_
  refine v_iload_n (pc := 1) 1 rfl dJ9_floorDiv_7cf53_1 ?_
  refine v_idivT (pc := 2) hb0 (by unfold iB; omega) (by unfold iB; omega) dJ9_floorDiv_7cf53_2 ?_
  refine v_istore_n (pc := 3) (L2 := [(2, ai (a.tdiv b)), (0, ai a), (1, ai b)]) rfl (by decide) dJ9_floorDiv_7cf53_3 ?_
  refine v_iload_n (pc := 4) 1 rfl dJ9_floorDiv_7cf53_4 ?_
  refine v_iload_n (pc := 5) 2 rfl dJ9_floorDiv_7cf53_5 ?_
  refine v_ixor (pc := 6) (c := (kXor a b)) (kXor_I a b) dJ9_floorDiv_7cf53_6 ?_
  refine v_if_ge (pc := 7) 21 dJ9_floorDiv_7cf53_7 (by decide) hkb (fun c_1 => ?_) (fun c_1 => ?_)
  · skip
    refine v_iload_n (pc := 21) 0 rfl dJ9_floorDiv_7cf53_21 ?_
    exact hret () _ _ _ _ _ _ trivial (congrArg (fun z => some (ai z)) (by first | (rw [hfp (by omega)]; done) | exact ((hfn (by omega)).1 (by omega)).symm | exact ((hfn (by omega)).2 (by omega)).symm)) rfl (Nat.le_of_ble_eq_true rfl) (Nat.le_of_ble_eq_true rfl) dJ9_floorDiv_7cf53_22
  · skip
    refine v_iload_n (pc := 10) 0 rfl dJ9_floorDiv_7cf53_10 ?_
    refine v_iload_n (pc := 11) 2 rfl dJ9_floorDiv_7cf53_11 ?_
    refine v_imul (pc := 12) dJ9_floorDiv_7cf53_12 ?_
    refine v_iload_n (pc := 13) 1 rfl dJ9_floorDiv_7cf53_13 ?_
    refine v_icmp_eq (pc := 14) 21 dJ9_floorDiv_7cf53_14 (by decide) htb (by unfold iB; omega) (fun c_2 => ?_) (fun c_2 => ?_)
    · skip
      refine v_iload_n (pc := 21) 0 rfl dJ9_floorDiv_7cf53_21 ?_
      exact hret () _ _ _ _ _ _ trivial (congrArg (fun z => some (ai z)) (by first | (rw [hfp (by omega)]; done) | exact ((hfn (by omega)).1 (by omega)).symm | exact ((hfn (by omega)).2 (by omega)).symm)) rfl (Nat.le_of_ble_eq_true rfl) (Nat.le_of_ble_eq_true rfl) dJ9_floorDiv_7cf53_22
    · skip
      refine v_iload_n (pc := 17) 0 rfl dJ9_floorDiv_7cf53_17 ?_
      refine v_iconst (pc := 18) dJ9_floorDiv_7cf53_18 ?_
      refine v_isub (pc := 19) dJ9_floorDiv_7cf53_19 ?_
      exact hret () _ _ _ _ _ _ trivial (congrArg (fun z => some (ai z)) (by first | (rw [hfp (by omega)]; done) | exact ((hfn (by omega)).1 (by omega)).symm | exact ((hfn (by omega)).2 (by omega)).symm)) rfl (Nat.le_of_ble_eq_true rfl) (Nat.le_of_ble_eq_true rfl) dJ9_floorDiv_7cf53_20
