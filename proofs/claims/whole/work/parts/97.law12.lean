/-! ===== the law's entry: what is known at the start ===== -/
def strK : List (String × Nat) := [("MatFlip$Reader", 48), ("MatFlip$Reader", 54), ("MatFlip$Reader", 56), ("MatFlip$Reader", 58), ("MatFlip$Reader", 60), ("MatFlip$Reader", 76), ("MatFlip$Reader", 94), ("MatFlip$Reader", 96), ("MatFlip$Reader", 98), ("MatFlipModel", 105), ("MatFlipModel", 111), ("MatFlipModel", 113), ("MatFlipModel", 118)]
def tmK (i : Nat) : Term := Term.string (strK.getD i ("", 0)).1 (strK.getD i ("", 0)).2
def fl0 : List Cond := flatC (Jvm.Cond.and given_1 narrow_1)
theorem fl_ex : ∀ i : Fin 13, Cond.exactly (tmK i) "java/lang/String" ∈ fl0 := by decide +kernel
theorem fl_co : ∀ i : Fin 13, Cond.eq (.field (tmK i) "java/lang/String" "coder" "B") (.int 0) ∈ fl0 := by decide +kernel
theorem fl_ar : ∀ i : Fin 13, Cond.arrayOf (.field (tmK i) "java/lang/String" "value" "[B") .byte ∈ fl0 := by decide +kernel
theorem fl_le : ∀ i : Fin 13, Cond.eq (.length (.field (tmK i) "java/lang/String" "value" "[B")) (.int (Int32.ofNat (lenK.getD i 0))) ∈ fl0 := by decide +kernel
theorem fl_el : ∀ i : Fin 13, ∀ j : Fin 6, (j : Nat) < lenK.getD i 0 → Cond.eq (.elem (.field (tmK i) "java/lang/String" "value" "[B") (.int (Int32.ofNat j))) (.int ((bytK.getD i []).getD j 0)) ∈ fl0 := by decide +kernel
def ownK (k : Nat) : String := if k ≤ 98 then "MatFlip$Reader" else "MatFlipModel"
def neP (c : Cond) : Option (Nat × Nat) := match c with
  | .not (.eq (.string a k) (.string b j)) => if a = ownK k ∧ b = ownK j then some (k, j) else none
  | _ => none
theorem neP_c {c : Cond} {k j : Nat} (h : neP c = some (k, j)) : c = .not (.eq (.string (ownK k) k) (.string (ownK j) j)) := by
  unfold neP at h
  split at h
  · split at h
    · rename_i z
      cases h
      rw [z.1, z.2]
    · cases h
  · cases h
def neL : List (Nat × Nat) := [(48, 54), (48, 56), (54, 56), (48, 58), (54, 58), (56, 58), (48, 60), (54, 60), (56, 60), (58, 60), (48, 76), (54, 76), (56, 76), (58, 76), (60, 76), (48, 94), (54, 94), (56, 94), (58, 94), (60, 94), (76, 94), (48, 96), (54, 96), (56, 96), (58, 96), (60, 96), (76, 96), (94, 96), (48, 98), (54, 98), (56, 98), (58, 98), (60, 98), (76, 98), (94, 98), (96, 98), (48, 105), (54, 105), (56, 105), (58, 105), (60, 105), (76, 105), (94, 105), (96, 105), (98, 105), (48, 111), (54, 111), (56, 111), (58, 111), (60, 111), (76, 111), (94, 111), (96, 111), (98, 111), (105, 111), (48, 113), (54, 113), (56, 113), (58, 113), (60, 113), (76, 113), (94, 113), (96, 113), (98, 113), (105, 113), (111, 113), (48, 118), (54, 118), (56, 118), (58, 118), (60, 118), (76, 118), (94, 118), (96, 118), (98, 118), (105, 118), (111, 118), (113, 118)]
theorem fl_P : fl0.filterMap neP = neL := by decide +kernel
def kN (i : Nat) : Nat := (strK.getD i ("", 0)).2
theorem tm_o : ∀ i : Fin 13, tmK i = .string (ownK (kN i)) (kN i) := by decide +kernel
theorem fl_pr : ∀ i : Fin 13, ∀ j : Fin 13, i ≠ j → (kN i, kN j) ∈ neL ∨ (kN j, kN i) ∈ neL := by decide +kernel
theorem fl_in {k j : Nat} (h : (k, j) ∈ neL) : Cond.not (Cond.eq (.string (ownK k) k) (.string (ownK j) j)) ∈ fl0 := by
  rw [← fl_P] at h
  obtain ⟨c, hc, e⟩ := List.mem_filterMap.mp h
  rw [← neP_c e]
  exact hc
theorem fl_ne : ∀ i : Fin 13, ∀ j : Fin 13, i ≠ j → Cond.not (Cond.eq (tmK i) (tmK j)) ∈ fl0 ∨ Cond.not (Cond.eq (tmK j) (tmK i)) ∈ fl0 := fun i j h => by
  rw [tm_o i, tm_o j]
  exact (fl_pr i j h).imp fl_in fl_in
theorem fl_l6 : ∀ i : Fin 13, lenK.getD i 0 ≤ 6 := by decide
theorem fl_cs : ∀ q ∈ cstN, Cond.not (.castable q.1 q.2) ∈ fl0 := by decide +kernel
theorem tb_cs : ∀ q ∈ cstP, Cond.castable q.1 q.2 ∈ lw_tbl := by decide +kernel
theorem tb_nw : ∀ q ∈ nwM, Cond.methodLinkNest q.1 q.2.1 q.2.2 "MatFlip" ∈ lw_tbl := by decide +kernel
theorem tb_sr : ∀ q ∈ litK, Cond.stringRef q.1 q.2.1 q.2.2.1 ∈ lw_tbl := by decide +kernel
theorem fl_l1 : ∀ q ∈ litK, Term.string q.1 q.2.1 = tmK q.2.2.2 ∨ Cond.eq (tmK q.2.2.2) (Term.string q.1 q.2.1) ∈ fl0 ∨ Cond.eq (Term.string q.1 q.2.1) (tmK q.2.2.2) ∈ fl0 := by decide +kernel
theorem fl_l13 : ∀ q ∈ litK, q.2.2.2 < 13 := by decide
theorem fl_cp : Cond.eq (.static "java/lang/String" "COMPACT_STRINGS" "Z") (.int 1) ∈ fl0 := by decide +kernel
theorem fl_si : Cond.isRef (.static "jdk/internal/util/Preconditions" "SIOOBE_FORMATTER" "Ljava/util/function/BiFunction;") ∈ fl0 := by decide +kernel
theorem tb_cp : Cond.laysStatic "java/lang/String" "COMPACT_STRINGS" "Z" ∈ lw_tbl ∧ Cond.initialized "java/lang/String" ∈ lw_tbl := by decide +kernel
theorem tb_si : Cond.laysStatic "jdk/internal/util/Preconditions" "SIOOBE_FORMATTER" "Ljava/util/function/BiFunction;" ∈ lw_tbl ∧ Cond.initialized "jdk/internal/util/Preconditions" ∈ lw_tbl := by decide +kernel
theorem tb_ao : Cond.arrayOver (.object RX3) ∈ lw_tbl ∧ Cond.arrayOver (.object RX5) ∈ lw_tbl ∧ Cond.arrayClass .int ∈ lw_tbl ∧ Cond.arrayClass .boolean ∈ lw_tbl := by decide +kernel
/-- the statics, Strings, links and casts at the start -/
theorem start_sW {args : Array Value} {s : State} (hts : ∀ w ∈ lw_tbl, w.before args s = true) (hfl : ∀ w ∈ fl0, w.before args s = true) : ∃ g : sG, sW g (fun q => s.heap.size ≤ q) s s.heap := by
  have hA : ∀ a : Nat, a < s.heap.size → ¬ (fun q : Nat => s.heap.size ≤ q) a := fun a h z => absurd z (Nat.not_le.mpr h)
  obtain ⟨adK, adV, h1, h2⟩ := vk_Sof (args := args) (s := s) (N := 13) (tm := tmK) (len := lenK) (byt := bytK) (A := fun q => s.heap.size ≤ q)
    (fun i hi => Nat.lt_of_le_of_lt (fl_l6 ⟨i, hi⟩) (by decide))
    (fun i hi => hfl _ (fl_ex ⟨i, hi⟩)) (fun i hi => hfl _ (fl_co ⟨i, hi⟩)) (fun i hi => hfl _ (fl_ar ⟨i, hi⟩)) (fun i hi => hfl _ (fl_le ⟨i, hi⟩))
    (fun i hi j hj => hfl _ (fl_el ⟨i, hi⟩ ⟨j, Nat.lt_of_lt_of_le hj (fl_l6 ⟨i, hi⟩)⟩ hj))
    (fun i j hi hj hij => (fl_ne ⟨i, hi⟩ ⟨j, hj⟩ (fun z => hij (congrArg Fin.val z))).imp (hfl _) (hfl _)) hA
  have h3 : ∀ q ∈ litK, vk_R q.1 q.2.1 q.2.2.1 (adK q.2.2.2) s := fun q hq => by
    have e := h2 _ (fl_l13 q hq)
    have e2 : (Term.string q.1 q.2.1).eval args s none [] s = some (.ref (adK q.2.2.2)) := by
      rcases fl_l1 q hq with z | z | z
      · rw [z]; exact e
      · exact va_eqR (hfl _ z) e
      · exact va_eqv (hfl _ z) e
    exact vk_R.of (A := args) (hts _ (tb_sr q hq)) e2
  have h4 := va_Zof (args := args) (s := s) (A := fun q => s.heap.size ≤ q) (hts _ tb_cp.1) (hts _ tb_cp.2) (va_eqi (hfl _ fl_cp)) hA
  have h5 : ∃ o : Option Nat, va_Z "jdk/internal/util/Preconditions" "SIOOBE_FORMATTER" "Ljava/util/function/BiFunction;" (va_rf o) (fun q => s.heap.size ≤ q) s s.heap := by
    rcases va_Zqof (args := args) (s := s) (A := fun q => s.heap.size ≤ q) (hts _ tb_si.1) (hts _ tb_si.2) (hfl _ fl_si) hA with z | ⟨t, z⟩
    · exact ⟨none, z⟩
    · exact ⟨some t, z⟩
  obtain ⟨o, h5⟩ := h5
  refine ⟨(adK, adV, o), ⟨va_AO.of (hts _ tb_ao.1), va_AO.of (hts _ tb_ao.2.1)⟩, h1, h3, h4, h5, fun q hq => va_Nw.of rfl (hts _ (tb_nw q hq)), fun q hq => va_Nw.of rfl (hts _ (tb_cs q hq)), fun q hq => va_Nc.of (hfl _ (fl_cs q hq))⟩
theorem known_c {args : Array Value} {s : State} (hts : ∀ w ∈ BW, w.before args s = true) : ∃ (dC : Nat → ClassId) (dI : Nat → Nat → Nat), ∀ (k : Nat) (q : vw_C), classes[k]? = some q → u_Kn s q.1 q.2.1 q.2.2 (dC k) (dI k) := by
  have h : ∀ k : Nat, ∃ z : ClassId × (Nat → Nat), ∀ q : vw_C, classes[k]? = some q → u_Kn s q.1 q.2.1 q.2.2 z.1 z.2 := by
    have one : ∀ (C : String) (T : u_T) (N : Nat), (∀ w ∈ u_ws C T N, w ∈ BW) → Cond.instantiable C N ∈ BW → ∃ z : ClassId × (Nat → Nat), u_Kn s C T N z.1 z.2 := fun C T N h1 h2 => by
      obtain ⟨cC, iS, h⟩ := u_known hts h1 (hts _ h2)
      exact ⟨(cC, iS), h⟩
    intro k
    match k with
    | 0 => exact (one _ _ _ inX0 wn_X0).imp fun z h q hq => by cases hq; exact h
    | 1 => exact (one _ _ _ inX1 wn_X1).imp fun z h q hq => by cases hq; exact h
    | 2 => exact (one _ _ _ inX2 wn_X2).imp fun z h q hq => by cases hq; exact h
    | 3 => exact (one _ _ _ inX3 wn_X3).imp fun z h q hq => by cases hq; exact h
    | 4 => exact (one _ _ _ inX4 wn_X4).imp fun z h q hq => by cases hq; exact h
    | 5 => exact (one _ _ _ inX5 wn_X5).imp fun z h q hq => by cases hq; exact h
    | 6 => exact (one _ _ _ inX6 wn_X6).imp fun z h q hq => by cases hq; exact h
    | 7 => exact (one _ _ _ inX7 wn_X7).imp fun z h q hq => by cases hq; exact h
    | 8 => exact (one _ _ _ inX8 wn_X8).imp fun z h q hq => by cases hq; exact h
    | 9 => exact (one _ _ _ inX9 wn_X9).imp fun z h q hq => by cases hq; exact h
    | 10 => exact (one _ _ _ inX10 wn_X10).imp fun z h q hq => by cases hq; exact h
    | 11 => exact (one _ _ _ inX11 wn_X11).imp fun z h q hq => by cases hq; exact h
    | 12 => exact (one _ _ _ inX12 wn_X12).imp fun z h q hq => by cases hq; exact h
    | k + 13 => exact ⟨(0, fun _ => 0), fun q hq => by simp [classes] at hq⟩
  exact ⟨fun k => (Classical.choose (h k)).1, fun k => (Classical.choose (h k)).2, fun k q hq => Classical.choose_spec (h k) q hq⟩
theorem known_a {args : Array Value} {s : State} (hts : ∀ w ∈ lw_tbl, w.before args s = true) : ∃ cA : Nat → ClassId, ∀ (k : Nat) (q : ClassId × FieldType), (tysL cA)[k]? = some q → ArrOfT s q.1 q.2 ∧ va_RA s q.1 q.2 := by
  obtain ⟨c0, k0, p0, f1, f2, f3⟩ := Cond.arrayClass_spec (hts _ tb_ao.2.2.1)
  obtain ⟨c1, k1, p1, g1, g2, g3⟩ := Cond.arrayClass_spec (hts _ tb_ao.2.2.2)
  obtain ⟨p2, c2, k2, a1, -, a2, a3, a4⟩ := Cond.arrayOver_spec (hts _ tb_ao.1)
  obtain ⟨p3, c3, k3, b1, -, b2, b3, b4⟩ := Cond.arrayOver_spec (hts _ tb_ao.2.1)
  refine ⟨fun k => if k = 0 then c0 else if k = 1 then c1 else if k = 2 then c2 else c3, fun k q hq => ?_⟩
  match k, hq with
  | 0, hq => cases hq; exact ⟨fun N z => ⟨(fun k h => by cases h), k0, f2, p0, f3⟩, f1⟩
  | 1, hq => cases hq; exact ⟨fun N z => ⟨(fun k h => by cases h), k1, g2, p1, g3⟩, g1⟩
  | 2, hq => cases hq; exact ⟨fun N z => ⟨(fun k h => by cases h), k2, a2, p2, a3⟩, k2, p2, a2, a3, a1, a4⟩
  | 3, hq => cases hq; exact ⟨fun N z => ⟨(fun k h => by cases h), k3, b2, p3, b3⟩, k3, p3, b2, b3, b1, b4⟩
  | k + 4, hq => simp [tysL] at hq
