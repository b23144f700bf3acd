/-! ===== rows of references, copies of rows, nest mates' constructors ===== -/
theorem upq_cn {f : Int → Option Nat} {i : Int} {z : Option Nat} (h0 : 0 ≤ i) (h1 : i < 2147483648) : va_up (fun k : Nat => f (k : Int)) (Int32.ofInt i).toNatClampNeg z = fun k : Nat => aupq f i z (k : Int) := by
  have e := I_nat h0 h1
  funext j
  unfold va_up aupq
  by_cases hj : j = (Int32.ofInt i).toNatClampNeg
  · rw [if_pos hj, if_pos (by rw [hj, e])]
  · rw [if_neg hj, if_neg (by omega)]
theorem I_z0 : (Int32.ofInt 0).toNatClampNeg = 0 := by decide
theorem I_nn {i : Int} (h0 : 0 ≤ i) (h1 : i < 2147483648) : ¬ Int32.ofInt i < 0 := by
  rw [I_0, I_lt (by unfold iB; omega) iB0]
  omega
section ROWSF
variable {x : Cx} {cc : ByteArray} {own : String} {nL : Nat} {rm : Room} {ws ws2 : aW} {pc : Nat} {L : List (Nat × aV)} {st : List aV} {k n : Nat} {a : Nat}
/-- what may lie in a row of E -/
theorem any_of {b c : Nat} {fs : List aV} {r : vw_C} {E : String} {H : Heap} {locs : List Loc} {ls : Array Slot} (hcl : classes[c]? = some r) (hr : Rd x ws (b, co c fs)) (hE : r.1 = E ∨ (r.1, E) ∈ cstP) (hh : Hd x nL ws L H locs ls) (ok : OK x cc own nL) : va_Any E (xs x) H b := by
  refine va_rAny (q0 := 0) ok.2.2.2.2.2.1 (hr.at hh) rfl hcl (fun comp c0 h1 h2 => ?_)
  rcases hE with h | h
  · have hcls := (ok.2.2.2.2.2.1.1 c r hcl).2
    have e1 : c0 = (xD x).1 c := Option.some.inj (h2.symm.trans hcls.1)
    have e2 : comp = (xD x).1 c := Option.some.inj (h1.symm.trans (h ▸ hcls.1))
    rw [e1, e2]
    exact va_assign hcls
  · obtain ⟨c1, t1, f1, f2, f3⟩ := Cond.castable_spec (va_Nw.use (A := xa x) rfl (ok.2.2.2.2.2.2.1.2.2.2.2.2.2.1 _ h))
    cases h2.symm.trans f1
    cases h1.symm.trans f2
    exact f3
def tQ (t : Nat) (E : String) : Prop := (t = 2 ∧ E = RX3) ∨ (t = 3 ∧ E = RX5)
theorem tQ_2 : tQ 2 RX3 := Or.inl ⟨rfl, rfl⟩
theorem tQ_3 : tQ 3 RX5 := Or.inr ⟨rfl, rfl⟩
theorem tQ_at {t : Nat} {E : String} (h : tQ t E) (cA : Nat → ClassId) : (tysL cA)[t]? = some (cA t, .object E) := by
  rcases h with ⟨rfl, rfl⟩ | ⟨rfl, rfl⟩ <;> rfl
theorem v_aastO {N t : Nat} {f : Int → Option Nat} {i : Int} {o : Option Nat} {E : String} (q : Nat) (ht : tQ t E) (he : ws[q]? = some (a, cq t N f)) (hr : ∀ b, o = some b → ∃ (c : Nat) (fs : List aV) (r : vw_C), classes[c]? = some r ∧ Rd x ws (b, co c fs) ∧ (r.1 = E ∨ (r.1, E) ∈ cstP)) (h0 : 0 ≤ i) (h1 : i < N) (hN : N < 2147483648) (hw : ws.set q (a, cq t N (aupq f i o)) = ws2) (hd : decode cc pc = .ok (.aastore, 1)) (kk : V x cc own nL rm ws2 (pc + 1) L st k n) : V x cc own nL rm ws pc L (aq o :: ai i :: ar a :: st) k n := fun ok H locs ls hh => by
  subst hw
  have e : (cW (xC x) ws).set q (a, .inl (xC x t, N, .inr (.inr (.inr (.inr (fun k : Nat => aupq f i o (k : Int))))))) = cW (xC x) (ws.set q (a, cq t N (aupq f i o))) := by
    rw [← cW_set]
    rfl
  cases o with
  | none =>
    refine va_astqN (D := xD x) (C := E) ok.1 ok.2.1 ok.2.2.2.2.2.1 hh.1 hh.2.1 hh.2.2.1 q t (cW_at he) (tQ_at ht _) (I_in h0 h1 hN) hd (fun H1 locs1 hP hD hS => ?_)
    rw [upq_cn h0 (by omega), e] at hP hD
    exact kk ok H1 locs1 ls ⟨hP, hD, hS, hh.2.2.2⟩
  | some b =>
    obtain ⟨c, fs, r, g1, g2, g3⟩ := hr b rfl
    refine va_astqM (D := xD x) (E := E) ok.1 ok.2.1 ok.2.2.2.2.2.1 hh.1 hh.2.1 hh.2.2.1 q t (cW_at he) (tQ_at ht _) (any_of g1 g2 g3 hh ok) (I_in h0 h1 hN) hd (fun H1 locs1 hP hD hS => ?_)
    rw [upq_cn h0 (by omega), e] at hP hD
    exact kk ok H1 locs1 ls ⟨hP, hD, hS, hh.2.2.2⟩
theorem v_newq {N t : Nat} {i : Nat} {E : String} (ht : tQ t E) (hl : Cond.classLink own i E ∈ BW) (hN : N ≤ 1000000) (hr : k + 1 ≤ rm.cells ∧ n + N ≤ rm.slots) (hd : decode cc pc = .ok (.anewarray i, 3))
    (kk : ∀ q : Nat, V x cc own nL rm (ws ++ [(q, cq t N (fun _ => none))]) (pc + 3) L (ar q :: st) (k + 1) (n + N)) : V x cc own nL rm ws pc L (ai (N : Int) :: st) k n := fun ok H locs ls hh => by
  have hts := ok.2.2.2.2.1
  have hov : va_AO E (xs x) := by
    rcases ht with ⟨-, rfl⟩ | ⟨-, rfl⟩
    · exact ok.2.2.2.2.2.2.1.1.1
    · exact ok.2.2.2.2.2.2.1.1.2
  refine va_newq (D := xD x) (n := Int32.ofInt (N : Int)) (N' := N) ok.1 ok.2.1 ok.2.2.2.1 (hts _ hl) hov ok.2.2.2.2.2.1 hh.1 hh.2.1 hh.2.2.1 ok.2.2.2.2.2.2.2 (I_nn (by omega) (by omega)) ?_ (by show N * 4 ≤ _; omega) hr.1 hr.2 hd (fun q cA H1 hK hP hD hS => ?_)
  · have := I_nat (i := (N : Int)) (by omega) (by omega)
    omega
  · obtain ⟨kA, comp, -, -, -, h1⟩ := (hK.2 4 (cA, .object E) rfl).2
    obtain ⟨kA2, comp2, -, -, -, h2⟩ := (ok.2.2.2.2.2.1.2 t (xC x t, .object E) (tQ_at ht _)).2
    have h3 : cA = xC x t := Option.some.inj (h1.symm.trans h2)
    subst h3
    have e : cW (xC x) (ws ++ [(q, cq t N (fun _ => none))]) = cW (xC x) ws ++ [(q, .inl (xC x t, N, .inr (.inr (.inr (.inr (fun _ => none))))))] := by rw [cW_app]; rfl
    exact kk q ok H1 locs ls ⟨by rw [e]; exact hP, by rw [e]; exact hD, hS, hh.2.2.2⟩
/-- a whole row of ints is copied into another one -/
theorem v_cpy {i N a0 : Nat} {f g : Int → Int} (q : Nat) (hr : Rd x ws (a0, cn 0 N f)) (he : ws[q]? = some (a, cn 0 N g)) (hN : N ≤ 1000000) (hw : ws.set q (a, cn 0 N f) = ws2) (hl : Cond.methodLink own i arraycopyName ∈ BW) (hnat : Cond.native arraycopyName ∈ BW) (hst : Cond.static arraycopyName ∈ BW) (hini : Cond.initialized "java/lang/System" ∈ BW)
    (hrm : 1 ≤ rm.frames ∧ (st.map aCat).sum + 18 ≤ rm.locals) (hd : decode cc pc = .ok (.invokestatic i, 3)) (kk : V x cc own nL rm ws2 (pc + 3) L st k n) : V x cc own nL rm ws pc L (ai (N : Int) :: ai 0 :: ar a :: ai 0 :: ar a0 :: st) k n := fun ok H locs ls hh => by
  subst hw
  have hts := ok.2.2.2.2.1
  have hc0 : H[a0]? = some (vp_cell (xC x 0) (N, .inl (fun k : Nat => Int32.ofInt (f (k : Int))))) := hr.at hh 0 _ rfl
  have hc1 : H[a]? = some (vp_cell (xC x 0) (N, .inl (fun k : Nat => Int32.ofInt (g (k : Int))))) := hh.1 q _ (cW_at he)
  have hA : xA x a := hh.2.1.2 q _ (cW_at he)
  have hK := (ok.2.2.2.2.2.1.2 0 (xC x 0, .int) rfl).1
  obtain ⟨-, k0, hk0, cm0, hkk0⟩ := hK N (fun j => .int (Int32.ofInt (f (j : Int))))
  obtain ⟨-, k1, hk1, cm1, hkk1⟩ := hK N (fun j => .int (Int32.ofInt (g (j : Int))))
  have eN : (Int32.ofInt (N : Int)).toNatClampNeg = N := by
    have := I_nat (i := (N : Int)) (by omega) (by omega)
    omega
  have eT : (Int32.ofInt (N : Int)).toInt = (N : Int) := Int32.toInt_ofInt_of_le (by show (-2147483648 : Int) ≤ _; omega) (by show _ < (2147483648 : Int); omega)
  intro T hT X
  obtain ⟨vm', X', step⟩ := X.arraycopy ok.1 ok.2.2.2.1 (hts _ hl) (hts _ hnat) (hts _ hst) (hts _ hini) (src := a0) (dst := a) (cs := vp_cell (xC x 0) (N, .inl (fun k : Nat => Int32.ofInt (f (k : Int))))) (cd := vp_cell (xC x 0) (N, .inl (fun k : Nat => Int32.ofInt (g (k : Int))))) (srcPos := Int32.ofInt 0) (destPos := Int32.ofInt 0) (n := Int32.ofInt (N : Int)) (by rw [hT]; exact hc0) (by rw [hT]; exact hc1)
    (fun _ h => by cases h) (fun _ h => by cases h) (fun h => by cases h) (fun h => by cases h) hk0 hk1 hkk0 hkk1 (by simp [refKind]) (by decide) (by decide) (I_nn (by omega) (by omega))
    (by rw [eT]; show ¬ (0 : Int) + _ > ((arrV (xC x 0) N (fun j => .int (Int32.ofInt (f (j : Int))))).slots.size : Int); rw [arrV_size]; omega)
    (by rw [eT]; show ¬ (0 : Int) + _ > ((arrV (xC x 0) N (fun j => .int (Int32.ofInt (g (j : Int))))).slots.size : Int); rw [arrV_size]; omega)
    (fun vm₁ _ j hj => by
      rw [eN] at hj
      have e : (vp_cell (xC x 0) (N, .inl (fun k : Nat => Int32.ofInt (f (k : Int))))).slots.getD ((Int32.ofInt 0).toNatClampNeg + j) .null = .int (Int32.ofInt (f (j : Int))) := by
        rw [I_z0, Nat.zero_add]
        show (arrV (xC x 0) N (fun j => .int (Int32.ofInt (f (j : Int))))).slots.getD _ _ = _
        rw [Array.getD_eq_getD_getElem?, arrV_read _ _ hj]
        rfl
      show fits .int ((vp_cell (xC x 0) (N, .inl (fun k : Nat => Int32.ofInt (f (k : Int))))).slots.getD ((Int32.ofInt 0).toNatClampNeg + j) .null) = true ∧ (T.setVm vm₁).takes cm1 ((vp_cell (xC x 0) (N, .inl (fun k : Nat => Int32.ofInt (f (k : Int))))).slots.getD ((Int32.ofInt 0).toNatClampNeg + j) .null)
      rw [e]
      exact ⟨rfl, trivial⟩)
    (g := F0 (xm x) pc ls (.int (Int32.ofInt (N : Int)) :: .int (Int32.ofInt 0) :: .ref a :: .int (Int32.ofInt 0) :: .ref a0 :: st.map cV)) rfl (hh.2.2.2.1.trans ok.2.2.1.symm) (rest := st.map cV) rfl (by rw [ok.2.1]; exact hd) hrm.1 (by show 2 * 0 + _ + (7 + 11) ≤ _; rw [v_sum]; omega)
  have e1 : copied (vp_cell (xC x 0) (N, .inl (fun k : Nat => Int32.ofInt (f (k : Int))))) (vp_cell (xC x 0) (N, .inl (fun k : Nat => Int32.ofInt (g (k : Int))))) (Int32.ofInt 0) (Int32.ofInt 0) (Int32.ofInt (N : Int)) = vp_cell (xC x 0) (N, .inl (va_cpy (fun k : Nat => Int32.ofInt (f (k : Int))) (fun k : Nat => Int32.ofInt (g (k : Int))) (Int32.ofInt 0).toNatClampNeg (Int32.ofInt 0).toNatClampNeg (Int32.ofInt (N : Int)).toNatClampNeg)) := va_copied (fun z => .int z) (xC x 0) (xC x 0) (fun k : Nat => Int32.ofInt (f (k : Int))) (fun k : Nat => Int32.ofInt (g (k : Int))) (show (Int32.ofInt 0).toNatClampNeg + (Int32.ofInt (N : Int)).toNatClampNeg ≤ N by rw [I_z0, eN]; omega)
  have e2 : vp_cell (xC x 0) (N, .inl (va_cpy (fun k : Nat => Int32.ofInt (f (k : Int))) (fun k : Nat => Int32.ofInt (g (k : Int))) (Int32.ofInt 0).toNatClampNeg (Int32.ofInt 0).toNatClampNeg (Int32.ofInt (N : Int)).toNatClampNeg)) = vp_cell (xC x 0) (N, .inl (fun k : Nat => Int32.ofInt (f (k : Int)))) := by
    show arrV (xC x 0) N (fun j => .int (va_cpy _ _ _ _ _ j)) = arrV (xC x 0) N (fun j => .int (Int32.ofInt (f (j : Int))))
    refine arrV_ext fun j hj => ?_
    rw [I_z0, eN]
    unfold va_cpy
    rw [if_pos (by omega), show 0 + (j - 0) = j by omega]
  rw [e1, e2] at X' step
  have hl2 : a < H.size := (Array.getElem?_eq_some_iff.mp hc1).1
  have hheap : ((T.setVm vm').setCell a (vp_cell (xC x 0) (N, .inl (fun k : Nat => Int32.ofInt (f (k : Int)))))).heap = H.setIfInBounds a (vp_cell (xC x 0) (N, .inl (fun k : Nat => Int32.ofInt (f (k : Int))))) := by rw [← hT]; rfl
  have oq : ∀ q : Nat, q ≠ a → (H.setIfInBounds a (vp_cell (xC x 0) (N, .inl (fun k : Nat => Int32.ofInt (f (k : Int))))))[q]? = H[q]? := fun q hq => by simp [Array.getElem?_setIfInBounds, Ne.symm hq]
  have e3 : (cW (xC x) ws).set q (cQ (xC x) (a, cn 0 N f)) = cW (xC x) (ws.set q (a, cn 0 N f)) := cW_set
  have hp : (cW (xC x) ws)[q]? = some (a, cE (xC x) (cn 0 N g)) := cW_at he
  have hP2 : va_P (xD x) classes (cW (xC x) (ws.set q (a, cn 0 N f))) (H.setIfInBounds a (vp_cell (xC x 0) (N, .inl (fun k : Nat => Int32.ofInt (f (k : Int)))))) := by
    rw [← e3]
    exact va_P.set (e := cE (xC x) (cn 0 N f)) hh.1 hh.2.1 hp (show (H.setIfInBounds a _)[a]? = some _ by simp [Array.getElem?_setIfInBounds, hl2]) oq
  have hD2 : va_D (xA x) (cW (xC x) (ws.set q (a, cn 0 N f))) := by
    rw [← e3]
    exact va_D.set (e := cE (xC x) (cn 0 N f)) hh.2.1 hp
  obtain ⟨t, a1, b1⟩ := kk ok _ _ ls ⟨hP2, hD2, ⟨by simp; exact hh.2.2.1.1, fun q g1 g2 => by
      rw [oq q (fun e => g2 (by rw [e]; exact hA))]
      exact hh.2.2.1.2.1 q g1 g2, fun q hq => by
      rcases List.mem_append.mp hq with h | h
      · exact hh.2.2.1.2.2 q h
      · obtain ⟨z, -, hz⟩ := List.mem_map.mp h
        rw [← hz]
        exact hA⟩, hh.2.2.2⟩ _ hheap X'
  exact ⟨t, step t a1, b1⟩
end ROWSF
section NESTS
variable {x : Cx} {cc : ByteArray} {own : String} {nL : Nat} {rm : Room} {ws : aW} {pc : Nat} {L : List (Nat × aV)} {st : List aV} {k n : Nat}
variable {S : Type} {y : MethodName} {bytes : ByteArray} {maxL : Nat} {fr lo mc ms : Nat} {wc wr : aW} {ro : Nat × aC → Prop} {good : S → Prop} {R : S → Option aV} {W2 : S → aW}
/-- a nest mate's constructor -/
theorem v_callIN (isC isR : List Nat) (wr : aW) {b i : Nat} {As rest : List aV} (hM : Ct (xg x) y bytes maxL none fr lo mc ms (ar b :: As) wc ro good R W2)
    (hlink : (own, i, y) ∈ nwM) (hinst : Cond.instanceMethod y ∈ BW) (hcode : Cond.code y bytes maxL none ∈ BW) (hini : Cond.initialized y.cls ∈ BW) (hy : y.name = "<init>")
    (hd : y.cls ≠ "java/lang/invoke/MethodHandle" ∧ y.cls ≠ "java/lang/invoke/VarHandle" ∧ (parseMethodDescriptor y.desc).map (fun d => d.parameters.length) = some As.length)
    (hst : st = As.reverse ++ ar b :: rest) (hrest : (rest.map aCat).sum ≤ 8) (hroom : fr + 1 ≤ rm.frames ∧ 8 + (maxL + 11) + lo ≤ rm.locals ∧ k + mc ≤ rm.cells ∧ n + ms ≤ rm.slots)
    (hC : isC.map (fun i => ws[i]?) = wc.map some) (hR : isR.map (fun i => ws[i]?) = wr.map some) (hnC : va_nd isC = true) (hnR : va_nd isR = true) (hdis : ∀ i ∈ isR, i ∉ isC) (hro : ∀ q, ro q → RoIn x ws isC q)
    (hdec : decode cc pc = .ok (.invokespecial i, 3))
    (kk : ∀ u : S, good u → V x cc own nL rm (wr ++ W2 u) (pc + 3) L ((R u).toList ++ rest) (k + mc) (n + ms)) : V x cc own nL rm ws pc L st k n := fun ok H locs ls hh => by
  subst hst
  have hts := ok.2.2.2.2.1
  refine v_after (a := ((ar b :: As).map cV).toArray) isC isR ?_ hh ok hC hR hnR hdis kk
  rw [v_stk]
  exact va_runIN (As := As.map cV) (rest := rest.map cV) (n := As.length) ⟨ok.1, ok.2.1, ok.2.2.1, ok.2.2.2.1, hts⟩ (hM (xl x) (xD x) (xC x) H.size)
    ⟨va_cnB As.length hts (wU_good (fun _ h => h) hcode) rfl rfl rfl (ok.2.2.2.2.2.2.1.2.2.2.2.2.1 _ hlink) (hts _ hini) hd ⟨hroom.1, hroom.2.1⟩, hy, hts _ hinst⟩
    ⟨aPre_blind, fun U hU hW => v_ahead (args := ar b :: As) isC hh ok hC hnC hro U hU hW⟩ rfl (by simp) hh.2.2.2.1 rfl (lv_room (by rw [v_sum]; exact hrest)) hdec ⟨hroom.2.2.1, hroom.2.2.2⟩
end NESTS
theorem wcp_native : Cond.native arraycopyName ∈ BW := bw_mem 1034 (by decide +kernel) rfl
theorem wcp_static : Cond.static arraycopyName ∈ BW := bw_mem 1033 (by decide +kernel) rfl
theorem wcp_init : Cond.initialized "java/lang/System" ∈ BW := bw_mem 86 (by decide +kernel) rfl
theorem wcp_9 : Cond.methodLink RX9 17 arraycopyName ∈ BW := bw_mem 1032 (by decide +kernel) rfl
theorem wcp_10 : Cond.methodLink RX10 73 arraycopyName ∈ BW := bw_mem 1036 (by decide +kernel) rfl
