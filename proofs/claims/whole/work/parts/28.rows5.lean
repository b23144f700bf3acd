/-! ===== new cells; rows that hold the same ===== -/
section ROWSE
variable {x : Cx} {cc : ByteArray} {own : String} {nL : Nat} {rm : Room} {ws ws2 : aW} {pc : Nat} {L L2 : List (Nat × aV)} {st : List aV} {k n : Nat}
theorem v_objInit {i a : Nat} (hl : Cond.methodLink own i Lib.objectInit ∈ BW) (hi : Cond.instanceMethod Lib.objectInit ∈ BW) (hc : Cond.code Lib.objectInit ⟨#[0xb1]⟩ 1 none ∈ BW) (hr : 1 ≤ rm.frames ∧ (st.map aCat).sum + 12 ≤ rm.locals) (hd : decode cc pc = .ok (.invokespecial i, 3)) (kk : V x cc own nL rm ws (pc + 3) L st k n) : V x cc own nL rm ws pc L (ar a :: st) k n := fun ok H locs ls hh =>
  W.objInit (a := a) (rest := st.map cV) ok.1 ok.2.1 ok.2.2.2.1 (ok.2.2.2.2.1 _ hl) (ok.2.2.2.2.1 _ hi) (ok.2.2.2.2.1 _ hc) rfl (hh.2.2.2.1.trans ok.2.2.1.symm) rfl hd hr.1 (by show 2 * 0 + _ + 12 ≤ _; rw [v_sum]; omega) (kk ok H locs ls hh)
theorem v_new {i c : Nat} {fs : List aV} {r : vw_C} (ty : Nat → FieldType) (hc : classes[c]? = some r) (hty : ∀ k, k < r.2.2 → parseFieldDescriptor (r.2.1 k).2.2.1 = some (ty k)) (hin : ∀ w ∈ u_ws r.1 r.2.1 r.2.2, w ∈ BW) (hl : Cond.classLink own i r.1 ∈ BW) (hn : Cond.instantiable r.1 r.2.2 ∈ BW) (hz : Cond.initialized r.1 ∈ BW) (hfs : ∀ j, j < r.2.2 → defaultValue (ty j) = vp_V (fs.map cV) j) (hr : k + 1 ≤ rm.cells ∧ n + r.2.2 ≤ rm.slots) (hd : decode cc pc = .ok (.new i, 3))
    (kk : ∀ q : Nat, V x cc own nL rm (ws ++ [(q, co c fs)]) (pc + 3) L (ar q :: st) (k + 1) (n + r.2.2)) : V x cc own nL rm ws pc L st k n := fun ok H locs ls hh => by
  have hts := ok.2.2.2.2.1
  refine va_new (D := xD x) (ci := c) (fs := fs.map cV) (C := r.1) (T := r.2.1) (N := r.2.2) ok.1 ok.2.1 hts hin ty hty ok.2.2.2.1 (hts _ hl) (hts _ hn) (hts _ hz) ok.2.2.2.2.2.1 hh.1 hh.2.1 hh.2.2.1 ok.2.2.2.2.2.2.2 hc hfs hr.1 hr.2 hd (fun q H1 hP hD hS => ?_)
  have e : cW (xC x) (ws ++ [(q, co c fs)]) = cW (xC x) ws ++ [(q, .inr (c, fs.map cV))] := by rw [cW_app]; rfl
  exact kk q ok H1 locs ls ⟨by rw [e]; exact hP, by rw [e]; exact hD, hS, hh.2.2.2⟩
theorem v_newa {N : Nat} (hw : Cond.arrayClass .int ∈ BW) (hN : N ≤ 1000000) (hr : k + 1 ≤ rm.cells ∧ n + N ≤ rm.slots) (hd : decode cc pc = .ok (.newarray .int, 2))
    (kk : ∀ q : Nat, V x cc own nL rm (ws ++ [(q, cn 0 N (fun _ => 0))]) (pc + 2) L (ar q :: st) (k + 1) (n + N)) : V x cc own nL rm ws pc L (ai (N : Int) :: st) k n := fun ok H locs ls hh => by
  have hts := ok.2.2.2.2.1
  refine va_newa (atype := .int) (ty := .int) (D := xD x) (n := Int32.ofInt (N : Int)) (N' := N) (a0 := (N, .inl (fun _ => Int32.ofInt 0))) ok.1 ok.2.1 (hts _ hw) rfl ok.2.2.2.2.2.1 hh.1 hh.2.1 hh.2.2.1 ok.2.2.2.2.2.2.2 (fun _ => rfl) ?_ ?_ (by show N * 4 ≤ _; omega) hr.1 hr.2 hd (fun q cA H1 hK hP hD hS => ?_)
  · rw [I_0, I_lt (by unfold iB; omega) iB0]
    omega
  · have := I_nat (i := (N : Int)) (by omega) (by omega)
    omega
  · have h1 := (hK.2 4 (cA, .int) rfl).2
    have h2 := (ok.2.2.2.2.2.1.2 0 (xC x 0, .int) rfl).2
    have h3 : cA = xC x 0 := Option.some.inj ((show (xs x).vm.findClass _ = some cA from h1).symm.trans h2)
    subst h3
    have e : cW (xC x) (ws ++ [(q, cn 0 N (fun _ => 0))]) = cW (xC x) ws ++ [(q, .inl (xC x 0, (N, .inl (fun _ => Int32.ofInt 0))))] := by rw [cW_app]; rfl
    exact kk q ok H1 locs ls ⟨by rw [e]; exact hP, by rw [e]; exact hD, hS, hh.2.2.2⟩
theorem v_newz {N : Nat} (hw : Cond.arrayClass .boolean ∈ BW) (hN : N ≤ 1000000) (hr : k + 1 ≤ rm.cells ∧ n + N ≤ rm.slots) (hd : decode cc pc = .ok (.newarray .boolean, 2))
    (kk : ∀ q : Nat, V x cc own nL rm (ws ++ [(q, cn 1 N (fun _ => 0))]) (pc + 2) L (ar q :: st) (k + 1) (n + N)) : V x cc own nL rm ws pc L (ai (N : Int) :: st) k n := fun ok H locs ls hh => by
  have hts := ok.2.2.2.2.1
  refine va_newa (atype := .boolean) (ty := .boolean) (D := xD x) (n := Int32.ofInt (N : Int)) (N' := N) (a0 := (N, .inl (fun _ => Int32.ofInt 0))) ok.1 ok.2.1 (hts _ hw) rfl ok.2.2.2.2.2.1 hh.1 hh.2.1 hh.2.2.1 ok.2.2.2.2.2.2.2 (fun _ => rfl) ?_ ?_ (by show N * 1 ≤ _; omega) hr.1 hr.2 hd (fun q cA H1 hK hP hD hS => ?_)
  · rw [I_0, I_lt (by unfold iB; omega) iB0]
    omega
  · have := I_nat (i := (N : Int)) (by omega) (by omega)
    omega
  · have h1 := (hK.2 4 (cA, .boolean) rfl).2
    have h2 := (ok.2.2.2.2.2.1.2 1 (xC x 1, .boolean) rfl).2
    have h3 : cA = xC x 1 := Option.some.inj ((show (xs x).vm.findClass _ = some cA from h1).symm.trans h2)
    subst h3
    have e : cW (xC x) (ws ++ [(q, cn 1 N (fun _ => 0))]) = cW (xC x) ws ++ [(q, .inl (xC x 1, (N, .inl (fun _ => Int32.ofInt 0))))] := by rw [cW_app]; rfl
    exact kk q ok H1 locs ls ⟨by rw [e]; exact hP, by rw [e]; exact hD, hS, hh.2.2.2⟩
theorem arrV_ext {cA : ClassId} {N : Nat} {F G : Nat → Value} (h : ∀ j, j < N → F j = G j) : arrV cA N F = arrV cA N G := by
  unfold arrV
  congr 1
  apply Array.ext
  · simp
  · intro i h1 h2
    simp at h1 ⊢
    exact h i h1
/-- a row of numbers is what its places hold -/
theorem v_ext {q a N t : Nat} {f g : Int → Int} (he : ws[q]? = some (a, cn t N f)) (h : ∀ j : Int, 0 ≤ j → j < N → f j = g j) (hw : ws.set q (a, cn t N g) = ws2) (kk : V x cc own nL rm ws2 pc L st k n) : V x cc own nL rm ws pc L st k n := fun ok H locs ls hh => by
  subst hw
  have hp : (cW (xC x) ws)[q]? = some (a, cE (xC x) (cn t N f)) := cW_at he
  refine kk ok H locs ls ⟨?_, ?_, hh.2.2⟩
  · rw [← cW_set]
    refine va_P.set (e := cE (xC x) (cn t N g)) hh.1 hh.2.1 hp ?_ (fun _ _ => rfl)
    have h1 := hh.1 q _ hp
    show H[a]? = some (arrV (xC x t) N (fun j => Value.int (Int32.ofInt (g (j : Int)))))
    have h2 : H[a]? = some (arrV (xC x t) N (fun j => Value.int (Int32.ofInt (f (j : Int))))) := h1
    rw [h2]
    congr 1
    exact arrV_ext fun j hj => by rw [h (j : Int) (by omega) (by omega)]
  · rw [← cW_set]
    exact va_D.set (e := cE (xC x) (cn t N g)) hh.2.1 hp
end ROWSE
