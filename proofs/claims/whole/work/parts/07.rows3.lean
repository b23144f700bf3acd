/-! ===== contracts, returns, calls ===== -/
def rmU (fr lo mc ms : Nat) : Room := { frames := fr, cells := mc, slots := ms, locals := lo }
def aPre (g : sG) (D : va_G) (cA : Nat → ClassId) (args : List aV) (ws : aW) (ro : Nat × aC → Prop) (sz : Nat) : Array Value → State → Prop :=
  va_Pc (args.map cV) (fun U => U.heap.size = sz ∧ va_P D classes (cW cA ws) U.heap ∧ va_D (fun _ => True) (cW cA ws) ∧ va_K D classes (tysL cA) U ∧ sW g (va_A (cW cA ws) sz) U U.heap ∧ ∀ q, ro q → va_at D classes (cQ cA q) U.heap ∧ ¬ va_A (cW cA ws) sz q.1)
def aPost {S : Type} (D : va_G) (cA : Nat → ClassId) (ws : aW) (sz : Nat) (good : S → Prop) (R : S → Option aV) (W2 : S → aW) : Array Value → State → Outcome → State → Prop := fun _ st o t =>
  (∃ u : S, o = .returned ((R u).map cV) ∧ good u ∧ va_P D classes (cW cA (W2 u)) t.heap ∧ va_D (va_A (cW cA ws) sz) (cW cA (W2 u))) ∧ va_F (va_A (cW cA ws) sz) st t
/-- A CONTRACT: from the cells ws (its own) and ro (read alone) the method returns R u and leaves W2 u, for some u that is good -/
def Ct {S : Type} (g : sG) (y : MethodName) (cc : ByteArray) (nL : Nat) (ret : Option FieldType) (fr lo mc ms : Nat) (args : List aV) (ws : aW) (ro : Nat × aC → Prop) (good : S → Prop) (R : S → Option aV) (W2 : S → aW) : Prop :=
  ∀ (l : Launch) (D : va_G) (cA : Nat → ClassId) (sz : Nat), Met l y (wU y cc nL ret) (rmU fr lo mc ms) (aPre g D cA args ws ro sz) (aPost D cA ws sz good R W2) mc ms (va_A (cW cA ws) sz)
theorem aPre_blind {g : sG} {D : va_G} {cA : Nat → ClassId} {args : List aV} {ws : aW} {ro : Nat × aC → Prop} {sz : Nat} : FrameBlind (aPre g D cA args ws ro sz) := fun a U g1 mk h => by
  obtain ⟨h1, h2, h3, h4, h5, h6, h7⟩ := h
  exact ⟨h1, h2, h3, h4, va_K.moved (u := U) (U := U.calling g1 mk a) (Vm.Alike.refl U.vm) h5, sW.same (s := U) (U := U.calling g1 mk a) rfl h6, h7⟩
def aargs : Nat → List aV → List (Nat × aV)
  | _, [] => []
  | i, v :: vs => (i, v) :: aargs (if aCat v = 2 then i + 2 else i + 1) vs
theorem aargs_eq : ∀ (vs : List aV) (i : Nat), lv_args i (vs.map cV) = cL (aargs i vs)
  | [], _ => rfl
  | v :: vs, i => by
    unfold cL
    simp only [List.map_cons, lv_args, aargs, aCat_eq]
    rw [aargs_eq vs]
    rfl
theorem ct_of {S : Type} {g : sG} {y : MethodName} {cc : ByteArray} {nL : Nat} {ret : Option FieldType} {fr lo mc ms : Nat} {args : List aV} {ws : aW} {ro : Nat × aC → Prop} {good : S → Prop} {R : S → Option aV} {W2 : S → aW} (own : String) (L0 : List (Nat × aV))
    (hy : plainFor y = true) (ho : y.cls = own) (hl : (lg_sl (args.map cV)).length ≤ nL) (hL : aargs 0 args = L0)
    (body : ∀ x : Cx, xg x = g → (xM x).sig.returnType = ret → (xM x).locks = false → (xM x).name = y.name → (∀ sz, xQ x = MQ (xb x) (aPost (xD x) (xC x) ws sz good R W2) (xa x) (xs x) mc ms (va_A (cW (xC x) ws) sz) ∧ xA x = va_A (cW (xC x) ws) sz ∨ sz ≠ (xs x).heap.size) → (∀ q, ro q → Ro x q) → V x cc own nL (rmU fr lo mc ms) ws 0 L0 [] 0 0) :
    Ct g y cc nL ret fr lo mc ms args ws ro good R W2 := by
  intro l D cA sz
  refine va_MetF (cc := cc) (maxL := nL) (ret := ret) hy rfl ?_
  intro p e s m a below meth c s1 B hml hv
  obtain ⟨rfl, hsz, hP, hD0, hK, hw, hro⟩ := hv
  have hts := atoms_spec (ws := wU y cc nL ret) B.pre
  subst hsz
  have hl0 := lv_entry (args.map cV) hl
  rw [lg_entry_eq]
  generalize (lg_sl (args.map cV) ++ List.replicate (nL - (lg_sl (args.map cV)).length) Slot.unset).toArray = ls at hl0 ⊢
  rw [aargs_eq, hL] at hl0
  have hb := body (p, l, e, s, m, (args.map cV).toArray, below, meth, c, MQ below (aPost D cA ws s.heap.size good R W2) (args.map cV).toArray s mc ms (va_A (cW cA ws) s.heap.size), va_A (cW cA ws) s.heap.size, D, cA, g) rfl B.returns B.notSynchronized (name_of_methodNamed B.named B.method).1
    (fun sz => (Classical.em (sz = s.heap.size)).elim (fun h => Or.inl (by subst h; exact ⟨rfl, rfl⟩)) Or.inr) hro
  exact hb ⟨B.exec, B.bytes, hml, ho ▸ findClass_of_methodNamed B.named, fun w hw => hts w (wU_in w hw), hK, hw, fun q h => Or.inr h⟩ s.heap [] ls ⟨hP, hD0.self, va_S.rf, hl0⟩
/-- what a return of a method needs, by its type -/
def RetI (x : Cx) {S : Type} (cc : ByteArray) (own : String) (nL fr lo mc ms : Nat) (good : S → Prop) (R : S → Option aV) (W2 : S → aW) : Prop :=
  ∀ (u : S) (z : Int) (ws : aW) (pc : Nat) (L : List (Nat × aV)) (k n : Nat), good u → R u = some (ai z) → ws = W2 u → k ≤ mc → n ≤ ms → decode cc pc = .ok (.ireturn, 1) → V x cc own nL (rmU fr lo mc ms) ws pc L [ai z] k n
def RetZ (x : Cx) {S : Type} (cc : ByteArray) (own : String) (nL fr lo mc ms : Nat) (good : S → Prop) (R : S → Option aV) (W2 : S → aW) : Prop :=
  ∀ (u : S) (z : Int) (ws : aW) (pc : Nat) (L : List (Nat × aV)) (k n : Nat), good u → R u = some (ai z) → (z = 0 ∨ z = 1) → ws = W2 u → k ≤ mc → n ≤ ms → decode cc pc = .ok (.ireturn, 1) → V x cc own nL (rmU fr lo mc ms) ws pc L [ai z] k n
def RetL (x : Cx) {S : Type} (cc : ByteArray) (own : String) (nL fr lo mc ms : Nat) (good : S → Prop) (R : S → Option aV) (W2 : S → aW) : Prop :=
  ∀ (u : S) (z : Int) (ws : aW) (pc : Nat) (L : List (Nat × aV)) (k n : Nat), good u → R u = some (al z) → ws = W2 u → k ≤ mc → n ≤ ms → decode cc pc = .ok (.lreturn, 1) → V x cc own nL (rmU fr lo mc ms) ws pc L [al z] k n
def RetV (x : Cx) {S : Type} (cc : ByteArray) (own : String) (nL fr lo mc ms : Nat) (good : S → Prop) (R : S → Option aV) (W2 : S → aW) : Prop :=
  ∀ (u : S) (ws : aW) (pc : Nat) (L : List (Nat × aV)) (k n : Nat), good u → R u = none → ws = W2 u → k ≤ mc → n ≤ ms → decode cc pc = .ok (.return_, 1) → V x cc own nL (rmU fr lo mc ms) ws pc L [] k n
def RetA (x : Cx) {S : Type} (cc : ByteArray) (own : String) (nL fr lo mc ms : Nat) (good : S → Prop) (R : S → Option aV) (W2 : S → aW) : Prop :=
  ∀ (u : S) (o : Option Nat) (ws : aW) (pc : Nat) (L : List (Nat × aV)) (k n : Nat), good u → R u = some (aq o) → ws = W2 u → k ≤ mc → n ≤ ms → decode cc pc = .ok (.areturn, 1) → V x cc own nL (rmU fr lo mc ms) ws pc L [aq o] k n
def RetN (x : Cx) {S : Type} (ty : FieldType) (cc : ByteArray) (own : String) (nL fr lo mc ms : Nat) (good : S → Prop) (R : S → Option aV) (W2 : S → aW) : Prop :=
  ∀ (u : S) (z : Int) (ws : aW) (pc : Nat) (L : List (Nat × aV)) (k n : Nat), good u → R u = some (ai z) → narrow ty (.int (Int32.ofInt z)) = .int (Int32.ofInt z) → ws = W2 u → k ≤ mc → n ≤ ms → decode cc pc = .ok (.ireturn, 1) → V x cc own nL (rmU fr lo mc ms) ws pc L [ai z] k n
section CTR
variable {S : Type} {g : sG} {y : MethodName} {cc : ByteArray} {nL fr lo mc ms : Nat} {args : List aV} {ws : aW} {ro : Nat × aC → Prop} {good : S → Prop} {R : S → Option aV} {W2 : S → aW}
theorem ct_I (own : String) (L0 : List (Nat × aV)) (hy : plainFor y = true) (ho : y.cls = own) (hl : (lg_sl (args.map cV)).length ≤ nL) (hL : aargs 0 args = L0)
    (body : ∀ x : Cx, xg x = g → (∀ q, ro q → Ro x q) → RetI x cc own nL fr lo mc ms good R W2 → V x cc own nL (rmU fr lo mc ms) ws 0 L0 [] 0 0) : Ct g y cc nL (some .int) fr lo mc ms args ws ro good R W2 := by
  refine ct_of own L0 hy ho hl hL (fun x hg hr hk hn hQ hro => body x hg hro ?_)
  intro u z ws' pc L k n hg hR hw h1 h2 hd ok H locs ls hh
  subst hw
  rcases hQ (xs x).heap.size with ⟨e1, e2⟩ | h
  · rw [e1]
    refine W.widen (k := mc) (n := ms) h1 h2 (W.iret ok.1 ok.2.1 hr (fun t ht hW => ⟨⟨u, by rw [hR]; rfl, hg, by rw [ht]; exact hh.1, by rw [← e2]; exact hh.2.1⟩, by rw [← e2]; exact hh.2.2.1.F ht⟩) (by rw [← e2]; exact hh.2.2.1.2.2) hd)
  · exact absurd rfl h
theorem ct_Z (own : String) (L0 : List (Nat × aV)) (hy : plainFor y = true) (ho : y.cls = own) (hl : (lg_sl (args.map cV)).length ≤ nL) (hL : aargs 0 args = L0)
    (body : ∀ x : Cx, xg x = g → (∀ q, ro q → Ro x q) → RetZ x cc own nL fr lo mc ms good R W2 → V x cc own nL (rmU fr lo mc ms) ws 0 L0 [] 0 0) : Ct g y cc nL (some .boolean) fr lo mc ms args ws ro good R W2 := by
  refine ct_of own L0 hy ho hl hL (fun x hg hr hk hn hQ hro => body x hg hro ?_)
  intro u z ws' pc L k n hg hR hz hw h1 h2 hd ok H locs ls hh
  subst hw
  rcases hQ (xs x).heap.size with ⟨e1, e2⟩ | h
  · rw [e1]
    refine W.widen (k := mc) (n := ms) h1 h2 (W.zret ok.1 ok.2.1 hr (by rcases hz with rfl | rfl <;> rfl) (fun t ht hW => ⟨⟨u, by rw [hR]; rfl, hg, by rw [ht]; exact hh.1, by rw [← e2]; exact hh.2.1⟩, by rw [← e2]; exact hh.2.2.1.F ht⟩) (by rw [← e2]; exact hh.2.2.1.2.2) hd)
  · exact absurd rfl h
theorem ct_N (ty : FieldType) (own : String) (L0 : List (Nat × aV)) (hy : plainFor y = true) (ho : y.cls = own) (hl : (lg_sl (args.map cV)).length ≤ nL) (hL : aargs 0 args = L0)
    (body : ∀ x : Cx, xg x = g → (∀ q, ro q → Ro x q) → RetN x ty cc own nL fr lo mc ms good R W2 → V x cc own nL (rmU fr lo mc ms) ws 0 L0 [] 0 0) : Ct g y cc nL (some ty) fr lo mc ms args ws ro good R W2 := by
  refine ct_of own L0 hy ho hl hL (fun x hg hr hk hn hQ hro => body x hg hro ?_)
  intro u z ws' pc L k n hg hR hz hw h1 h2 hd ok H locs ls hh
  subst hw
  rcases hQ (xs x).heap.size with ⟨e1, e2⟩ | h
  · rw [e1]
    refine W.widen (k := mc) (n := ms) h1 h2 (W.zret ok.1 ok.2.1 hr hz (fun t ht hW => ⟨⟨u, by rw [hR]; rfl, hg, by rw [ht]; exact hh.1, by rw [← e2]; exact hh.2.1⟩, by rw [← e2]; exact hh.2.2.1.F ht⟩) (by rw [← e2]; exact hh.2.2.1.2.2) hd)
  · exact absurd rfl h
theorem ct_L (own : String) (L0 : List (Nat × aV)) (hy : plainFor y = true) (ho : y.cls = own) (hl : (lg_sl (args.map cV)).length ≤ nL) (hL : aargs 0 args = L0)
    (body : ∀ x : Cx, xg x = g → (∀ q, ro q → Ro x q) → RetL x cc own nL fr lo mc ms good R W2 → V x cc own nL (rmU fr lo mc ms) ws 0 L0 [] 0 0) : Ct g y cc nL (some .long) fr lo mc ms args ws ro good R W2 := by
  refine ct_of own L0 hy ho hl hL (fun x hg hr hk hn hQ hro => body x hg hro ?_)
  intro u z ws' pc L k n hg hR hw h1 h2 hd ok H locs ls hh
  subst hw
  rcases hQ (xs x).heap.size with ⟨e1, e2⟩ | h
  · rw [e1]
    refine W.widen (k := mc) (n := ms) h1 h2 (W.lret ok.1 ok.2.1 hr (fun t ht hW => ⟨⟨u, by rw [hR]; rfl, hg, by rw [ht]; exact hh.1, by rw [← e2]; exact hh.2.1⟩, by rw [← e2]; exact hh.2.2.1.F ht⟩) (by rw [← e2]; exact hh.2.2.1.2.2) hd)
  · exact absurd rfl h
theorem ct_V (own : String) (L0 : List (Nat × aV)) (hy : plainFor y = true) (ho : y.cls = own) (hl : (lg_sl (args.map cV)).length ≤ nL) (hL : aargs 0 args = L0)
    (body : ∀ x : Cx, xg x = g → (xM x).name = y.name → (∀ q, ro q → Ro x q) → RetV x cc own nL fr lo mc ms good R W2 → V x cc own nL (rmU fr lo mc ms) ws 0 L0 [] 0 0) : Ct g y cc nL none fr lo mc ms args ws ro good R W2 := by
  refine ct_of own L0 hy ho hl hL (fun x hg hr hk hn hQ hro => body x hg hn hro ?_)
  intro u ws' pc L k n hg hR hw h1 h2 hd ok H locs ls hh
  subst hw
  rcases hQ (xs x).heap.size with ⟨e1, e2⟩ | h
  · rw [e1]
    refine W.widen (k := mc) (n := ms) h1 h2 (W.vret ok.1 ok.2.1 hr (fun t ht hW => ⟨⟨u, by rw [hR]; rfl, hg, by rw [ht]; exact hh.1, by rw [← e2]; exact hh.2.1⟩, by rw [← e2]; exact hh.2.2.1.F ht⟩) (by rw [← e2]; exact hh.2.2.1.2.2) hd)
  · exact absurd rfl h
theorem ct_A (C : String) (own : String) (L0 : List (Nat × aV)) (hy : plainFor y = true) (ho : y.cls = own) (hl : (lg_sl (args.map cV)).length ≤ nL) (hL : aargs 0 args = L0)
    (body : ∀ x : Cx, xg x = g → (∀ q, ro q → Ro x q) → RetA x cc own nL fr lo mc ms good R W2 → V x cc own nL (rmU fr lo mc ms) ws 0 L0 [] 0 0) : Ct g y cc nL (some (.object C)) fr lo mc ms args ws ro good R W2 := by
  refine ct_of own L0 hy ho hl hL (fun x hg hr hk hn hQ hro => body x hg hro ?_)
  intro u o ws' pc L k n hg hR hw h1 h2 hd ok H locs ls hh
  subst hw
  rcases hQ (xs x).heap.size with ⟨e1, e2⟩ | h
  · rw [e1]
    have hv : cV (aq o) = .null ∨ ∃ a, cV (aq o) = .ref a := by
      cases o with
      | none => exact Or.inl rfl
      | some a => exact Or.inr ⟨a, rfl⟩
    refine W.widen (k := mc) (n := ms) h1 h2 (W.aret (v := cV (aq o)) ok.1 ok.2.1 hr (Or.inl ⟨C, rfl⟩) hv (fun t ht hW => ⟨⟨u, by rw [hR]; rfl, hg, by rw [ht]; exact hh.1, by rw [← e2]; exact hh.2.1⟩, by rw [← e2]; exact hh.2.2.1.F ht⟩) (by rw [← e2]; exact hh.2.2.1.2.2) hd)
  · exact absurd rfl h
end CTR
/-- a cell that a callee may read alone: it's read alone here, or one of ours that isn't handed over -/
def RoIn (x : Cx) (ws : aW) (isC : List Nat) (q : Nat × aC) : Prop := Ro x q ∨ ∃ i : Nat, ws[i]? = some q ∧ i ∉ isC
theorem at_places {α : Type} {ws wc : List α} {is : List Nat} (h : is.map (fun i => ws[i]?) = wc.map some) {k : Nat} {q : α} (hq : wc[k]? = some q) : ∃ i, is[k]? = some i ∧ ws[i]? = some q := by
  have h1 : (is.map (fun i => ws[i]?))[k]? = some (some q) := by rw [h, List.getElem?_map, hq]; rfl
  rw [List.getElem?_map] at h1
  cases hi : is[k]? with
  | none => rw [hi] at h1; cases h1
  | some i => rw [hi] at h1; exact ⟨i, rfl, Option.some.inj h1⟩
section CALLS
variable {x : Cx} {cc : ByteArray} {own : String} {nL : Nat} {rm : Room} {ws : aW} {pc : Nat} {L : List (Nat × aV)} {st : List aV} {k n : Nat}
variable {S : Type} {y : MethodName} {bytes : ByteArray} {maxL : Nat} {ret : Option FieldType} {fr lo mc ms : Nat} {wc wr : aW} {ro : Nat × aC → Prop} {good : S → Prop} {R : S → Option aV} {W2 : S → aW}
/-- behind a call -/
theorem v_after {H : Heap} {locs : List Loc} {ls : Array Slot} {rest : List aV} {a : Array Value} {g0 : List Value} (isC isR : List Nat)
    (hr : va_Run (xp x) (xl x) (xe x) rm (xs x) (xm x) (xa x) (xb x) (xM x) (xc x) H locs k n mc ms (F0 (xm x) pc ls g0) (rest.map cV) (aPost (xD x) (xC x) wc H.size good R W2 a) (va_A (cW (xC x) wc) H.size))
    (hh : Hd x nL ws L H locs ls) (ok : OK x cc own nL) (hC : isC.map (fun i => ws[i]?) = wc.map some) (hR : isR.map (fun i => ws[i]?) = wr.map some) (hn : va_nd isR = true) (hdis : ∀ i ∈ isR, i ∉ isC)
    (kk : ∀ u : S, good u → V x cc own nL rm (wr ++ W2 u) (pc + 3) L ((R u).toList ++ rest) (k + mc) (n + ms)) :
    W (xp x) (xl x) (xe x) rm (xs x) (xm x) (xa x) (xb x) (xM x) (xc x) H locs k n (xQ x) (F0 (xm x) pc ls g0) := by
  intro T hT X
  obtain ⟨v, st₀, t, T', L', h0, X', hL, e1, e2, ⟨⟨u, hv, hg, hb, hdd⟩, hz, hk⟩, st⟩ := hr T hT X
  rw [h0] at hz hk
  obtain ⟨hP, hD, hS, hl⟩ := hh
  have hF := va_free hD hS ok.2.2.2.2.2.2.2 isC (cW_places hC)
  obtain ⟨hP1, hD1⟩ := va_join (wr := cW (xC x) wr) (w1 := cW (xC x) (W2 u)) (H1 := T'.heap) hP hD isC isR (cW_places hC) (cW_places hR) hn hdis (fun q h1 h2 => by rw [e1]; exact hk q h1 h2) hF (by rw [e1]; exact hb) hdd
  rw [← cW_app] at hP1 hD1
  have hv2 : v = (R u).map cV := by cases hv; rfl
  obtain ⟨t2, a1, b1⟩ := kk u hg ok T'.heap (locs ++ L') ls ⟨hP1, hD1, ⟨Nat.le_trans hS.1 (by rw [e1]; exact hz), fun q h1 h2 => by rw [e1, hk q (Nat.lt_of_lt_of_le h1 hS.1) (fun z => h2 (hF q z))]; exact hS.2.1 q h1 h2, fun q hq => by
      rcases List.mem_append.mp hq with h | h
      · exact hS.2.2 q h
      · exact hF _ (hL q h)⟩, hl⟩ T' rfl X'
  have e3 : ((R u).toList ++ rest).map cV = v.toList ++ rest.map cV := by rw [hv2]; cases R u <;> rfl
  rw [e3] at a1
  exact ⟨t2, st t2 a1, b1⟩
/-- ahead of a call -/
theorem v_ahead {H : Heap} {locs : List Loc} {ls : Array Slot} {args : List aV} (isC : List Nat) (hh : Hd x nL ws L H locs ls) (ok : OK x cc own nL) (hC : isC.map (fun i => ws[i]?) = wc.map some) (hn : va_nd isC = true) (hro : ∀ q, ro q → RoIn x ws isC q) :
    ∀ U : State, U.heap = H → (xs x).WarmedH U.vm → aPre (xg x) (xD x) (xC x) args wc ro H.size (args.map cV).toArray U := by
  intro U hU hW
  obtain ⟨hP, hD, hS, hl⟩ := hh
  have hF := va_free hD hS ok.2.2.2.2.2.2.2 isC (cW_places hC)
  refine ⟨rfl, by rw [hU], fun j q hj => ?_, (hD.sub isC hn (cW_places hC)).weaken (fun _ _ _ _ => trivial), va_K.moved hW.alike ok.2.2.2.2.2.1, ok.2.2.2.2.2.2.1.go hW (fun a h1 h2 => by rw [hU]; exact hS.2.1 a h1 h2) hF, fun q hq => ?_⟩
  · obtain ⟨i, -, h2⟩ := at_places (cW_places (cA := xC x) hC) hj
    rw [hU]
    exact hP i q h2
  · rw [hU]
    rcases hro q hq with h | ⟨i, h1, h2⟩
    · exact ⟨h.1.kept (hS.2.1 _ h.1.lt h.2), fun z => h.2 (hF _ z)⟩
    · have g := cW_at (cA := xC x) h1
      refine ⟨hP i _ g, fun z => ?_⟩
      rcases z with ⟨k2, e, z⟩ | z
      · obtain ⟨j, h3, h4⟩ := at_places (cW_places (cA := xC x) hC) z
        have hij := hD.1 i j _ _ g h4 rfl
        subst hij
        exact h2 (List.mem_of_getElem? h3)
      · exact absurd (hP i _ g).lt (Nat.not_lt.mpr z)
theorem v_recv {H : Heap} {locs : List Loc} {ls : Array Slot} {b c : Nat} {fs : List aV} {r : vw_C} (hc : classes[c]? = some r) (hr : Rd x ws (b, co c fs)) (hh : Hd x nL ws L H locs ls) (ok : OK x cc own nL) : ∃ cell : Cell, H[b]? = some cell ∧ cell.vm.isStatics = false ∧ (xs x).vm.findClass r.1 = some cell.cls :=
  va_recv (q0 := 0) ok.2.2.2.2.2.1 (hr.at hh) hc rfl
theorem v_stk {rest As : List aV} {b : Nat} : (As.reverse ++ ar b :: rest).map cV = (As.map cV).reverse ++ Value.ref b :: rest.map cV := by
  rw [List.map_append, List.map_reverse]
  rfl
theorem v_sum (rest : List aV) : (rest.map cV).map (fun v => v.category) = rest.map aCat := by
  rw [List.map_map]
  exact List.map_congr_left fun v _ => aCat_eq v
/-- a method that is called on an object of its own class -/
theorem v_callV (isC isR : List Nat) (wr : aW) {b c i : Nat} {fs As rest : List aV} {r : vw_C} (hM : Ct (xg x) y bytes maxL ret fr lo mc ms (ar b :: As) wc ro good R W2) (hcl : classes[c]? = some r) (hr : Rd x ws (b, co c fs))
    (hlink : Cond.methodLink own i y ∈ BW) (hinst : Cond.instanceMethod y ∈ BW) (hsel : Cond.selects r.1 y y ∈ BW) (hcode : Cond.code y bytes maxL ret ∈ BW) (hini : Cond.initialized y.cls ∈ BW)
    (hd : y.cls ≠ "java/lang/invoke/MethodHandle" ∧ y.cls ≠ "java/lang/invoke/VarHandle" ∧ (parseMethodDescriptor y.desc).map (fun d => d.parameters.length) = some As.length)
    (hst : st = As.reverse ++ ar b :: rest) (hrest : (rest.map aCat).sum ≤ 8) (hroom : fr + 1 ≤ rm.frames ∧ 8 + (maxL + 11) + lo ≤ rm.locals ∧ k + mc ≤ rm.cells ∧ n + ms ≤ rm.slots)
    (hC : isC.map (fun i => ws[i]?) = wc.map some) (hR : isR.map (fun i => ws[i]?) = wr.map some) (hnC : va_nd isC = true) (hnR : va_nd isR = true) (hdis : ∀ i ∈ isR, i ∉ isC) (hro : ∀ q, ro q → RoIn x ws isC q)
    (hdec : decode cc pc = .ok (.invokevirtual i, 3))
    (kk : ∀ u : S, good u → V x cc own nL rm (wr ++ W2 u) (pc + 3) L ((R u).toList ++ rest) (k + mc) (n + ms)) : V x cc own nL rm ws pc L st k n := fun ok H locs ls hh => by
  subst hst
  have hts := ok.2.2.2.2.1
  refine v_after (a := ((ar b :: As).map cV).toArray) isC isR ?_ hh ok hC hR hnR hdis kk
  rw [v_stk]
  exact va_runV (As := As.map cV) (rest := rest.map cV) (n := As.length) (C := r.1) ⟨ok.1, ok.2.1, ok.2.2.1, ok.2.2.2.1, hts⟩ (hM (xl x) (xD x) (xC x) H.size)
    ⟨callB_of As.length hts (wU_good (fun _ h => h) hcode) rfl rfl rfl (hts _ hini) (hts _ hlink) hd ⟨hroom.1, hroom.2.1⟩, hts _ hinst, hts _ hsel⟩
    ⟨aPre_blind, v_recv hcl hr hh ok, fun U hU hW => v_ahead (args := ar b :: As) isC hh ok hC hnC hro U hU hW⟩ rfl (by simp) hh.2.2.2.1 rfl (lv_room (by rw [v_sum]; exact hrest)) hdec ⟨hroom.2.2.1, hroom.2.2.2⟩
theorem v_callS (isC isR : List Nat) (wr : aW) {i : Nat} {As rest : List aV} (hM : Ct (xg x) y bytes maxL ret fr lo mc ms As wc ro good R W2)
    (hlink : Cond.methodLink own i y ∈ BW) (hstat : Cond.static y ∈ BW) (hcode : Cond.code y bytes maxL ret ∈ BW) (hini : Cond.initialized y.cls ∈ BW)
    (hd : y.cls ≠ "java/lang/invoke/MethodHandle" ∧ y.cls ≠ "java/lang/invoke/VarHandle" ∧ (parseMethodDescriptor y.desc).map (fun d => d.parameters.length) = some As.length)
    (hst : st = As.reverse ++ rest) (hrest : (rest.map aCat).sum ≤ 8) (hroom : fr + 1 ≤ rm.frames ∧ 8 + (maxL + 11) + lo ≤ rm.locals ∧ k + mc ≤ rm.cells ∧ n + ms ≤ rm.slots)
    (hC : isC.map (fun i => ws[i]?) = wc.map some) (hR : isR.map (fun i => ws[i]?) = wr.map some) (hnC : va_nd isC = true) (hnR : va_nd isR = true) (hdis : ∀ i ∈ isR, i ∉ isC) (hro : ∀ q, ro q → RoIn x ws isC q)
    (hdec : decode cc pc = .ok (.invokestatic i, 3))
    (kk : ∀ u : S, good u → V x cc own nL rm (wr ++ W2 u) (pc + 3) L ((R u).toList ++ rest) (k + mc) (n + ms)) : V x cc own nL rm ws pc L st k n := fun ok H locs ls hh => by
  subst hst
  have hts := ok.2.2.2.2.1
  refine v_after (a := (As.map cV).toArray) isC isR ?_ hh ok hC hR hnR hdis kk
  rw [List.map_append, List.map_reverse]
  exact va_runS (As := As.map cV) (rest := rest.map cV) (n := As.length) ⟨ok.1, ok.2.1, ok.2.2.1, ok.2.2.2.1, hts⟩ (hM (xl x) (xD x) (xC x) H.size)
    ⟨callB_of As.length hts (wU_good (fun _ h => h) hcode) rfl rfl rfl (hts _ hini) (hts _ hlink) hd ⟨hroom.1, hroom.2.1⟩, hts _ hstat⟩
    ⟨aPre_blind, fun U hU hW => v_ahead (args := As) isC hh ok hC hnC hro U hU hW⟩ rfl (by simp) hh.2.2.2.1 rfl (lv_room (by rw [v_sum]; exact hrest)) hdec ⟨hroom.2.2.1, hroom.2.2.2⟩
theorem v_callI (isC isR : List Nat) (wr : aW) {b i : Nat} {As rest : List aV} (hM : Ct (xg x) y bytes maxL none fr lo mc ms (ar b :: As) wc ro good R W2)
    (hlink : Cond.methodLink own i y ∈ BW) (hinst : Cond.instanceMethod y ∈ BW) (hcode : Cond.code y bytes maxL none ∈ BW) (hini : Cond.initialized y.cls ∈ BW) (hy : y.name = "<init>")
    (hd : y.cls ≠ "java/lang/invoke/MethodHandle" ∧ y.cls ≠ "java/lang/invoke/VarHandle" ∧ (parseMethodDescriptor y.desc).map (fun d => d.parameters.length) = some As.length)
    (hst : st = As.reverse ++ ar b :: rest) (hrest : (rest.map aCat).sum ≤ 8) (hroom : fr + 1 ≤ rm.frames ∧ 8 + (maxL + 11) + lo ≤ rm.locals ∧ k + mc ≤ rm.cells ∧ n + ms ≤ rm.slots)
    (hC : isC.map (fun i => ws[i]?) = wc.map some) (hR : isR.map (fun i => ws[i]?) = wr.map some) (hnC : va_nd isC = true) (hnR : va_nd isR = true) (hdis : ∀ i ∈ isR, i ∉ isC) (hro : ∀ q, ro q → RoIn x ws isC q)
    (hdec : decode cc pc = .ok (.invokespecial i, 3))
    (kk : ∀ u : S, good u → V x cc own nL rm (wr ++ W2 u) (pc + 3) L ((R u).toList ++ rest) (k + mc) (n + ms)) : V x cc own nL rm ws pc L st k n := fun ok H locs ls hh => by
  subst hst
  have hts := ok.2.2.2.2.1
  refine v_after (a := ((ar b :: As).map cV).toArray) isC isR ?_ hh ok hC hR hnR hdis kk
  rw [v_stk]
  exact va_runI (As := As.map cV) (rest := rest.map cV) (n := As.length) ⟨ok.1, ok.2.1, ok.2.2.1, ok.2.2.2.1, hts⟩ (hM (xl x) (xD x) (xC x) H.size)
    ⟨callB_of As.length hts (wU_good (fun _ h => h) hcode) rfl rfl rfl (hts _ hini) (hts _ hlink) hd ⟨hroom.1, hroom.2.1⟩, hy, hts _ hinst⟩
    ⟨aPre_blind, fun U hU hW => v_ahead (args := ar b :: As) isC hh ok hC hnC hro U hU hW⟩ rfl (by simp) hh.2.2.2.1 rfl (lv_room (by rw [v_sum]; exact hrest)) hdec ⟨hroom.2.2.1, hroom.2.2.2⟩
theorem v_widen {k2 n2 : Nat} (h1 : k ≤ k2) (h2 : n ≤ n2) (kk : V x cc own nL rm ws pc L st k2 n2) : V x cc own nL rm ws pc L st k n := fun ok H locs ls hh => W.widen h1 h2 (kk ok H locs ls hh)
end CALLS
