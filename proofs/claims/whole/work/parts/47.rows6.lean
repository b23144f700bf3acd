/-! ===== calls that a player's kind decides; super calls, also of what the superclass only inherits ===== -/
theorem sub_up {vm : Vm} {s t : ClassId} {k : Class} (h : vm.classes[s]? = some k) (hs : k.super = some t) : vm.isSubclass s t = true := by
  have hp : 0 < vm.classes.size := by
    have := (Array.getElem?_eq_some_iff.mp h).1
    omega
  obtain ⟨n, hn⟩ : ∃ n, vm.classes.size = n + 1 := ⟨vm.classes.size - 1, by omega⟩
  unfold Vm.isSubclass
  rw [hn]
  simp [Vm.isSubclassAux, h, hs]
section SUPS
variable {p : Program} {l : Launch} {e : Env} {R : Room} {s : State} {m : MethodId} {args : Array Value} {below : List Frame} {meth : Method} {c : Code}
theorem w_callSU {T : State} {locs : List Loc} {cells slots : Nat} (X : Stand p l e R s m args below meth c T locs cells slots) (hexec : p.tables.exec = Jvm.exec) {own : String} {index : Nat} {x y : MethodName} {bytes : ByteArray} {maxL : Nat} {ret : Option FieldType}
    (hown : s.vm.findClass own = some m.cls) (hlink : (Cond.methodLink own index x).before args s = true) (hsame : (Cond.sameMethod x.cls y.cls x.name x.desc).before args s = true) (hsup : (Cond.superclass own x.cls).before args s = true) (hup : x.cls = y.cls ∨ (Cond.superclass x.cls y.cls).before args s = true) (hxy : y = ⟨y.cls, x.name, x.desc⟩)
    (hinst : (Cond.instanceMethod y).before args s = true) (hcode : (Cond.code y bytes maxL ret).before args s = true) (hno : x.name ≠ "<init>")
    {W : Nat} {Pre : Pt → Array Value → Prop} {Post : Pt → Array Value → Option Value → Pt → Prop} (hK : Back l R p e below s args y 3 W Pre Post)
    {b : Addr} {cellB : Cell} {kB : Class} (hcell : T.heap[b]? = some cellB) (hobj : cellB.vm.isStatics = false) (hkB : s.vm.classes[cellB.cls]? = some kB)
    {g : JFrame} (hg : g.method = m) (hsize : g.locals.size = c.maxLocals) {argsL rest : List Value} (hlen : ∀ sig, parseMethodDescriptor y.desc = some sig → argsL.length = sig.parameters.length)
    (hstack : g.stack = argsL.reverse ++ .ref b :: rest) (hW : 2 * g.monitorRoom + (rest.map fun v => v.category).sum ≤ W) (hdg : decode c.code g.pc = .ok (.invokespecial index, 3))
    (hpre : ∀ vm₁, s.WarmedH vm₁ → Pre ⟨T.setVm vm₁, locs, cells, slots⟩ (Value.ref b :: argsL).toArray) :
    ∃ (v : Option Value) (vm₁ : Vm) (B : Pt), s.WarmedH vm₁ ∧ Stand p l e R s m args below meth c B.U B.locs B.cells B.slots ∧ Post ⟨T.setVm vm₁, locs, cells, slots⟩ (Value.ref b :: argsL).toArray v B ∧
      ∀ target, Steps p.tables e below (B.U.setTop { g with pc := g.pc + 3, stack := v.toList ++ rest }) target → Steps p.tables e below (T.setTop g) target := by
  obtain ⟨mk, methM, hnamed, hmethM, hstM, habM⟩ := Cond.instanceMethod_spec hinst
  obtain ⟨methM', cM, hmethM', -, -, -, -, -, -, hsigM⟩ := Cond.code_spec hnamed hcode
  cases hmethM.symm.trans hmethM'
  obtain ⟨ps, dk, kp, hps, hdk, hkp, hsuper, -, -, hnid⟩ := Cond.superclass_spec hown hsup
  have hn : s.methodNamed? ⟨y.cls, x.name, x.desc⟩ = some mk := by rw [← hxy]; exact hnamed
  have hmy := findClass_of_methodNamed hnamed
  have hsub : s.vm.isSubclass ps mk.cls = true := by
    rcases hup with q | q
    · rw [q] at hps
      have hpm : ps = mk.cls := Option.some.inj (hps.symm.trans hmy)
      rw [hpm]
      simp [Vm.isSubclass, Vm.isSubclassAux]
    · obtain ⟨ps2, dk2, kp2, hps2, hdk2, -, hsuper2, -⟩ := Cond.superclass_spec hps q
      have hpm : ps2 = mk.cls := Option.some.inj (hps2.symm.trans hmy)
      rw [← hpm]
      exact sub_up hdk2 hsuper2
  obtain ⟨vm₁, X₁, hstep₁⟩ := X.invokespecialUp hexec hown hlink hsame hn hmethM hstM habM hno hdk hnid hps hsuper hsub (a := b) (cell := cellB) hcell
    (fun z h => by rw [h] at hobj; cases hobj) hkB (g := g) hg (argsL := argsL) (rest := rest) (hlen _ hsigM) hstack hdg
  obtain ⟨v, B, X', hpost, hsteps⟩ := hK m meth c ⟨T.setVm vm₁, locs, cells, slots⟩ { g with stack := rest } (.invokespecial index) mk (Value.ref b :: argsL).toArray X₁ hg hsize hdg hW (X₁.named hnamed) (hpre vm₁ X₁.warmed)
  exact ⟨v, vm₁, B, X₁.warmed, X', hpost, fun target h => hstep₁ _ (by rw [doInvoke_state]; exact hsteps.trans h)⟩
end SUPS
section KINDS
variable {x : Cx} {cc : ByteArray} {own : String} {nL : Nat} {rm : Room} {ws : aW} {pc : Nat} {L : List (Nat × aV)} {st : List aV} {k n : Nat}
variable {S : Type} {z y : MethodName} {bytes : ByteArray} {maxL : Nat} {ret : Option FieldType} {fr lo mc ms : Nat} {wc wr : aW} {ro : Nat × aC → Prop} {good : S → Prop} {R : S → Option aV} {W2 : S → aW}
/-- a method by the name z of the class `owner`, that in the receiver's class is y -/
theorem v_callU (isC isR : List Nat) (wr : aW) {b c i : Nat} {fs As rest : List aV} {r : vw_C} {owner : String} (hM : Ct (xg x) y bytes maxL ret fr lo mc ms (ar b :: As) wc ro good R W2) (hcl : classes[c]? = some r) (hr : Rd x ws (b, co c fs))
    (hlink : Cond.methodLink own i z ∈ BW) (hsame : Cond.sameMethod z.cls owner z.name z.desc ∈ BW) {b0 : ByteArray} {m0 : Nat} {r0 : Option FieldType} (hin0 : Cond.instanceMethod ⟨owner, z.name, z.desc⟩ ∈ BW) (h0 : Cond.code ⟨owner, z.name, z.desc⟩ b0 m0 r0 ∈ BW)
    (hsel : Cond.selects r.1 z y ∈ BW) (hinst : Cond.instanceMethod y ∈ BW) (hcode : Cond.code y bytes maxL ret ∈ BW) (hini : Cond.initialized y.cls ∈ BW)
    (hd : owner ≠ "java/lang/invoke/MethodHandle" ∧ owner ≠ "java/lang/invoke/VarHandle" ∧ (parseMethodDescriptor z.desc).map (fun d => d.parameters.length) = some As.length)
    (hst : st = As.reverse ++ ar b :: rest) (hrest : (rest.map aCat).sum ≤ 8) (hroom : fr + 1 ≤ rm.frames ∧ 8 + (maxL + 11) + lo ≤ rm.locals ∧ k + mc ≤ rm.cells ∧ n + ms ≤ rm.slots)
    (hC : isC.map (fun i => ws[i]?) = wc.map some) (hR : isR.map (fun i => ws[i]?) = wr.map some) (hnC : va_nd isC = true) (hnR : va_nd isR = true) (hdis : ∀ i ∈ isR, i ∉ isC) (hro : ∀ q, ro q → RoIn x ws isC q)
    (hdec : decode cc pc = .ok (.invokevirtual i, 3))
    (kk : ∀ u : S, good u → V x cc own nL rm (wr ++ W2 u) (pc + 3) L ((R u).toList ++ rest) (k + mc) (n + ms)) : V x cc own nL rm ws pc L st k n := fun ok H locs ls hh => by
  subst hst
  have hts := ok.2.2.2.2.1
  refine v_after (a := ((ar b :: As).map cV).toArray) isC isR ?_ hh ok hC hR hnR hdis kk
  rw [v_stk]
  have hG := wU_good (fun _ h => h) hcode
  exact va_runU (As := As.map cV) (rest := rest.map cV) (n := As.length) (C := r.1) (owner := owner) (x := z) ⟨ok.1, ok.2.1, ok.2.2.1, ok.2.2.2.1, hts⟩ (hM (xl x) (xD x) (xC x) H.size)
    ⟨⟨rfl, rfl, hroom.1, hroom.2.1, pay_in hts hG, List.mem_cons_self⟩, hts _ hcode, hts _ hini, ⟨hd.1, hd.2.1⟩, fun sig h => by have h2 := hd.2.2; rw [h] at h2; exact (Option.some.inj h2).symm, hts _ hlink, hts _ hsame, va_Decl.of (hts _ hin0) (hts _ h0), hts _ hsel, hts _ hinst⟩
    ⟨aPre_blind, v_recv hcl hr hh ok, fun U hU hW => v_ahead (args := ar b :: As) isC hh ok hC hnC hro U hU hW⟩ rfl (by simp) hh.2.2.2.1 rfl (lv_room (by rw [v_sum]; exact hrest)) hdec ⟨hroom.2.2.1, hroom.2.2.2⟩
theorem v_callSU (isC isR : List Nat) (wr : aW) {b c i : Nat} {fs As rest : List aV} {r : vw_C} {sup0 : String} (hM : Ct (xg x) y bytes maxL ret fr lo mc ms (ar b :: As) wc ro good R W2) (hcl : classes[c]? = some r) (hsc : Cond.superclass r.1 sup0 ∈ BW) (hr : Rd x ws (b, co c fs))
    (hlink : Cond.methodLink own i z ∈ BW) (hsame : Cond.sameMethod z.cls y.cls z.name z.desc ∈ BW) (hsup : Cond.superclass own z.cls ∈ BW) (hup : z.cls = y.cls ∨ Cond.superclass z.cls y.cls ∈ BW) (hzy : y = ⟨y.cls, z.name, z.desc⟩)
    (hinst : Cond.instanceMethod y ∈ BW) (hcode : Cond.code y bytes maxL ret ∈ BW) (hini : Cond.initialized y.cls ∈ BW)
    (hd : z.name ≠ "<init>" ∧ (parseMethodDescriptor y.desc).map (fun d => d.parameters.length) = some As.length)
    (hst : st = As.reverse ++ ar b :: rest) (hrest : (rest.map aCat).sum ≤ 8) (hroom : fr + 1 ≤ rm.frames ∧ 8 + (maxL + 11) + lo ≤ rm.locals ∧ k + mc ≤ rm.cells ∧ n + ms ≤ rm.slots)
    (hC : isC.map (fun i => ws[i]?) = wc.map some) (hR : isR.map (fun i => ws[i]?) = wr.map some) (hnC : va_nd isC = true) (hnR : va_nd isR = true) (hdis : ∀ i ∈ isR, i ∉ isC) (hro : ∀ q, ro q → RoIn x ws isC q)
    (hdec : decode cc pc = .ok (.invokespecial i, 3))
    (kk : ∀ u : S, good u → V x cc own nL rm (wr ++ W2 u) (pc + 3) L ((R u).toList ++ rest) (k + mc) (n + ms)) : V x cc own nL rm ws pc L st k n := fun ok H locs ls hh => by
  subst hst
  have hts := ok.2.2.2.2.1
  refine v_after (a := ((ar b :: As).map cV).toArray) isC isR ?_ hh ok hC hR hnR hdis kk
  rw [v_stk]
  have hG := wU_good (fun _ h => h) hcode
  have hK : Back (xl x) rm (xp x) (xe x) (xb x) (xs x) (xa x) y 3 8 (PreOf rm mc ms (aPre (xg x) (xD x) (xC x) (ar b :: As) wc ro H.size)) (PostOf (aPost (xD x) (xC x) wc H.size good R W2) mc ms (va_A (cW (xC x) wc) H.size)) := back_of (bytes := bytes) (maxL := maxL) (ret := ret) (hM (xl x) (xD x) (xC x) H.size) aPre_blind rfl rfl hroom.1 hroom.2.1 (pay_in hts hG) List.mem_cons_self (fun a' U hW => word_at hW (Or.inl (by first | rfl | simp [Cond.onTables, Cond.keeps, Cond.steady])) (hts _ hini))
  obtain ⟨cellB, hcB, hoB, hclB⟩ := v_recv hcl hr hh ok
  obtain ⟨-, kB, -, -, hkB, -⟩ := Cond.superclass_spec hclB (hts _ hsc)
  intro T hT X
  obtain ⟨v, vm₁, ⟨U', l2, c2, s2⟩, hW₁, X', ⟨g', mk, t, L', e1, e2, hq, h1, hL, h2, h3⟩, st⟩ := w_callSU X ok.1 (bytes := bytes) (maxL := maxL) (ret := ret) ok.2.2.2.1 (hts _ hlink) (hts _ hsame) (hts _ hsup) (hup.imp id (hts _)) hzy (hts _ hinst) (hts _ hcode) hd.1 hK (by rw [hT]; exact hcB) hoB hkB (g := F0 (xm x) pc ls ((As.map cV).reverse ++ Value.ref b :: rest.map cV)) rfl (hh.2.2.2.1.trans ok.2.2.1.symm) (argsL := As.map cV) (rest := rest.map cV) (fun sig h => by have h2 := hd.2; rw [h] at h2; rw [List.length_map]; exact (Option.some.inj h2).symm) rfl (lv_room (by rw [v_sum]; exact hrest)) (by rw [ok.2.1]; exact hdec)
    (fun vm₁ hW₁ => ⟨hroom.2.2.1, hroom.2.2.2, v_ahead (args := ar b :: As) isC hh ok hC hnC hro (T.setVm vm₁) hT hW₁⟩)
  dsimp only [Pt.U, Pt.locs, Pt.cells, Pt.slots] at X' e1 e2 h1 h2 h3 st
  subst h1; subst h2; subst h3
  exact ⟨v, (T.setVm vm₁).calling g' mk (Value.ref b :: As.map cV).toArray, t, U', L', hT, X', hL, e1, e2, hq, st⟩
end KINDS
