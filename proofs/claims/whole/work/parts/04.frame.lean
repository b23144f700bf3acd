/-! ===== the abstract machine: values and cells over Int; V: the machine at a place of a method, its heap and locals hidden ===== -/
abbrev aV : Type := Int ⊕ (Int ⊕ Option Nat)
abbrev ai (z : Int) : aV := .inl z
abbrev al (z : Int) : aV := .inr (.inl z)
abbrev aq (o : Option Nat) : aV := .inr (.inr o)
abbrev ar (a : Nat) : aV := .inr (.inr (some a))
abbrev an : aV := .inr (.inr none)
def cV (v : aV) : Value := match v with
  | .inl z => .int (Int32.ofInt z)
  | .inr (.inl z) => .long (Int64.ofInt z)
  | .inr (.inr o) => va_rf o
theorem cV_i (z : Int) : cV (ai z) = .int (Int32.ofInt z) := rfl
theorem cV_l (z : Int) : cV (al z) = .long (Int64.ofInt z) := rfl
theorem cV_r (a : Nat) : cV (ar a) = .ref a := rfl
theorem cV_n : cV an = .null := rfl
def aCat (v : aV) : Nat := match v with
  | .inr (.inl _) => 2
  | _ => 1
theorem aCat_eq (v : aV) : (cV v).category = aCat v := by
  rcases v with z | z | (_ | a) <;> rfl
/-- a cell: an object of a class, an array of ints (kind 0) or booleans (1), an array of references (kinds 2, 3) -/
abbrev aC : Type := (Nat × List aV) ⊕ ((Nat × Nat × (Int → Int)) ⊕ (Nat × Nat × (Int → Option Nat)))
abbrev co (c : Nat) (fs : List aV) : aC := .inl (c, fs)
abbrev cn (t n : Nat) (f : Int → Int) : aC := .inr (.inl (t, n, f))
abbrev cq (t n : Nat) (f : Int → Option Nat) : aC := .inr (.inr (t, n, f))
def cE (cA : Nat → ClassId) (x : aC) : va_E := match x with
  | .inl o => .inr (o.1, o.2.map cV)
  | .inr (.inl a) => .inl (cA a.1, a.2.1, .inl (fun k => Int32.ofInt (a.2.2 (k : Int))))
  | .inr (.inr a) => .inl (cA a.1, a.2.1, .inr (.inr (.inr (.inr (fun k => a.2.2 (k : Int))))))
abbrev aW : Type := List (Nat × aC)
def cQ (cA : Nat → ClassId) (q : Nat × aC) : Nat × va_E := (q.1, cE cA q.2)
def cW (cA : Nat → ClassId) (ws : aW) : va_W := ws.map (cQ cA)
def cL (L : List (Nat × aV)) : List (Nat × Value) := L.map (fun q => (q.1, cV q.2))
theorem cW_at {cA : Nat → ClassId} {ws : aW} {i : Nat} {q : Nat × aC} (h : ws[i]? = some q) : (cW cA ws)[i]? = some (cQ cA q) := by
  unfold cW
  rw [List.getElem?_map, h]
  rfl
theorem cW_inv {cA : Nat → ClassId} {ws : aW} {i : Nat} {q : Nat × va_E} (h : (cW cA ws)[i]? = some q) : ∃ p, ws[i]? = some p ∧ q = cQ cA p := by
  unfold cW at h
  rw [List.getElem?_map] at h
  cases hw : ws[i]? with
  | none => rw [hw] at h; cases h
  | some p => rw [hw] at h; exact ⟨p, rfl, (Option.some.inj h).symm⟩
theorem cW_set {cA : Nat → ClassId} {ws : aW} {i : Nat} {q : Nat × aC} : (cW cA ws).set i (cQ cA q) = cW cA (ws.set i q) := by
  unfold cW
  rw [List.map_set]
theorem cW_app {cA : Nat → ClassId} {a b : aW} : cW cA (a ++ b) = cW cA a ++ cW cA b := List.map_append
theorem cW_places {cA : Nat → ClassId} {ws wc : aW} {is : List Nat} (h : is.map (fun i => ws[i]?) = wc.map some) : is.map (fun i => (cW cA ws)[i]?) = (cW cA wc).map some := by
  have e : is.map (fun i => (cW cA ws)[i]?) = (is.map (fun i => ws[i]?)).map (fun o => o.map (cQ cA)) := by
    rw [List.map_map]
    refine List.map_congr_left fun i _ => ?_
    unfold cW
    rw [List.getElem?_map]
    rfl
  rw [e, h]
  unfold cW
  rw [List.map_map, List.map_map]
  rfl
theorem cL_at {L : List (Nat × aV)} {j i : Nat} {v : aV} (h : L[j]? = some (i, v)) : (cL L)[j]? = some (i, cV v) := by
  unfold cL
  rw [List.getElem?_map, h]
  rfl
def tysL (cA : Nat → ClassId) : List (ClassId × FieldType) := [(cA 0, .int), (cA 1, .boolean), (cA 2, .object RX3), (cA 3, .object RX5)]
/-- String constants by their places: lengths, bytes; which entry of which class is which -/
def lenK : List Nat := [4, 4, 3, 4, 4, 1, 1, 6, 3, 5, 4, 5, 5]
def bytK : List (List Int32) := [[119, 112, 115, 103], [105, 100, 101, 32], [97, 121, 32], [108, 105, 112, 32], [108, 117, 101, 32], [32], [41], [112, 107, 110, 103, 115, 121], [60, 61, 62], [119, 105, 100, 101, 32], [112, 97, 121, 32], [115, 108, 105, 112, 32], [103, 108, 117, 101, 32]]
def litK : List (String × Nat × String × Nat) := [("MatFlip$Reader", 48, "wpsg", 0), ("MatFlip$Reader", 54, "ide ", 1), ("MatFlip$Reader", 56, "ay ", 2), ("MatFlip$Reader", 58, "lip ", 3), ("MatFlip$Reader", 60, "lue ", 4), ("MatFlip$Reader", 76, " ", 5), ("MatFlip$Reader", 94, ")", 6), ("MatFlip$Reader", 96, "pkngsy", 7), ("MatFlip$Reader", 98, "<=>", 8), ("MatFlipModel", 105, "wide ", 9), ("MatFlipModel", 111, "pay ", 10), ("MatFlipModel", 113, "slip ", 11), ("MatFlipModel", 87, "pkngsy", 7), ("MatFlipModel", 93, "<=>", 8), ("MatFlipModel", 118, "glue ", 12)]
/-- links to a nest mate's constructor; casts that go, casts that don't -/
def nwM : List (String × Nat × MethodName) := [("MatFlip", 11, ⟨"MatFlip$World", "<init>", "()V"⟩), ("MatFlip$World", 45, ⟨"MatFlip$Inn", "<init>", "()V"⟩), ("MatFlip", 23, ⟨"MatFlip$Pile", "<init>", "()V"⟩), ("MatFlip$Reader", 11, ⟨"MatFlip$Inn", "<init>", "()V"⟩)]
def cstP : List (String × String) := [("MatFlip$Calm", "MatFlip$Sure"), ("MatFlip$Calm", "MatFlip$Player"), ("MatFlip$Drunk", "MatFlip$Bold"), ("MatFlip$Drunk", "MatFlip$Player"), ("MatFlip$Told", "MatFlip$Slack"), ("MatFlip$Told", "MatFlip$Player"), ("MatFlip$Sure", "MatFlip$Player"), ("MatFlip$Bold", "MatFlip$Player"), ("MatFlip$Slack", "MatFlip$Player")]
def cstN : List (String × String) := [("MatFlip$Bold", "MatFlip$Sure"), ("MatFlip$Slack", "MatFlip$Sure"), ("MatFlip$Drunk", "MatFlip$Sure"), ("MatFlip$Told", "MatFlip$Sure"), ("MatFlip$Player", "MatFlip$Sure"), ("MatFlip$Sure", "MatFlip$Bold"), ("MatFlip$Slack", "MatFlip$Bold"), ("MatFlip$Calm", "MatFlip$Bold"), ("MatFlip$Told", "MatFlip$Bold"), ("MatFlip$Player", "MatFlip$Bold"), ("MatFlip$Sure", "MatFlip$Slack"), ("MatFlip$Bold", "MatFlip$Slack"), ("MatFlip$Calm", "MatFlip$Slack"), ("MatFlip$Drunk", "MatFlip$Slack"), ("MatFlip$Player", "MatFlip$Slack"), ("MatFlip$Sure", "MatFlip$Calm"), ("MatFlip$Bold", "MatFlip$Calm"), ("MatFlip$Slack", "MatFlip$Calm"), ("MatFlip$Drunk", "MatFlip$Calm"), ("MatFlip$Told", "MatFlip$Calm"), ("MatFlip$Player", "MatFlip$Calm"), ("MatFlip$Sure", "MatFlip$Drunk"), ("MatFlip$Bold", "MatFlip$Drunk"), ("MatFlip$Slack", "MatFlip$Drunk"), ("MatFlip$Calm", "MatFlip$Drunk"), ("MatFlip$Told", "MatFlip$Drunk"), ("MatFlip$Player", "MatFlip$Drunk"), ("MatFlip$Sure", "MatFlip$Told"), ("MatFlip$Bold", "MatFlip$Told"), ("MatFlip$Slack", "MatFlip$Told"), ("MatFlip$Calm", "MatFlip$Told"), ("MatFlip$Drunk", "MatFlip$Told"), ("MatFlip$Player", "MatFlip$Told")]
/-- addresses of the constants and of their rows of bytes; the formatter -/
abbrev sG : Type := (Nat → Nat) × (Nat → Nat) × Option Nat
abbrev lK (g : sG) (i : Nat) : Nat := g.1 i
abbrev tK (g : sG) (i : Nat) : Nat := g.2.1 i
/-- the machine's fixed things at a method: program, launch, environment, start state, method, arguments, what is below, its code, where it goes, what it may write, the classes' numbers, the array classes -/
abbrev Cx : Type := Program × Launch × Env × State × MethodId × Array Value × List Frame × Method × Code × (State → Prop) × (Nat → Prop) × va_G × (Nat → ClassId) × sG
abbrev xp (x : Cx) : Program := x.1
abbrev xl (x : Cx) : Launch := x.2.1
abbrev xe (x : Cx) : Env := x.2.2.1
abbrev xs (x : Cx) : State := x.2.2.2.1
abbrev xm (x : Cx) : MethodId := x.2.2.2.2.1
abbrev xa (x : Cx) : Array Value := x.2.2.2.2.2.1
abbrev xb (x : Cx) : List Frame := x.2.2.2.2.2.2.1
abbrev xM (x : Cx) : Method := x.2.2.2.2.2.2.2.1
abbrev xc (x : Cx) : Code := x.2.2.2.2.2.2.2.2.1
abbrev xQ (x : Cx) : State → Prop := x.2.2.2.2.2.2.2.2.2.1
abbrev xA (x : Cx) : Nat → Prop := x.2.2.2.2.2.2.2.2.2.2.1
abbrev xD (x : Cx) : va_G := x.2.2.2.2.2.2.2.2.2.2.2.1
abbrev xC (x : Cx) : Nat → ClassId := x.2.2.2.2.2.2.2.2.2.2.2.2.1
abbrev xg (x : Cx) : sG := x.2.2.2.2.2.2.2.2.2.2.2.2.2
/-- what is known beside the words of BW: array classes, String constants, statics, a nest's links, casts -/
def sW (g : sG) (A : Nat → Prop) (U : State) (H : Heap) : Prop :=
  (va_AO RX3 U ∧ va_AO RX5 U) ∧ vk_S 13 lenK bytK g.1 g.2.1 A U H ∧ (∀ q ∈ litK, vk_R q.1 q.2.1 q.2.2.1 (g.1 q.2.2.2) U) ∧ va_Z "java/lang/String" "COMPACT_STRINGS" "Z" (.int 1) A U H ∧ va_Z "jdk/internal/util/Preconditions" "SIOOBE_FORMATTER" "Ljava/util/function/BiFunction;" (va_rf g.2.2) A U H ∧ (∀ q ∈ nwM, va_Nw (.methodLinkNest q.1 q.2.1 q.2.2 "MatFlip") U) ∧ (∀ q ∈ cstP, va_Nw (.castable q.1 q.2) U) ∧ ∀ q ∈ cstN, va_Nc q.1 q.2 U
theorem sW.go {g : sG} {A B : Nat → Prop} {s U : State} {H0 H : Heap} (hW : s.WarmedH U.vm) (hk : ∀ a : Nat, a < H0.size → ¬ A a → H[a]? = H0[a]?) (hAB : ∀ q, B q → A q) (h : sW g A s H0) : sW g B U H := by
  obtain ⟨⟨h1, h2⟩, h3, h4, h5, h6, h7, h8, h9⟩ := h
  exact ⟨⟨h1.moved hW.alike, h2.moved hW.alike⟩, ((h3.moved hW.alike).kept hk).narrow hAB, fun q hq => (h4 q hq).warm hW, ((h5.moved hW.alike).kept hk).narrow hAB, ((h6.moved hW.alike).kept hk).narrow hAB, fun q hq => (h7 q hq).warmM hW, fun q hq => (h8 q hq).warmC hW, fun q hq => (h9 q hq).moved hW.alike⟩
theorem sW.same {g : sG} {A : Nat → Prop} {s U : State} {H : Heap} (hv : U.vm = s.vm) (h : sW g A s H) : sW g A U H := by
  obtain ⟨⟨h1, h2⟩, h3, h4, h5, h6, h7, h8, h9⟩ := h
  have ha : s.vm.Alike U.vm := hv ▸ Vm.Alike.refl _
  exact ⟨⟨h1.moved ha, h2.moved ha⟩, h3.moved ha, fun q hq => (h4 q hq).same hv, h5.moved ha, h6.moved ha, fun q hq => (h7 q hq).same rfl hv.symm, fun q hq => (h8 q hq).same rfl hv.symm, fun q hq => (h9 q hq).moved ha⟩
def OK (x : Cx) (cc : ByteArray) (own : String) (nL : Nat) : Prop :=
  (xp x).tables.exec = Jvm.exec ∧ (xc x).code = cc ∧ (xc x).maxLocals = nL ∧ (xs x).vm.findClass own = some (xm x).cls ∧ (∀ w ∈ BW, w.before (xa x) (xs x) = true) ∧ va_K (xD x) classes (tysL (xC x)) (xs x) ∧ sW (xg x) (xA x) (xs x) (xs x).heap ∧ (∀ q, (xs x).heap.size ≤ q → xA x q)
/-- what the heap, the writes and the locals are at a place -/
def Hd (x : Cx) (nL : Nat) (ws : aW) (L : List (Nat × aV)) (H : Heap) (locs : List Loc) (ls : Array Slot) : Prop :=
  va_P (xD x) classes (cW (xC x) ws) H ∧ va_D (xA x) (cW (xC x) ws) ∧ va_S (xA x) (xs x).heap H locs ∧ lv_has ls nL (cL L)
def V (x : Cx) (cc : ByteArray) (own : String) (nL : Nat) (rm : Room) (ws : aW) (pc : Nat) (L : List (Nat × aV)) (st : List aV) (k n : Nat) : Prop :=
  OK x cc own nL → ∀ (H : Heap) (locs : List Loc) (ls : Array Slot), Hd x nL ws L H locs ls → W (xp x) (xl x) (xe x) rm (xs x) (xm x) (xa x) (xb x) (xM x) (xc x) H locs k n (xQ x) (F0 (xm x) pc ls (st.map cV))
/-- a cell that is read alone -/
def Ro (x : Cx) (q : Nat × aC) : Prop := va_at (xD x) classes (cQ (xC x) q) (xs x).heap ∧ ¬ xA x q.1
/-- a cell that can be read -/
def Rd (x : Cx) (ws : aW) (q : Nat × aC) : Prop := Ro x q ∨ ∃ i : Nat, ws[i]? = some q
theorem Rd.at {x : Cx} {nL : Nat} {ws : aW} {L : List (Nat × aV)} {H : Heap} {locs : List Loc} {ls : Array Slot} {q : Nat × aC} (h : Rd x ws q) (hd : Hd x nL ws L H locs ls) : va_P (xD x) classes [cQ (xC x) q] H := by
  have h1 : va_at (xD x) classes (cQ (xC x) q) H := by
    rcases h with h | ⟨i, h⟩
    · exact h.1.kept (hd.2.2.1.2.1 _ h.1.lt h.2)
    · exact hd.1 i _ (cW_at h)
  intro k p hk
  have hz : k < 1 := (List.getElem?_eq_some_iff.mp hk).1
  rw [show k = 0 by omega] at hk
  cases hk
  exact h1
section ROWS
variable {x : Cx} {cc : ByteArray} {own : String} {nL : Nat} {rm : Room} {ws : aW} {pc : Nat} {L : List (Nat × aV)} {st : List aV} {k n : Nat}
theorem v_iconst {z : Int} (hd : decode cc pc = .ok (.iconst z, 1)) (kk : V x cc own nL rm ws (pc + 1) L (ai z :: st) k n) : V x cc own nL rm ws pc L st k n := fun ok H locs ls hh =>
  lv_iconst (v := Int32.ofInt z) ok.1 ok.2.1 hd rfl (kk ok H locs ls hh)
theorem v_bipush {z : Int} (hd : decode cc pc = .ok (.bipush z, 2)) (hz : (Int8.ofInt z).toInt32 = Int32.ofInt z) (kk : V x cc own nL rm ws (pc + 2) L (ai z :: st) k n) : V x cc own nL rm ws pc L st k n := fun ok H locs ls hh =>
  lv_bipush (v := Int32.ofInt z) ok.1 ok.2.1 hd hz (kk ok H locs ls hh)
theorem v_sipush {z : Int} (hd : decode cc pc = .ok (.sipush z, 3)) (hz : (Int16.ofInt z).toInt32 = Int32.ofInt z) (kk : V x cc own nL rm ws (pc + 3) L (ai z :: st) k n) : V x cc own nL rm ws pc L st k n := fun ok H locs ls hh =>
  lv_sipush (v := Int32.ofInt z) ok.1 ok.2.1 hd hz (kk ok H locs ls hh)
theorem v_lconst0 (hd : decode cc pc = .ok (.lconst 0, 1)) (kk : V x cc own nL rm ws (pc + 1) L (al 0 :: st) k n) : V x cc own nL rm ws pc L st k n := fun ok H locs ls hh =>
  lv_lconst (v := Int64.ofInt 0) ok.1 ok.2.1 hd rfl (kk ok H locs ls hh)
theorem v_lconst1 (hd : decode cc pc = .ok (.lconst 1, 1)) (kk : V x cc own nL rm ws (pc + 1) L (al 1 :: st) k n) : V x cc own nL rm ws pc L st k n := fun ok H locs ls hh =>
  lv_lconst (v := Int64.ofInt 1) ok.1 ok.2.1 hd rfl (kk ok H locs ls hh)
theorem v_ldc2 {i : Nat} {z : Int} (hw : Cond.constantLong own i (Int64.ofInt z) ∈ BW) (hd : decode cc pc = .ok (.ldc2_w i, 3)) (kk : V x cc own nL rm ws (pc + 3) L (al z :: st) k n) : V x cc own nL rm ws pc L st k n := fun ok H locs ls hh =>
  lv_ldc2 (v := Int64.ofInt z) ok.1 ok.2.1 ok.2.2.2.1 (ok.2.2.2.2.1 _ hw) hd (kk ok H locs ls hh)
theorem v_iload {i : Nat} {z : Int} (j : Nat) (hl : L[j]? = some (i, ai z)) (hd : decode cc pc = .ok (.iload i, 2)) (kk : V x cc own nL rm ws (pc + 2) L (ai z :: st) k n) : V x cc own nL rm ws pc L st k n := fun ok H locs ls hh =>
  lv_iload ok.1 ok.2.1 hd (lv_at hh.2.2.2 j (cL_at hl)) (kk ok H locs ls hh)
theorem v_iload_n {i : Fin 4} {z : Int} (j : Nat) (hl : L[j]? = some ((i : Nat), ai z)) (hd : decode cc pc = .ok (.iload_n i, 1)) (kk : V x cc own nL rm ws (pc + 1) L (ai z :: st) k n) : V x cc own nL rm ws pc L st k n := fun ok H locs ls hh =>
  lv_iload_n ok.1 ok.2.1 hd rfl (lv_at hh.2.2.2 j (cL_at hl)) (kk ok H locs ls hh)
theorem v_lload {i : Nat} {z : Int} (j : Nat) (hl : L[j]? = some (i, al z)) (hd : decode cc pc = .ok (.lload i, 2)) (kk : V x cc own nL rm ws (pc + 2) L (al z :: st) k n) : V x cc own nL rm ws pc L st k n := fun ok H locs ls hh =>
  lv_lload ok.1 ok.2.1 hd (lv_at hh.2.2.2 j (cL_at hl)) (kk ok H locs ls hh)
theorem v_lload_n {i : Fin 4} {z : Int} (j : Nat) (hl : L[j]? = some ((i : Nat), al z)) (hd : decode cc pc = .ok (.lload_n i, 1)) (kk : V x cc own nL rm ws (pc + 1) L (al z :: st) k n) : V x cc own nL rm ws pc L st k n := fun ok H locs ls hh =>
  lv_lload_n ok.1 ok.2.1 hd rfl (lv_at hh.2.2.2 j (cL_at hl)) (kk ok H locs ls hh)
theorem v_aload {i : Nat} {o : Option Nat} (j : Nat) (hl : L[j]? = some (i, aq o)) (hd : decode cc pc = .ok (.aload i, 2)) (kk : V x cc own nL rm ws (pc + 2) L (aq o :: st) k n) : V x cc own nL rm ws pc L st k n := fun ok H locs ls hh => by
  cases o with
  | none => exact lv_aloadN ok.1 ok.2.1 hd (lv_at hh.2.2.2 j (cL_at hl)) (kk ok H locs ls hh)
  | some a => exact lv_aload ok.1 ok.2.1 hd (lv_at hh.2.2.2 j (cL_at hl)) (kk ok H locs ls hh)
theorem v_aload_n {i : Fin 4} {o : Option Nat} (j : Nat) (hl : L[j]? = some ((i : Nat), aq o)) (hd : decode cc pc = .ok (.aload_n i, 1)) (kk : V x cc own nL rm ws (pc + 1) L (aq o :: st) k n) : V x cc own nL rm ws pc L st k n := fun ok H locs ls hh => by
  cases o with
  | none => exact lv_aload_nN ok.1 ok.2.1 hd rfl (lv_at hh.2.2.2 j (cL_at hl)) (kk ok H locs ls hh)
  | some a => exact lv_aload_n ok.1 ok.2.1 hd rfl (lv_at hh.2.2.2 j (cL_at hl)) (kk ok H locs ls hh)
end ROWS
