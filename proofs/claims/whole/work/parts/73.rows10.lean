/-! ===== calls that own none of our cells; players' cells one by one ===== -/
theorem rg_at (ws : aW) : (List.range ws.length).map (fun i => ws[i]?) = ws.map some := by
  refine List.ext_getElem (by simp) (fun i h1 h2 => ?_)
  simp at h1 ⊢
theorem nd_of : ∀ l : List Nat, l.Nodup → va_nd l = true
  | [], _ => rfl
  | a :: l, h => by
    have h2 := List.nodup_cons.mp h
    show (decide (a ∉ l) && va_nd l) = true
    rw [nd_of l h2.2, Bool.and_true]
    exact decide_eq_true h2.1
section CALL0
variable {x : Cx} {cc : ByteArray} {own : String} {nL : Nat} {rm : Room} {ws : aW} {pc : Nat} {L : List (Nat × aV)} {st : List aV} {k n : Nat}
variable {S : Type} {z y : MethodName} {bytes : ByteArray} {maxL : Nat} {ret : Option FieldType} {fr lo mc ms : Nat} {ro : Nat × aC → Prop} {good : S → Prop} {R : S → Option aV} {W2 : S → aW}
/-- a call on an object of the class c by the name z, that there is y, and that owns none of our cells -/
theorem v_call0 {b c i : Nat} {fs As rest : List aV} {r : vw_C} (hM : Ct (xg x) y bytes maxL ret fr lo mc ms (ar b :: As) [] ro good R W2) (hcl : classes[c]? = some r) (hr : Rd x ws (b, co c fs))
    (hlink : Cond.methodLink own i y ∈ BW) (hsel : Cond.selects r.1 y y ∈ BW) (hinst : Cond.instanceMethod y ∈ BW) (hcode : Cond.code y bytes maxL ret ∈ BW) (hini : Cond.initialized y.cls ∈ BW)
    (hd : y.cls ≠ "java/lang/invoke/MethodHandle" ∧ y.cls ≠ "java/lang/invoke/VarHandle" ∧ (parseMethodDescriptor y.desc).map (fun d => d.parameters.length) = some As.length)
    (hst : st = As.reverse ++ ar b :: rest) (hrest : (rest.map aCat).sum ≤ 8) (hroom : fr + 1 ≤ rm.frames ∧ 8 + (maxL + 11) + lo ≤ rm.locals ∧ k + mc ≤ rm.cells ∧ n + ms ≤ rm.slots)
    (hro : ∀ q, ro q → Rd x ws q)
    (hdec : decode cc pc = .ok (.invokevirtual i, 3))
    (kk : ∀ u : S, good u → V x cc own nL rm (ws ++ W2 u) (pc + 3) L ((R u).toList ++ rest) (k + mc) (n + ms)) : V x cc own nL rm ws pc L st k n :=
  v_callV [] (List.range ws.length) ws hM hcl hr hlink hinst hsel hcode hini hd hst hrest hroom rfl (rg_at ws) rfl (nd_of _ List.nodup_range) (fun _ _ => by simp) (fun q hq => (hro q hq).imp id (fun ⟨i, h⟩ => ⟨i, h, by simp⟩)) hdec kk
end CALL0
def nuf (f : Int → Nat) (i : Int) (z : Nat) : Int → Nat := fun j => if j = i then z else f j
theorem nuf_s {f : Int → Nat} {i : Int} {z : Nat} : nuf f i z i = z := if_pos rfl
theorem nuf_n {f : Int → Nat} {i j : Int} {z : Nat} (h : j ≠ i) : nuf f i z j = f j := if_neg h
theorem zpW_cg {ta : Nat} {f : Int → Int} {pl tu pl2 tu2 : Int → Nat} {p : Int} (h1 : pl p = pl2 p) (h2 : tu p = tu2 p) : zpW ta f pl tu p = zpW ta f pl2 tu2 p := by
  unfold zpW
  rw [h1, h2]
theorem zpS_cg {ta : Nat} {f : Int → Int} {pl tu pl2 tu2 : Int → Nat} : ∀ n : Nat, (∀ p : Int, 0 ≤ p → p < (n : Int) → pl p = pl2 p ∧ tu p = tu2 p) → zpS ta f pl tu n = zpS ta f pl2 tu2 n
  | 0, _ => rfl
  | n + 1, h => by
    have ih := zpS_cg (ta := ta) (f := f) n (fun p p0 p1 => h p p0 (by omega))
    unfold zpS at ih ⊢
    rw [List.range_succ, List.flatMap_append, List.flatMap_append, ih]
    have h2 := h (n : Int) (by omega) (by omega)
    simp only [List.flatMap_cons, List.flatMap_nil, List.append_nil]
    rw [zpW_cg h2.1 h2.2]
theorem zpS_succ {ta : Nat} {f : Int → Int} {pl tu : Int → Nat} {i : Int} {a b : Nat} (h0 : 0 ≤ i) : zpS ta f (nuf pl i a) (nuf tu i b) (i + 1).toNat = zpS ta f pl tu i.toNat ++ zpW ta f (fun _ => a) (fun _ => b) i := by
  rw [show (i + 1).toNat = i.toNat + 1 by omega]
  have e := zpS_cg (ta := ta) (f := f) (pl := nuf pl i a) (tu := nuf tu i b) (pl2 := pl) (tu2 := tu) i.toNat (fun p p0 p1 => ⟨nuf_n (by omega), nuf_n (by omega)⟩)
  unfold zpS at e ⊢
  rw [List.range_succ, List.flatMap_append, e]
  simp only [List.flatMap_cons, List.flatMap_nil, List.append_nil]
  rw [show ((i.toNat : Nat) : Int) = i by omega]
  rw [zpW_cg (pl2 := fun _ => a) (tu2 := fun _ => b) nuf_s nuf_s]
theorem zpW_o {ta : Nat} {f : Int → Int} {p : Int} {a b : Nat} (h : f (7 + p) ≠ 6) : zpW ta f (fun _ => a) (fun _ => b) p = [(a, zpO ta f p b)] := by
  unfold zpW
  rw [if_neg h]
theorem zpW_t {ta : Nat} {f : Int → Int} {p : Int} {a b : Nat} (h : f (7 + p) = 6) : zpW ta f (fun _ => a) (fun _ => b) p = [(a, zpO ta f p b), (b, cn 0 4 (tnF f p))] := by
  unfold zpW
  rw [if_pos h]
