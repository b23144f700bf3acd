/-! ===== cells in another order; calls on a block of cells ===== -/
theorem nd_fst {W : va_W} : (∀ (i j : Nat) (p q : Nat × va_E), W[i]? = some p → W[j]? = some q → p.1 = q.1 → i = j) ↔ (W.map Prod.fst).Nodup := by
  constructor
  · intro h
    refine List.pairwise_iff_getElem.mpr fun i j hi hj hij e => ?_
    have hi2 : i < W.length := by simpa using hi
    have hj2 : j < W.length := by simpa using hj
    rw [List.getElem_map, List.getElem_map] at e
    have := h i j W[i] W[j] (List.getElem?_eq_getElem hi2) (List.getElem?_eq_getElem hj2) e
    omega
  · intro h i j p q hi hj e
    obtain ⟨hi2, ei⟩ := List.getElem?_eq_some_iff.mp hi
    obtain ⟨hj2, ej⟩ := List.getElem?_eq_some_iff.mp hj
    have h2 := List.pairwise_iff_getElem.mp h
    rcases Nat.lt_trichotomy i j with z | z | z
    · exact absurd (by rw [List.getElem_map, List.getElem_map, ei, ej]; exact e) (h2 i j (by simpa using hi2) (by simpa using hj2) z)
    · exact z
    · exact absurd (by rw [List.getElem_map, List.getElem_map, ei, ej]; exact e.symm) (h2 j i (by simpa using hj2) (by simpa using hi2) z)
theorem rg_app (a b : aW) : (List.range a.length).map (fun i => (a ++ b)[i]?) = a.map some := by
  rw [← rg_at a]
  exact List.map_congr_left fun i hi => List.getElem?_append_left (List.mem_range.mp hi)
theorem rg_app2 (a b : aW) : (List.range' a.length b.length).map (fun i => (a ++ b)[i]?) = b.map some := by
  refine List.ext_getElem (by simp) (fun i h1 h2 => ?_)
  have hb : i < b.length := by simpa using h2
  simp only [List.getElem_map, List.getElem_range']
  rw [List.getElem?_append_right (by omega), show a.length + 1 * i - a.length = i by omega]
  exact List.getElem?_eq_getElem hb
section PERM
variable {x : Cx} {cc : ByteArray} {own : String} {nL : Nat} {rm : Room} {ws ws2 base b2 T : aW} {pc : Nat} {L : List (Nat × aV)} {st st2 : List aV} {k n : Nat}
theorem v_perm (h : ws.Perm ws2) (kk : V x cc own nL rm ws2 pc L st k n) : V x cc own nL rm ws pc L st k n := fun ok H locs ls hh => by
  have hp : (cW (xC x) ws).Perm (cW (xC x) ws2) := h.map _
  refine kk ok H locs ls ⟨fun j q hj => ?_, ⟨?_, fun j q hj => ?_⟩, hh.2.2⟩
  · obtain ⟨i, hi⟩ := List.getElem?_of_mem (hp.mem_iff.mpr (List.mem_of_getElem? hj))
    exact hh.1 i q hi
  · exact nd_fst.mpr ((hp.map Prod.fst).nodup_iff.mp (nd_fst.mp hh.2.1.1))
  · obtain ⟨i, hi⟩ := List.getElem?_of_mem (hp.mem_iff.mpr (List.mem_of_getElem? hj))
    exact hh.2.1.2 i q hi
/-- fewer cells: another block in the first one's place, what is behind stays -/
theorem v_wsubT (is : List Nat) (hs : is.map (fun i => base[i]?) = b2.map some) (hn : va_nd is = true) (kk : V x cc own nL rm (b2 ++ T) pc L st k n) : V x cc own nL rm (base ++ T) pc L st k n := fun ok H locs ls hh => by
  have hsub : ∀ q, q ∈ cW (xC x) b2 → q ∈ cW (xC x) base := fun q hq => by
    obtain ⟨j, hj⟩ := List.getElem?_of_mem hq
    obtain ⟨i, -, hi⟩ := at_places (cW_places (cA := xC x) hs) hj
    exact List.mem_of_getElem? hi
  have hall : ∀ q, q ∈ cW (xC x) (b2 ++ T) → q ∈ cW (xC x) (base ++ T) := fun q hq => by
    rw [cW_app] at hq ⊢
    exact (List.mem_append.mp hq).elim (fun h => List.mem_append_left _ (hsub q h)) (fun h => List.mem_append_right _ h)
  have hnd := nd_fst.mp hh.2.1.1
  rw [cW_app, List.map_append, List.nodup_append] at hnd
  have hb : va_D (xA x) (cW (xC x) base) := ⟨nd_fst.mpr hnd.1, fun j q hj => by
    obtain ⟨i, hi⟩ := List.getElem?_of_mem (show q ∈ cW (xC x) (base ++ T) by rw [cW_app]; exact List.mem_append_left _ (List.mem_of_getElem? hj))
    exact hh.2.1.2 i q hi⟩
  refine kk ok H locs ls ⟨fun j q hj => ?_, ⟨?_, fun j q hj => ?_⟩, hh.2.2⟩
  · obtain ⟨i, hi⟩ := List.getElem?_of_mem (hall q (List.mem_of_getElem? hj))
    exact hh.1 i q hi
  · refine nd_fst.mpr ?_
    rw [cW_app, List.map_append, List.nodup_append]
    refine ⟨nd_fst.mp (hb.sub is hn (cW_places hs)).1, hnd.2.1, fun a ha b hb2 => ?_⟩
    obtain ⟨q, hq, rfl⟩ := List.mem_map.mp ha
    exact hnd.2.2 _ (List.mem_map.mpr ⟨q, hsub q hq, rfl⟩) b hb2
  · obtain ⟨i, hi⟩ := List.getElem?_of_mem (hall q (List.mem_of_getElem? hj))
    exact hh.2.1.2 i q hi
theorem v_stc (h : st.map cV = st2.map cV) (kk : V x cc own nL rm ws pc L st2 k n) : V x cc own nL rm ws pc L st k n := fun ok H locs ls hh => by
  rw [h]
  exact kk ok H locs ls hh
/-- two answers that are the same -/
theorem v_icmp_s {a : Int} {off : Int} (tgt : Nat) (hd : decode cc pc = .ok (.if_icmp .eq off, 3)) (ht : (pc : Int) + off = (tgt : Int)) (kt : V x cc own nL rm ws tgt L st k n) : V x cc own nL rm ws pc L (ai a :: ai a :: st) k n := fun ok H locs ls hh =>
  lv_icmp_eq ok.1 ok.2.1 hd ht (fun _ => kt ok H locs ls hh) (fun q => absurd rfl q)
theorem v_lcmp_s {a : Int} (hd : decode cc pc = .ok (.lcmp, 1)) (kk : V x cc own nL rm ws (pc + 1) L (ai 0 :: st) k n) : V x cc own nL rm ws pc L (al a :: al a :: st) k n := by
  have e : cV (al a) = cV (al (Int64.ofInt a).toInt) := by rw [cV_l, cV_l, Int64.ofInt_toInt]
  have hb : lB (Int64.ofInt a).toInt := ⟨Int64.le_toInt _, Int64.toInt_lt _⟩
  refine v_stc (st2 := al (Int64.ofInt a).toInt :: al (Int64.ofInt a).toInt :: st) (by rw [List.map_cons, List.map_cons, List.map_cons, List.map_cons, e]) (v_lcmp hb hb hd ?_)
  have e2 : acmp (Int64.ofInt a).toInt (Int64.ofInt a).toInt = 0 := by
    unfold acmp
    rw [if_neg (by omega)]
    first | rfl | exact if_pos rfl | exact if_neg (by omega)
  rw [e2]
  exact kk
theorem v_if0 {off : Int} (tgt : Nat) (hd : decode cc pc = .ok (.ifCond .eq off, 3)) (ht : (pc : Int) + off = (tgt : Int)) (kt : V x cc own nL rm ws tgt L st k n) : V x cc own nL rm ws pc L (ai 0 :: st) k n :=
  v_if_eq tgt hd ht iB0 (fun _ => kt) (fun q => absurd rfl q)
end PERM
section CALLB
variable {x : Cx} {cc : ByteArray} {own : String} {nL : Nat} {rm : Room} {base T : aW} {pc : Nat} {L : List (Nat × aV)} {st : List aV} {k n : Nat}
variable {S : Type} {y : MethodName} {bytes : ByteArray} {maxL : Nat} {ret : Option FieldType} {fr lo mc ms : Nat} {wc : aW} {ro : Nat × aC → Prop} {good : S → Prop} {R : S → Option aV} {W2 : S → aW}
/-- a call on an object of its class: its cells and others out of the first block, all that is behind is only read -/
theorem v_callB (is : List Nat) (wr : aW) {b c i : Nat} {fs As rest : List aV} {r : vw_C} (hM : Ct (xg x) y bytes maxL ret fr lo mc ms (ar b :: As) wc ro good R W2) (hcl : classes[c]? = some r) (hr : (b, co c fs) ∈ wc ++ wr)
    (hlink : Cond.methodLink own i y ∈ BW) (hinst : Cond.instanceMethod y ∈ BW) (hsel : Cond.selects r.1 y y ∈ BW) (hcode : Cond.code y bytes maxL ret ∈ BW) (hini : Cond.initialized y.cls ∈ BW)
    (hd : y.cls ≠ "java/lang/invoke/MethodHandle" ∧ y.cls ≠ "java/lang/invoke/VarHandle" ∧ (parseMethodDescriptor y.desc).map (fun d => d.parameters.length) = some As.length)
    (hst : st = As.reverse ++ ar b :: rest) (hrest : (rest.map aCat).sum ≤ 8) (hroom : fr + 1 ≤ rm.frames ∧ 8 + (maxL + 11) + lo ≤ rm.locals ∧ k + mc ≤ rm.cells ∧ n + ms ≤ rm.slots)
    (hs : is.map (fun i => base[i]?) = (wc ++ wr).map some) (hn : va_nd is = true) (hro : ∀ q, ro q → Ro x q ∨ q ∈ wr ++ T)
    (hdec : decode cc pc = .ok (.invokevirtual i, 3))
    (kk : ∀ u : S, good u → V x cc own nL rm (wr ++ W2 u ++ T) (pc + 3) L ((R u).toList ++ rest) (k + mc) (n + ms)) : V x cc own nL rm (base ++ T) pc L st k n := by
  refine v_wsubT is hs hn ?_
  have hr2 : Rd x (wc ++ wr ++ T) (b, co c fs) := Or.inr (List.getElem?_of_mem (List.mem_append_left _ hr))
  rw [List.append_assoc] at hr2 ⊢
  refine v_callV (List.range wc.length) (List.range' wc.length (wr ++ T).length) (wr ++ T) hM hcl hr2 hlink hinst hsel hcode hini hd hst hrest hroom (rg_app _ _) (rg_app2 _ _) (nd_of _ List.nodup_range) (nd_of _ List.nodup_range') (fun i hi => ?_) (fun q hq => ?_) hdec (fun u hu => ?_)
  · intro h
    have h1 := List.mem_range.mp h
    have h2 := (List.mem_range'_1.mp hi).1
    omega
  · rcases hro q hq with h | h
    · exact Or.inl h
    · obtain ⟨j, hj⟩ := List.getElem?_of_mem h
      refine Or.inr ⟨wc.length + j, ?_, fun h1 => ?_⟩
      · rw [List.getElem?_append_right (by omega), show wc.length + j - wc.length = j by omega]
        exact hj
      · have := List.mem_range.mp h1
        omega
  · refine v_perm ?_ (kk u hu)
    rw [List.append_assoc, List.append_assoc]
    exact List.perm_append_comm.append_left wr
end CALLB
