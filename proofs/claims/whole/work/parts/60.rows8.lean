/-! ===== casts and instanceof by kind ===== -/
section CASTS
variable {x : Cx} {cc : ByteArray} {own : String} {nL : Nat} {rm : Room} {ws : aW} {pc : Nat} {L : List (Nat × aV)} {st : List aV} {k n : Nat}
theorem v_instE {b c i : Nat} {fs : List aV} {r : vw_C} (hcl : classes[c]? = some r) (hr : Rd x ws (b, co c fs)) (hl : Cond.classLink own i r.1 ∈ BW) (hd : decode cc pc = .ok (.instanceof i, 3)) (kk : V x cc own nL rm ws (pc + 3) L (ai 1 :: st) k n) : V x cc own nL rm ws pc L (ar b :: st) k n := fun ok H locs ls hh =>
  va_instE ok.1 ok.2.1 ok.2.2.2.1 (ok.2.2.2.2.1 _ hl) (v_recv hcl hr hh ok) hd (kk ok H locs ls hh)
theorem v_castE {b c i : Nat} {fs : List aV} {r : vw_C} (hcl : classes[c]? = some r) (hr : Rd x ws (b, co c fs)) (hl : Cond.classLink own i r.1 ∈ BW) (hd : decode cc pc = .ok (.checkcast i, 3)) (kk : V x cc own nL rm ws (pc + 3) L (ar b :: st) k n) : V x cc own nL rm ws pc L (ar b :: st) k n := fun ok H locs ls hh =>
  va_castE ok.1 ok.2.1 ok.2.2.2.1 (ok.2.2.2.2.1 _ hl) (v_recv hcl hr hh ok) hd (kk ok H locs ls hh)
theorem v_instY {b c i : Nat} {fs : List aV} {r : vw_C} {nm : String} (hcl : classes[c]? = some r) (hr : Rd x ws (b, co c fs)) (hl : Cond.classLink own i nm ∈ BW) (hc : (r.1, nm) ∈ cstP) (hd : decode cc pc = .ok (.instanceof i, 3)) (kk : V x cc own nL rm ws (pc + 3) L (ai 1 :: st) k n) : V x cc own nL rm ws pc L (ar b :: st) k n := fun ok H locs ls hh =>
  va_instY ok.1 ok.2.1 ok.2.2.2.1 (ok.2.2.2.2.1 _ hl) (ok.2.2.2.2.2.2.1.2.2.2.2.2.2.1 _ hc) (v_recv hcl hr hh ok) hd (kk ok H locs ls hh)
theorem v_castY {b c i : Nat} {fs : List aV} {r : vw_C} {nm : String} (hcl : classes[c]? = some r) (hr : Rd x ws (b, co c fs)) (hl : Cond.classLink own i nm ∈ BW) (hc : (r.1, nm) ∈ cstP) (hd : decode cc pc = .ok (.checkcast i, 3)) (kk : V x cc own nL rm ws (pc + 3) L (ar b :: st) k n) : V x cc own nL rm ws pc L (ar b :: st) k n := fun ok H locs ls hh =>
  va_castY ok.1 ok.2.1 ok.2.2.2.1 (ok.2.2.2.2.1 _ hl) (ok.2.2.2.2.2.2.1.2.2.2.2.2.2.1 _ hc) (v_recv hcl hr hh ok) hd (kk ok H locs ls hh)
theorem v_instN {b c i : Nat} {fs : List aV} {r : vw_C} {nm : String} (hcl : classes[c]? = some r) (hr : Rd x ws (b, co c fs)) (hl : Cond.classLink own i nm ∈ BW) (hc : (r.1, nm) ∈ cstN) (hd : decode cc pc = .ok (.instanceof i, 3)) (kk : V x cc own nL rm ws (pc + 3) L (ai 0 :: st) k n) : V x cc own nL rm ws pc L (ar b :: st) k n := fun ok H locs ls hh =>
  va_instNo ok.1 ok.2.1 ok.2.2.2.1 (ok.2.2.2.2.1 _ hl) (ok.2.2.2.2.2.2.1.2.2.2.2.2.2.2 _ hc) (v_recv hcl hr hh ok) hd (kk ok H locs ls hh)
end CASTS
