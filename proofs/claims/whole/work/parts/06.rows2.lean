/-! ===== cells: fields and arrays ===== -/
theorem I_nat {i : Int} (h0 : 0 ≤ i) (h1 : i < 2147483648) : (((Int32.ofInt i).toNatClampNeg : Nat) : Int) = i := by
  rw [Int32.toNatClampNeg_ofInt_of_le (by omega) (by omega)]
  omega
theorem I_in {i : Int} {n : Nat} (h0 : 0 ≤ i) (h1 : i < n) (hn : n < 2147483648) : vp_in (Int32.ofInt i) n := by
  have e := I_nat h0 (by omega)
  intro q
  rcases q with q | q
  · rw [I_0, I_lt (by unfold iB; omega) iB0] at q
    omega
  · omega
def aup (f : Int → Int) (i z : Int) : Int → Int := fun j => if j = i then z else f j
def aupq (f : Int → Option Nat) (i : Int) (z : Option Nat) : Int → Option Nat := fun j => if j = i then z else f j
theorem aup_s (f : Int → Int) (i z : Int) : aup f i z i = z := if_pos rfl
theorem aup_n (f : Int → Int) {i j : Int} (z : Int) (h : j ≠ i) : aup f i z j = f j := if_neg h
theorem aupq_s (f : Int → Option Nat) (i : Int) (z : Option Nat) : aupq f i z i = z := if_pos rfl
theorem aupq_n (f : Int → Option Nat) {i j : Int} (z : Option Nat) (h : j ≠ i) : aupq f i z j = f j := if_neg h
/-- a field of a class by its place, and the link to it -/
def FL (own : String) (i c f : Nat) : Prop := ∃ (r : vw_C) (ref : String), classes[c]? = some r ∧ f < r.2.2 ∧ (∀ w ∈ u_ws r.1 r.2.1 r.2.2, w ∈ BW) ∧ Cond.fieldLink own i ref (r.2.1 f).2.1 (r.2.1 f).2.2.1 ∈ BW ∧ (ref = (r.2.1 f).1 ∨ Cond.sameField ref (r.2.1 f).1 (r.2.1 f).2.1 (r.2.1 f).2.2.1 ∈ BW)
/-- a class: its fields' names are apart, their types are known -/
def CK (c : Nat) : Prop := ∃ (r : vw_C) (ty : Nat → FieldType), classes[c]? = some r ∧ (∀ k, k < r.2.2 → parseFieldDescriptor (r.2.1 k).2.2.1 = some (ty k)) ∧ (∀ a, a < r.2.2 → ∀ b, b < r.2.2 → a ≠ b → (r.2.1 a).2.1 ≠ (r.2.1 b).2.1)
/-- a field's type, and whether it is final, by its class's table -/
def FT (c f : Nat) (ty : FieldType) (fin : Bool) : Prop := ∃ r : vw_C, classes[c]? = some r ∧ parseFieldDescriptor (r.2.1 f).2.2.1 = some ty ∧ (r.2.1 f).2.2.2 = fin
def okV (ty : FieldType) (v : aV) : Prop := narrow ty (cV v) = cV v ∧ fits ty (cV v) = true
theorem okV_i (z : Int) : okV .int (ai z) := ⟨rfl, rfl⟩
theorem okV_l (z : Int) : okV .long (al z) := ⟨rfl, rfl⟩
theorem okV_q (C : String) (o : Option Nat) : okV (.object C) (aq o) := by cases o <;> exact ⟨rfl, rfl⟩
theorem okV_a (t : FieldType) (o : Option Nat) : okV (.array t) (aq o) := by cases o <;> exact ⟨rfl, rfl⟩
theorem okV_z0 : okV .boolean (ai 0) := ⟨rfl, rfl⟩
theorem okV_z1 : okV .boolean (ai 1) := ⟨rfl, rfl⟩
theorem okV_zp {P : Prop} {dp : Decidable P} : okV .boolean (ai (@ite Int P dp 1 0)) := by split <;> exact ⟨rfl, rfl⟩
theorem nar_z {z : Int} (h : z = 0 ∨ z = 1) : vp_nar .boolean (Int32.ofInt z) = Int32.ofInt z := by rcases h with rfl | rfl <;> rfl
theorem ite01 {P : Prop} {dp : Decidable P} : (@ite Int P dp 1 0) = 0 ∨ (@ite Int P dp 1 0) = 1 := by split <;> simp
section ROWSC
variable {x : Cx} {cc : ByteArray} {own : String} {nL : Nat} {rm : Room} {ws ws2 : aW} {pc : Nat} {L : List (Nat × aV)} {st : List aV} {k n : Nat} {a : Nat}
theorem v_get {c i : Nat} {fs : List aV} {v : aV} (f : Nat) (hr : Rd x ws (a, co c fs)) (hf : FL own i c f) (hv : fs[f]? = some v) (hd : decode cc pc = .ok (.getfield i, 3)) (kk : V x cc own nL rm ws (pc + 3) L (v :: st) k n) : V x cc own nL rm ws pc L (ar a :: st) k n := fun ok H locs ls hh => by
  obtain ⟨r, ref, h1, h2, h3, h4, h5⟩ := hf
  refine va_get (D := xD x) (ci := c) (v := cV v) (C := r.1) (T := r.2.1) (N := r.2.2) (fs := fs.map cV) ok.1 ok.2.1 ok.2.2.2.2.1 h3 ok.2.2.2.1 ok.2.2.2.2.2.1 (hr.at hh) 0 rfl h1 f h2 (ok.2.2.2.2.1 _ h4) ?_ (by rw [List.getElem?_map, hv]; rfl) hd (kk ok H locs ls hh)
  rcases h5 with h5 | h5
  · subst h5
    exact fun _ h9 => h9
  · exact fun y hy => u_same (ok.2.2.2.2.1 _ h5) y hy
theorem v_put {c i : Nat} {fs : List aV} {v : aV} {ty : FieldType} (f q : Nat) (he : ws[q]? = some (a, co c fs)) (hf : FL own i c f) (hc : CK c) (ht : FT c f ty false) (hv : okV ty v) (hl : f < fs.length) (hw : ws.set q (a, co c (fs.set f v)) = ws2) (hd : decode cc pc = .ok (.putfield i, 3)) (kk : V x cc own nL rm ws2 (pc + 3) L st k n) : V x cc own nL rm ws pc L (v :: ar a :: st) k n := fun ok H locs ls hh => by
  obtain ⟨r, ref, h1, h2, h3, h4, h5⟩ := hf
  obtain ⟨r', ty0, g1, g2, g3⟩ := hc
  cases h1.symm.trans g1
  obtain ⟨r', g4, g5, g6⟩ := ht
  cases h1.symm.trans g4
  subst hw
  refine va_put (D := xD x) (ci := c) (v := cV v) (ty := ty) (C := r.1) (T := r.2.1) (N := r.2.2) (fs := fs.map cV) ok.1 ok.2.1 ok.2.2.2.2.1 h3 ty0 g2 g3 ok.2.2.2.1 ok.2.2.2.2.2.1 hh.1 hh.2.1 hh.2.2.1 q (cW_at he) h1 f h2 (ok.2.2.2.2.1 _ h4) ?_ g6 g5 hv.1 hv.2 (by rw [List.length_map]; exact hl) hd (fun H1 locs1 hP hD hS => ?_)
  · rcases h5 with h5 | h5
    · subst h5
      exact fun _ h9 => h9
    · exact fun y hy => u_same (ok.2.2.2.2.1 _ h5) y hy
  · have e : (cW (xC x) ws).set q (a, .inr (c, (fs.map cV).set f (cV v))) = cW (xC x) (ws.set q (a, co c (fs.set f v))) := by
      rw [← cW_set]
      unfold cQ cE
      rw [← List.map_set]
    rw [e] at hP hD
    exact kk ok H1 locs1 ls ⟨hP, hD, hS, hh.2.2.2⟩
theorem v_putF {c i : Nat} {fs : List aV} {v : aV} {ty : FieldType} (f q : Nat) (hn : (xM x).name = "<init>") (hdc : ∃ r : vw_C, classes[c]? = some r ∧ (r.2.1 f).1 = own) (he : ws[q]? = some (a, co c fs)) (hf : FL own i c f) (hc : CK c) (ht : FT c f ty true) (hv : okV ty v) (hl : f < fs.length) (hw : ws.set q (a, co c (fs.set f v)) = ws2) (hd : decode cc pc = .ok (.putfield i, 3)) (kk : V x cc own nL rm ws2 (pc + 3) L st k n) : V x cc own nL rm ws pc L (v :: ar a :: st) k n := fun ok H locs ls hh => by
  obtain ⟨r, ref, h1, h2, h3, h4, h5⟩ := hf
  obtain ⟨r', ty0, g1, g2, g3⟩ := hc
  cases h1.symm.trans g1
  obtain ⟨r', g4, g5, g6⟩ := ht
  cases h1.symm.trans g4
  obtain ⟨r', g7, g8⟩ := hdc
  cases h1.symm.trans g7
  subst hw
  refine va_putF (D := xD x) (ci := c) (v := cV v) (ty := ty) (C := r.1) (T := r.2.1) (N := r.2.2) (fs := fs.map cV) ok.1 ok.2.1 ok.2.2.2.2.1 h3 ty0 g2 g3 ok.2.2.2.1 ok.2.2.2.2.2.1 hh.1 hh.2.1 hh.2.2.1 q (cW_at he) h1 f h2 (ok.2.2.2.2.1 _ h4) ?_ g6 hn g8 g5 hv.1 hv.2 (by rw [List.length_map]; exact hl) hd (fun H1 locs1 hP hD hS => ?_)
  · rcases h5 with h5 | h5
    · subst h5
      exact fun _ h9 => h9
    · exact fun y hy => u_same (ok.2.2.2.2.1 _ h5) y hy
  · have e : (cW (xC x) ws).set q (a, .inr (c, (fs.map cV).set f (cV v))) = cW (xC x) (ws.set q (a, co c (fs.set f v))) := by
      rw [← cW_set]
      unfold cQ cE
      rw [← List.map_set]
    rw [e] at hP hD
    exact kk ok H1 locs1 ls ⟨hP, hD, hS, hh.2.2.2⟩
theorem v_iald {N : Nat} {f : Int → Int} {i : Int} (hr : Rd x ws (a, cn 0 N f)) (h0 : 0 ≤ i) (h1 : i < N) (hN : N < 2147483648) (hd : decode cc pc = .ok (.iaload, 1)) (kk : V x cc own nL rm ws (pc + 1) L (ai (f i) :: st) k n) : V x cc own nL rm ws pc L (ai i :: ar a :: st) k n := fun ok H locs ls hh => by
  have e := kk ok H locs ls hh
  rw [List.map_cons, show cV (ai (f i)) = .int (Int32.ofInt (f (((Int32.ofInt i).toNatClampNeg : Nat) : Int))) by rw [I_nat h0 (by omega)]; rfl] at e
  exact va_iald (D := xD x) ok.1 ok.2.1 ok.2.2.2.2.2.1 (hr.at hh) 0 0 rfl rfl (I_in h0 h1 hN) hd e
theorem v_bald {N : Nat} {f : Int → Int} {i : Int} (hr : Rd x ws (a, cn 1 N f)) (h0 : 0 ≤ i) (h1 : i < N) (hN : N < 2147483648) (hd : decode cc pc = .ok (.baload, 1)) (kk : V x cc own nL rm ws (pc + 1) L (ai (f i) :: st) k n) : V x cc own nL rm ws pc L (ai i :: ar a :: st) k n := fun ok H locs ls hh => by
  have e := kk ok H locs ls hh
  rw [List.map_cons, show cV (ai (f i)) = .int (Int32.ofInt (f (((Int32.ofInt i).toNatClampNeg : Nat) : Int))) by rw [I_nat h0 (by omega)]; rfl] at e
  exact va_zald (D := xD x) ok.1 ok.2.1 ok.2.2.2.2.2.1 (hr.at hh) 0 1 rfl rfl (I_in h0 h1 hN) hd e
theorem upd_cn {f : Int → Int} {i z : Int} (h0 : 0 ≤ i) (h1 : i < 2147483648) : upd (fun k : Nat => Int32.ofInt (f (k : Int))) (Int32.ofInt i).toNatClampNeg (Int32.ofInt z) = fun k : Nat => Int32.ofInt (aup f i z (k : Int)) := by
  have e := I_nat h0 h1
  funext j
  unfold upd aup
  by_cases hj : j = (Int32.ofInt i).toNatClampNeg
  · rw [if_pos hj, if_pos (by rw [hj, e])]
  · rw [if_neg hj, if_neg (by omega)]
theorem v_iast {N : Nat} {f : Int → Int} {i z : Int} (q : Nat) (he : ws[q]? = some (a, cn 0 N f)) (h0 : 0 ≤ i) (h1 : i < N) (hN : N < 2147483648) (hw : ws.set q (a, cn 0 N (aup f i z)) = ws2) (hd : decode cc pc = .ok (.iastore, 1)) (kk : V x cc own nL rm ws2 (pc + 1) L st k n) : V x cc own nL rm ws pc L (ai z :: ai i :: ar a :: st) k n := fun ok H locs ls hh => by
  subst hw
  refine va_iast (D := xD x) ok.1 ok.2.1 ok.2.2.2.2.2.1 hh.1 hh.2.1 hh.2.2.1 q 0 (cW_at he) rfl (I_in h0 h1 hN) hd (fun H1 locs1 hP hD hS => ?_)
  rw [upd_cn h0 (by omega)] at hP hD
  have e : (cW (xC x) ws).set q (a, .inl (xC x 0, N, .inl (fun k : Nat => Int32.ofInt (aup f i z (k : Int))))) = cW (xC x) (ws.set q (a, cn 0 N (aup f i z))) := by
    rw [← cW_set]
    rfl
  rw [e] at hP hD
  exact kk ok H1 locs1 ls ⟨hP, hD, hS, hh.2.2.2⟩
theorem v_bast {N : Nat} {f : Int → Int} {i z : Int} (q : Nat) (hz : z = 0 ∨ z = 1) (he : ws[q]? = some (a, cn 1 N f)) (h0 : 0 ≤ i) (h1 : i < N) (hN : N < 2147483648) (hw : ws.set q (a, cn 1 N (aup f i z)) = ws2) (hd : decode cc pc = .ok (.bastore, 1)) (kk : V x cc own nL rm ws2 (pc + 1) L st k n) : V x cc own nL rm ws pc L (ai z :: ai i :: ar a :: st) k n := fun ok H locs ls hh => by
  subst hw
  refine va_zast (D := xD x) ok.1 ok.2.1 ok.2.2.2.2.2.1 hh.1 hh.2.1 hh.2.2.1 q 1 (cW_at he) rfl (I_in h0 h1 hN) hd (fun H1 locs1 hP hD hS => ?_)
  rw [nar_z hz, upd_cn h0 (by omega)] at hP hD
  have e : (cW (xC x) ws).set q (a, .inl (xC x 1, N, .inl (fun k : Nat => Int32.ofInt (aup f i z (k : Int))))) = cW (xC x) (ws.set q (a, cn 1 N (aup f i z))) := by
    rw [← cW_set]
    rfl
  rw [e] at hP hD
  exact kk ok H1 locs1 ls ⟨hP, hD, hS, hh.2.2.2⟩
theorem v_alen {N t : Nat} {f : Int → Int} (ht : t < 2) (hr : Rd x ws (a, cn t N f)) (hd : decode cc pc = .ok (.arraylength, 1)) (kk : V x cc own nL rm ws (pc + 1) L (ai N :: st) k n) : V x cc own nL rm ws pc L (ar a :: st) k n := fun ok H locs ls hh => by
  have e := kk ok H locs ls hh
  rcases (show t = 0 ∨ t = 1 by omega) with rfl | rfl
  · exact va_alen (D := xD x) ok.1 ok.2.1 ok.2.2.2.2.2.1 (hr.at hh) 0 0 rfl (ty := .int) rfl (v := Int32.ofInt N) rfl hd e
  · exact va_alen (D := xD x) ok.1 ok.2.1 ok.2.2.2.2.2.1 (hr.at hh) 0 1 rfl (ty := .boolean) rfl (v := Int32.ofInt N) rfl hd e
theorem v_aald {N t : Nat} {f : Int → Option Nat} {i : Int} (ht : t = 2 ∨ t = 3) (hr : Rd x ws (a, cq t N f)) (h0 : 0 ≤ i) (h1 : i < N) (hN : N < 2147483648) (hd : decode cc pc = .ok (.aaload, 1)) (kk : V x cc own nL rm ws (pc + 1) L (aq (f i) :: st) k n) : V x cc own nL rm ws pc L (ai i :: ar a :: st) k n := fun ok H locs ls hh => by
  have e := kk ok H locs ls hh
  rw [List.map_cons, show cV (aq (f i)) = va_rf (f (((Int32.ofInt i).toNatClampNeg : Nat) : Int)) by rw [I_nat h0 (by omega)]; rfl] at e
  rcases ht with rfl | rfl
  · exact va_aldq (D := xD x) (C := RX3) ok.1 ok.2.1 ok.2.2.2.2.2.1 (hr.at hh) 0 2 rfl rfl (I_in h0 h1 hN) hd e
  · exact va_aldq (D := xD x) (C := RX5) ok.1 ok.2.1 ok.2.2.2.2.2.1 (hr.at hh) 0 3 rfl rfl (I_in h0 h1 hN) hd e
end ROWSC
