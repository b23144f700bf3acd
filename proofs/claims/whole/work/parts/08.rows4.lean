/-! ===== taking fewer locals, fewer cells; field writes of functions ===== -/
def aPick (L : List (Nat × aV)) (ks : List Nat) : List (Nat × aV) := ks.filterMap (fun k => L[k]?)
theorem cL_pick (L : List (Nat × aV)) (ks : List Nat) : lv_pick (cL L) ks = cL (aPick L ks) := by
  unfold lv_pick aPick cL
  rw [List.map_filterMap]
  refine congrArg (fun g => List.filterMap g ks) (funext fun k => ?_)
  simp
section SUBS
variable {x : Cx} {cc : ByteArray} {own : String} {nL : Nat} {rm : Room} {ws ws2 : aW} {pc : Nat} {L L2 : List (Nat × aV)} {st : List aV} {k n : Nat}
theorem v_sub (ks : List Nat) (hl : aPick L ks = L2) (kk : V x cc own nL rm ws pc L2 st k n) : V x cc own nL rm ws pc L st k n := fun ok H locs ls hh =>
  kk ok H locs ls ⟨hh.1, hh.2.1, hh.2.2.1, lv_sub hh.2.2.2 ks (by rw [cL_pick, hl])⟩
theorem v_wsub (is : List Nat) (hs : is.map (fun i => ws[i]?) = ws2.map some) (hn : va_nd is = true) (kk : V x cc own nL rm ws2 pc L st k n) : V x cc own nL rm ws pc L st k n := fun ok H locs ls hh =>
  kk ok H locs ls ⟨fun j q hj => (at_places (cW_places (cA := xC x) hs) hj).elim fun i h => hh.1 i q h.2, hh.2.1.sub is hn (cW_places hs), hh.2.2.1, hh.2.2.2⟩
end SUBS
def nup (v : Nat → Int) (k : Nat) (z : Int) : Nat → Int := fun j => if j = k then z else v j
theorem nup_s (v : Nat → Int) (k : Nat) (z : Int) : nup v k z k = z := if_pos rfl
theorem nup_n (v : Nat → Int) {k j : Nat} (z : Int) (h : j ≠ k) : nup v k z j = v j := if_neg h
/-- the reference's object: its rows' addresses, its numbers -/
def mO (ad : Nat → Nat) (v : Nat → Int) : List aV := [ai (v 0), ar (ad 1), ar (ad 2), ai (v 3), ai (v 4), ai (v 5), ai (v 6), ai (v 7), ai (v 8), ar (ad 9), ar (ad 10), ai (v 11), ai (v 12), ai (v 13), ar (ad 14), ai (v 15), al (v 16), al (v 17), ar (ad 18), ar (ad 19), ar (ad 20), ai (v 21), ai (v 22), ai (v 23), ai (v 24)]
theorem ro_nil {P : Nat × aC → Prop} : ∀ q, q ∈ ([] : aW) → P q := fun _ h => absurd h List.not_mem_nil
theorem ro_cons {P : Nat × aC → Prop} {a : Nat × aC} {l : aW} (h : P a) (t : ∀ q, q ∈ l → P q) : ∀ q, q ∈ a :: l → P q := fun q hq => (List.mem_cons.mp hq).elim (fun e => e ▸ h) (t q)
theorem mem_at {α : Type} {l : List α} {q : α} (i : Nat) (h : l[i]? = some q) : q ∈ l := List.mem_of_getElem? h
