/-! ===== references that are known ===== -/
section REFS
variable {x : Cx} {cc : ByteArray} {own : String} {nL : Nat} {rm : Room} {ws : aW} {pc : Nat} {L : List (Nat × aV)} {st : List aV} {k n : Nat}
theorem v_eqa {o o2 : Option Nat} (h : o = o2) (kk : V x cc own nL rm ws pc L (aq o2 :: st) k n) : V x cc own nL rm ws pc L (aq o :: st) k n := h ▸ kk
end REFS
