/-! ===== bits ===== -/
theorem shl_1 : ∀ d : Fin 31, Int32.ofInt 1 <<< (Int32.ofInt ((d : Nat) : Int) &&& 31) = Int32.ofInt (2 ^ (d : Nat)) := by decide +kernel
theorem I_or {a b : Nat} (ha : a < 2 ^ 31) (hb : b < 2 ^ 31) : Int32.ofInt (a : Int) ||| Int32.ofInt (b : Int) = Int32.ofInt ((a ||| b : Nat) : Int) := by
  apply Int32.toBitVec.inj
  rw [Int32.toBitVec_or, Int32.toBitVec_ofInt, Int32.toBitVec_ofInt, Int32.toBitVec_ofInt]
  apply BitVec.eq_of_toNat_eq
  simp [Nat.or_mod_two_pow]
theorem or_add {a b : Int} {m : Nat} (hm : m < 31) (ha : 0 ≤ a ∧ a < 2 ^ m) (hb : b = 0 ∨ b = 2 ^ m) : Int32.ofInt a ||| Int32.ofInt b = Int32.ofInt (a + b) := by
  have hp : (2 : Nat) ^ m < 2 ^ 31 := Nat.pow_lt_pow_right (by decide) hm
  have e : ((2 ^ m : Nat) : Int) = (2 : Int) ^ m := by rw [Int.natCast_pow]; rfl
  obtain ⟨n, rfl⟩ : ∃ n : Nat, a = (n : Int) := ⟨a.toNat, by omega⟩
  have hn : n < 2 ^ m := by have := ha.2; rw [← e] at this; omega
  rcases hb with rfl | rfl
  · have h := I_or (a := n) (b := 0) (by omega) (by decide)
    rw [Nat.or_zero] at h
    rw [Int.add_zero]
    exact h
  · have h := I_or (a := n) (b := 2 ^ m) (by omega) hp
    rw [e] at h
    rw [h]
    congr 1
    have q := Nat.two_pow_add_eq_or_of_lt hn 1
    rw [Nat.mul_one] at q
    rw [Nat.or_comm, ← q, Int.natCast_add, e, Int.add_comm]
section ROWSD
variable {x : Cx} {cc : ByteArray} {own : String} {nL : Nat} {rm : Room} {ws ws2 : aW} {pc : Nat} {L L2 : List (Nat × aV)} {st : List aV} {k n : Nat}
theorem v_ishl1 {d : Int} (h : 0 ≤ d ∧ d < 31) (hd : decode cc pc = .ok (.ishl, 1)) (kk : V x cc own nL rm ws (pc + 1) L (ai (2 ^ d.toNat) :: st) k n) : V x cc own nL rm ws pc L (ai d :: ai 1 :: st) k n := fun ok H locs ls hh => by
  have e := kk ok H locs ls hh
  have q := shl_1 ⟨d.toNat, by omega⟩
  rw [show (((⟨d.toNat, by omega⟩ : Fin 31) : Nat) : Int) = d by show ((d.toNat : Nat) : Int) = d; omega] at q
  rw [List.map_cons, show cV (ai (2 ^ d.toNat)) = .int (Int32.ofInt (2 ^ d.toNat)) from rfl, ← q] at e
  exact lv_ishl ok.1 ok.2.1 hd e
theorem v_ior {a b c : Int} (h : Int32.ofInt a ||| Int32.ofInt b = Int32.ofInt c) (hd : decode cc pc = .ok (.ior, 1)) (kk : V x cc own nL rm ws (pc + 1) L (ai c :: st) k n) : V x cc own nL rm ws pc L (ai b :: ai a :: st) k n := fun ok H locs ls hh => by
  have e := kk ok H locs ls hh
  rw [List.map_cons, show cV (ai c) = .int (Int32.ofInt c) from rfl, ← h] at e
  exact lv_ior ok.1 ok.2.1 hd e
theorem v_ixor {a b c : Int} (h : Int32.ofInt a ^^^ Int32.ofInt b = Int32.ofInt c) (hd : decode cc pc = .ok (.ixor, 1)) (kk : V x cc own nL rm ws (pc + 1) L (ai c :: st) k n) : V x cc own nL rm ws pc L (ai b :: ai a :: st) k n := fun ok H locs ls hh => by
  have e := kk ok H locs ls hh
  rw [List.map_cons, show cV (ai c) = .int (Int32.ofInt c) from rfl, ← h] at e
  exact lv_ixor ok.1 ok.2.1 hd e
theorem v_iand {a b c : Int} (h : Int32.ofInt a &&& Int32.ofInt b = Int32.ofInt c) (hd : decode cc pc = .ok (.iand, 1)) (kk : V x cc own nL rm ws (pc + 1) L (ai c :: st) k n) : V x cc own nL rm ws pc L (ai b :: ai a :: st) k n := fun ok H locs ls hh => by
  have e := kk ok H locs ls hh
  rw [List.map_cons, show cV (ai c) = .int (Int32.ofInt c) from rfl, ← h] at e
  exact lv_iand ok.1 ok.2.1 hd e
theorem v_ishl {a b c : Int} (h : Int32.ofInt a <<< (Int32.ofInt b &&& 31) = Int32.ofInt c) (hd : decode cc pc = .ok (.ishl, 1)) (kk : V x cc own nL rm ws (pc + 1) L (ai c :: st) k n) : V x cc own nL rm ws pc L (ai b :: ai a :: st) k n := fun ok H locs ls hh => by
  have e := kk ok H locs ls hh
  rw [List.map_cons, show cV (ai c) = .int (Int32.ofInt c) from rfl, ← h] at e
  exact lv_ishl ok.1 ok.2.1 hd e
theorem v_ishr {a b c : Int} (h : Int32.ofInt a >>> (Int32.ofInt b &&& 31) = Int32.ofInt c) (hd : decode cc pc = .ok (.ishr, 1)) (kk : V x cc own nL rm ws (pc + 1) L (ai c :: st) k n) : V x cc own nL rm ws pc L (ai b :: ai a :: st) k n := fun ok H locs ls hh => by
  have e := kk ok H locs ls hh
  rw [List.map_cons, show cV (ai c) = .int (Int32.ofInt c) from rfl, ← h] at e
  exact lv_ishr ok.1 ok.2.1 hd e
theorem v_ws (h : ws = ws2) (kk : V x cc own nL rm ws2 pc L st k n) : V x cc own nL rm ws pc L st k n := h ▸ kk
end ROWSD
/-- a set of numbers as bits -/
def bts (P : Nat → Bool) : Nat → Int
  | 0 => 0
  | m + 1 => bts P m + (if P m = true then 2 ^ m else 0)
theorem bts_b (P : Nat → Bool) : ∀ m : Nat, 0 ≤ bts P m ∧ bts P m < 2 ^ m
  | 0 => by simp [bts]
  | m + 1 => by
    have h := bts_b P m
    have e : (2 : Int) ^ (m + 1) = 2 ^ m * 2 := Int.pow_succ _ _
    unfold bts
    rw [e]
    split <;> omega
theorem bts_succ (P : Nat → Bool) (m : Nat) : bts P (m + 1) = bts P m + (if P m = true then 2 ^ m else 0) := rfl
theorem pow2_10 (k : Nat) (h : k ≤ 21) : (1 : Int) ≤ 2 ^ k ∧ (2 : Int) ^ k ≤ 2097152 := by
  have h1 : (2 : Nat) ^ k ≤ 2 ^ 21 := Nat.pow_le_pow_right (by decide) h
  have h2 : 0 < (2 : Nat) ^ k := Nat.pow_pos (by decide)
  have e : ((2 ^ k : Nat) : Int) = (2 : Int) ^ k := by rw [Int.natCast_pow]; rfl
  have e2 : (2 : Nat) ^ 21 = 2097152 := by decide
  rw [e2] at h1
  rw [← e]
  omega
/-- what was seen of the i-th: the draws by which that is so -/
def kSee (f : Int → Int) (i : Int) : Int := bts (fun d => decide (fCat f (f (73 + i)) (f (81 + i)) (f (89 + i)) (d : Int) (kOp f (f (73 + i)) (f (81 + i)) 0) = f (97 + i))) 10
def cld (f : Int → Int) (p : Int) : Nat → Bool
  | 0 => true
  | m + 1 => cld f p m && (decide (f (73 + (m : Int)) ≠ p) || decide (kSee f (m : Int) ≠ 0))
theorem cld_mono {f : Int → Int} {p : Int} : ∀ {m n : Nat}, m ≤ n → cld f p m = false → cld f p n = false
  | m, 0, h, e => by rw [show m = 0 by omega] at e; exact e
  | m, n + 1, h, e => by
    rcases Nat.lt_or_ge n m with q | q
    · rw [show m = n + 1 by omega] at e; exact e
    · unfold cld
      rw [cld_mono q e]
      rfl
def qCan (f : Int → Int) (i : Int) : Int := if 0 ≤ i ∧ i ≤ f 2 - 1 then kSee f i else -1
def qSkills (f : Int → Int) (p : Int) : Int := if ¬ (0 ≤ p ∧ p ≤ f 0 - 1) then -1 else bts (fun s => cld (aup f (19 + p) (s : Int)) p (f 2).toNat) 21
/-- the first row of the book, from k on, that is not so -/
def lkd (f : Int → Int) : Nat → Int → Int
  | 0, _ => -5
  | m + 1, k => if fMost f (f (105 + k)) ≠ f (113 + k) then k else lkd f m (k + 1)
def qLooked (f : Int → Int) : Int := lkd f (f 3).toNat 0
/-- glasses: the first by which G is most, and how much that is -/
def qGlass (f : Int → Int) (p w : Int) : Int := if ¬ ((0 ≤ p ∧ p ≤ f 0 - 1) ∧ (0 ≤ w ∧ w ≤ 1)) then -1 else if w = 0 then (bst (fun g => fMost (aup f (31 + p) g) p) 10).2 else (bst (fun g => fMost (aup f (31 + p) g) p) 10).1
