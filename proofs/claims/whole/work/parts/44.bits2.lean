/-! ===== the truths of an inn as bits of a number ===== -/
theorem n2_eq {a b : Nat} (h1 : a / 2 = b / 2) (h2 : a % 2 = 1 ↔ b % 2 = 1) : a = b := by
  have h3 : a % 2 = b % 2 := by
    rcases Nat.mod_two_eq_zero_or_one a with q | q <;> rcases Nat.mod_two_eq_zero_or_one b with p | p <;> omega
  omega
def ipos (z : Int) : Prop := 0 ≤ z ∧ z < 1073741824
theorem bvn {z : Int} (h : 0 ≤ z ∧ z < 2147483648) : (Int32.ofInt z).toBitVec.toNat = z.toNat := by
  rw [Int32.toBitVec_ofInt, BitVec.toNat_ofInt]
  omega
theorem I_of_nat {x : Int32} {z : Int} (h : 0 ≤ z ∧ z < 2147483648) (e : x.toBitVec.toNat = z.toNat) : x = Int32.ofInt z := by
  apply Int32.toBitVec_inj.mp
  apply BitVec.eq_of_toNat_eq
  rw [bvn h, e]
theorem b_and1 {z : Int} (h : ipos z) : Int32.ofInt z &&& Int32.ofInt 1 = Int32.ofInt (z % 2) := by
  unfold ipos at h
  refine I_of_nat (by omega) ?_
  show ((Int32.ofInt z).toBitVec &&& 1#32).toNat = _
  rw [BitVec.toNat_and, bvn (by omega)]
  show z.toNat &&& 1 = _
  rw [Nat.and_one_is_mod]
  omega
theorem b_shl {z : Int} (h : ipos z) : Int32.ofInt z <<< (Int32.ofInt 1 &&& 31) = Int32.ofInt (2 * z) := by
  unfold ipos at h
  refine I_of_nat (by omega) ?_
  show ((Int32.ofInt z).toBitVec <<< 1).toNat = _
  rw [BitVec.toNat_shiftLeft, bvn (by omega), Nat.shiftLeft_eq]
  omega
theorem b_shr {z : Int} (h : ipos z) : Int32.ofInt z >>> (Int32.ofInt 1 &&& 31) = Int32.ofInt (z / 2) := by
  unfold ipos at h
  refine I_of_nat (by omega) ?_
  show ((Int32.ofInt z).toBitVec.sshiftRight 1).toNat = _
  rw [BitVec.sshiftRight_eq_of_msb_false, BitVec.toNat_ushiftRight, bvn (by omega), Nat.shiftRight_eq_div_pow]
  · omega
  · rw [BitVec.msb_eq_toInt]
    exact decide_eq_false (by rw [show (Int32.ofInt z).toBitVec.toInt = z from tI (by unfold iB; omega)]; omega)
theorem b_or {z b : Int} (h : ipos z) (hb : b = 0 ∨ b = 1) : Int32.ofInt z ||| Int32.ofInt b = Int32.ofInt (z - z % 2 + (if z % 2 = 1 ∨ b = 1 then 1 else 0)) := by
  unfold ipos at h
  refine I_of_nat (by split <;> omega) ?_
  show ((Int32.ofInt z).toBitVec ||| (Int32.ofInt b).toBitVec).toNat = _
  rw [BitVec.toNat_or, bvn (by omega), bvn (by omega)]
  refine n2_eq ?_ ?_
  · rw [Nat.or_div_two, show b.toNat / 2 = 0 by omega, Nat.or_zero]
    split <;> omega
  · rw [Nat.or_mod_two_eq_one]
    split <;> omega
theorem b_xor {z : Int} (h : ipos z) : Int32.ofInt z ^^^ Int32.ofInt 1 = Int32.ofInt (z - z % 2 + (if z % 2 = 1 then 0 else 1)) := by
  unfold ipos at h
  refine I_of_nat (by split <;> omega) ?_
  show ((Int32.ofInt z).toBitVec ^^^ 1#32).toNat = _
  rw [BitVec.toNat_xor, bvn (by omega)]
  refine n2_eq ?_ ?_
  · rw [Nat.xor_div_two, show (1#32).toNat / 2 = 0 from rfl, Nat.xor_zero]
    split <;> omega
  · rw [Nat.xor_mod_two_eq_one, show (1#32).toNat % 2 = 1 from rfl]
    split <;> omega
theorem b_andm2 {z : Int} (h : ipos z) : Int32.ofInt z &&& Int32.ofInt (-2) = Int32.ofInt (z - z % 2) := by
  unfold ipos at h
  refine I_of_nat (by omega) ?_
  show ((Int32.ofInt z).toBitVec &&& 4294967294#32).toNat = _
  rw [BitVec.toNat_and, bvn (by omega)]
  show z.toNat &&& 4294967294 = _
  refine n2_eq ?_ ?_
  · rw [Nat.and_div_two, show 4294967294 / 2 = 2 ^ 31 - 1 from rfl, Nat.and_two_pow_sub_one_eq_mod]
    omega
  · rw [Nat.and_mod_two_eq_one]
    omega
/-- a row of truths as a number -/
def bz : List Bool → Int
  | [] => 0
  | t :: r => 2 * bz r + (if t = true then 1 else 0)
theorem bz_b : ∀ l : List Bool, 0 ≤ bz l ∧ bz l < 2 ^ l.length
  | [] => by unfold bz; decide
  | t :: r => by
    have h := bz_b r
    have e : (2 : Int) ^ (r.length + 1) = 2 ^ r.length * 2 := Int.pow_succ _ _
    rw [bz, List.length_cons, e]
    split <;> omega
theorem bz_p {l : List Bool} (h : l.length ≤ 25) : ipos (bz l) ∧ bz l < 33554433 := by
  have h1 := bz_b l
  have h2 : (2 : Nat) ^ l.length ≤ 2 ^ 25 := Nat.pow_le_pow_right (by decide) h
  have e : ((2 ^ l.length : Nat) : Int) = (2 : Int) ^ l.length := by rw [Int.natCast_pow]; rfl
  have e2 : (2 : Nat) ^ 25 = 33554432 := by decide
  unfold ipos
  omega
def tstC (b : Int → Int) (t : Int) : Bool := if t / 100 % 3 = 0 then decide (b (t / 300) < t % 100) else if t / 100 % 3 = 1 then decide (b (t / 300) = t % 100) else decide (t % 100 < b (t / 300))
theorem tstC_t {b : Int → Int} {t : Int} : tstC b t = true ↔ (t / 100 % 3 = 0 ∧ b (t / 300) < t % 100) ∨ (t / 100 % 3 = 1 ∧ b (t / 300) = t % 100) ∨ (¬ t / 100 % 3 = 0 ∧ ¬ t / 100 % 3 = 1 ∧ t % 100 < b (t / 300)) := by
  unfold tstC
  by_cases h0 : t / 100 % 3 = 0
  · rw [if_pos h0, decide_eq_true_iff]; omega
  · by_cases h1 : t / 100 % 3 = 1
    · rw [if_neg h0, if_pos h1, decide_eq_true_iff]; omega
    · rw [if_neg h0, if_neg h1, decide_eq_true_iff]; omega
def cst (b : Int → Int) (e : List Bool) (c : Int) : List Bool := if 0 ≤ c then tstC b c :: e else if c = -1 then nt1 e else bn2 c e
def evC (b cd : Int → Int) (i : Int) : Nat → List Bool
  | 0 => []
  | m + 1 => cst b (evC b cd i m) (cd (i + (m : Int)))
def okC (e : List Bool) (c : Int) : Prop := e.length ≤ 24 ∧ ((0 ≤ c ∧ c < 1800) ∨ (c = -1 ∧ 1 ≤ e.length) ∨ ((c = -2 ∨ c = -3) ∧ 2 ≤ e.length))
theorem bz_tst {b : Int → Int} {e : List Bool} {c : Int} (h : 0 ≤ c) : bz (cst b e c) = 2 * bz e + (if tstC b c = true then 1 else 0) := by
  unfold cst
  rw [if_pos h]
  rfl
theorem bz_not {b : Int → Int} {e : List Bool} {c : Int} (hc : c = -1) (h : 1 ≤ e.length) : bz (cst b e c) = bz e - bz e % 2 + (if bz e % 2 = 1 then 0 else 1) := by
  subst hc
  unfold cst
  rw [if_neg (by decide), if_pos rfl]
  match e, h with
  | t :: r, _ =>
    unfold nt1
    simp only [bz]
    cases t <;> simp <;> omega
theorem bz_and {b : Int → Int} {e : List Bool} {c : Int} (hc : c = -2) (h : 2 ≤ e.length) : bz (cst b e c) = if bz e % 2 = 1 then bz e / 2 else bz e / 2 - bz e / 2 % 2 := by
  subst hc
  unfold cst
  rw [if_neg (by decide), if_neg (by decide)]
  match e, h with
  | t2 :: t1 :: r, _ =>
    unfold bn2
    simp only [bz]
    cases t1 <;> cases t2 <;> simp <;> omega
theorem bz_or {b : Int → Int} {e : List Bool} {c : Int} (hc : c = -3) (h : 2 ≤ e.length) : bz (cst b e c) = bz e / 2 - bz e / 2 % 2 + (if bz e / 2 % 2 = 1 ∨ bz e % 2 = 1 then 1 else 0) := by
  subst hc
  unfold cst
  rw [if_neg (by decide), if_neg (by decide)]
  match e, h with
  | t2 :: t1 :: r, _ =>
    unfold bn2
    simp only [bz]
    cases t1 <;> cases t2 <;> simp <;> omega
theorem bz_hd (e : List Bool) : (if hdB e = true then (1 : Int) else 0) = bz e % 2 := by
  cases e with
  | nil => rfl
  | cons t r =>
    show (if t = true then (1 : Int) else 0) = (2 * bz r + (if t = true then 1 else 0)) % 2
    split <;> omega
theorem cst_len {b : Int → Int} {e : List Bool} {c : Int} : (cst b e c).length ≤ e.length + 1 := by
  unfold cst
  split
  · simp
  · split
    · cases e <;> simp [nt1]
    · match e with
      | [] => simp [bn2]
      | [_] => simp [bn2]
      | _ :: _ :: _ => simp [bn2]
def frE (en : Int → Int) (m : Nat) : Int := if m = 0 then 0 else en ((m : Int) - 1)
/-- how far it opens, slip by slip -/
def opS (b cd sl en : Int → Int) (n : Int) : Nat → Int
  | 0 => n
  | m + 1 => opS b cd sl en n m + (if hdB (evC b cd (frE en m) (en (m : Int) - frE en m).toNat) = true then sl (m : Int) else 0)
theorem opS_b {b cd sl en : Int → Int} {n : Int} : ∀ m : Nat, (∀ k : Int, 0 ≤ k → k < (m : Int) → -200 ≤ sl k ∧ sl k ≤ 200) → n - 200 * (m : Int) ≤ opS b cd sl en n m ∧ opS b cd sl en n m ≤ n + 200 * (m : Int)
  | 0, _ => by unfold opS; omega
  | m + 1, h => by
    have h1 := opS_b (b := b) (cd := cd) (sl := sl) (en := en) (n := n) m (fun k a c => h k a (by omega))
    have h2 := h (m : Int) (by omega) (by omega)
    rw [opS]
    split <;> omega
