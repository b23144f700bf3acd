def aset (i : Nat) (v : aV) (L : List (Nat × aV)) : List (Nat × aV) := (i, v) :: L.filter (fun q => !(q.1 == i) && !(q.1 + 1 == i && aCat q.2 == 2))
def aset2 (i : Nat) (v : aV) (L : List (Nat × aV)) : List (Nat × aV) := (i, v) :: L.filter (fun q => !(q.1 == i) && (!(q.1 == i + 1) && !(q.1 + 1 == i && aCat q.2 == 2)))
theorem cL_set (i : Nat) (v : aV) (L : List (Nat × aV)) : (i, cV v) :: (cL L).filter (fun q => !(q.1 == i) && !(q.1 + 1 == i && q.2.category == 2)) = cL (aset i v L) := by
  unfold cL aset
  rw [List.map_cons, List.filter_map]
  refine congrArg (fun z => (i, cV v) :: z) (congrArg (List.map _) (List.filter_congr fun q _ => ?_))
  simp only [Function.comp, aCat_eq]
theorem cL_set2 (i : Nat) (v : aV) (L : List (Nat × aV)) : (i, cV v) :: (cL L).filter (fun q => !(q.1 == i) && (!(q.1 == i + 1) && !(q.1 + 1 == i && q.2.category == 2))) = cL (aset2 i v L) := by
  unfold cL aset2
  rw [List.map_cons, List.filter_map]
  refine congrArg (fun z => (i, cV v) :: z) (congrArg (List.map _) (List.filter_congr fun q _ => ?_))
  simp only [Function.comp, aCat_eq]
def iB (z : Int) : Prop := -2147483648 ≤ z ∧ z < 2147483648
def lB (z : Int) : Prop := -9223372036854775808 ≤ z ∧ z < 9223372036854775808
theorem tI {z : Int} (h : iB z) : (Int32.ofInt z).toInt = z := Int32.toInt_ofInt_of_le (by have := h.1; omega) (by have := h.2; omega)
theorem tL {z : Int} (h : lB z) : (Int64.ofInt z).toInt = z := Int64.toInt_ofInt_of_le (by have := h.1; omega) (by have := h.2; omega)
theorem I_eq {a b : Int} (ha : iB a) (hb : iB b) : Int32.ofInt a = Int32.ofInt b ↔ a = b := by rw [← Int32.toInt_inj, tI ha, tI hb]
theorem I_lt {a b : Int} (ha : iB a) (hb : iB b) : Int32.ofInt a < Int32.ofInt b ↔ a < b := by rw [Int32.lt_iff_toInt_lt, tI ha, tI hb]
theorem I_le {a b : Int} (ha : iB a) (hb : iB b) : Int32.ofInt a ≤ Int32.ofInt b ↔ a ≤ b := by rw [Int32.le_iff_toInt_le, tI ha, tI hb]
theorem I_0 : (0 : Int32) = Int32.ofInt 0 := rfl
theorem iB0 : iB 0 := ⟨by decide, by decide⟩
theorem I_of (z : Int32) : z = Int32.ofInt z.toInt ∧ iB z.toInt := ⟨(Int32.ofInt_toInt z).symm, by have h1 := Int32.le_toInt z; have h2 := Int32.toInt_lt z; unfold iB; omega⟩
theorem cond_ne {p : Prop} {a b : Int} (h : ¬ a = b) : a ≠ b := h
/-- a comparison of longs -/
def acmp (a b : Int) : Int := if a > b then 1 else if a = b then 0 else -1
theorem acmp_iB (a b : Int) : iB (acmp a b) := by unfold acmp iB; (repeat' split) <;> decide
theorem acmp_le {a b : Int} : acmp a b ≤ 0 ↔ a ≤ b := by unfold acmp; (repeat' split) <;> omega
theorem acmp_lt {a b : Int} : acmp a b < 0 ↔ a < b := by unfold acmp; (repeat' split) <;> omega
theorem acmp_ge {a b : Int} : 0 ≤ acmp a b ↔ b ≤ a := by unfold acmp; (repeat' split) <;> omega
theorem acmp_gt {a b : Int} : 0 < acmp a b ↔ b < a := by unfold acmp; (repeat' split) <;> omega
theorem acmp_eq {a b : Int} : acmp a b = 0 ↔ a = b := by unfold acmp; (repeat' split) <;> omega

section ROWSB
variable {x : Cx} {cc : ByteArray} {own : String} {nL : Nat} {rm : Room} {ws : aW} {pc : Nat} {L L2 : List (Nat × aV)} {st : List aV} {k n : Nat}
theorem v_istore {i : Nat} {z : Int} (hs : aset i (ai z) L = L2) (hn : i < nL) (hd : decode cc pc = .ok (.istore i, 2)) (kk : V x cc own nL rm ws (pc + 2) L2 st k n) : V x cc own nL rm ws pc L (ai z :: st) k n := fun ok H locs ls hh => by
  exact lv_istore (lv' := cL L2) ok.1 ok.2.1 hd hh.2.2.2 hn (by rw [← hs]; exact cL_set _ (ai z) L) (fun ls hl => kk ok H locs ls ⟨hh.1, hh.2.1, hh.2.2.1, hl⟩)
theorem v_istore_n {i : Fin 4} {z : Int} (hs : aset (i : Nat) (ai z) L = L2) (hn : (i : Nat) < nL) (hd : decode cc pc = .ok (.istore_n i, 1)) (kk : V x cc own nL rm ws (pc + 1) L2 st k n) : V x cc own nL rm ws pc L (ai z :: st) k n := fun ok H locs ls hh => by
  exact lv_istore_n (lv' := cL L2) ok.1 ok.2.1 hd rfl hh.2.2.2 hn (by rw [← hs]; exact cL_set _ (ai z) L) (fun ls hl => kk ok H locs ls ⟨hh.1, hh.2.1, hh.2.2.1, hl⟩)
theorem v_lstore {i : Nat} {z : Int} (hs : aset2 i (al z) L = L2) (hn : i + 1 < nL) (hd : decode cc pc = .ok (.lstore i, 2)) (kk : V x cc own nL rm ws (pc + 2) L2 st k n) : V x cc own nL rm ws pc L (al z :: st) k n := fun ok H locs ls hh => by
  exact lv_lstore (lv' := cL L2) ok.1 ok.2.1 hd hh.2.2.2 hn (by rw [← hs]; exact cL_set2 _ (al z) L) (fun ls hl => kk ok H locs ls ⟨hh.1, hh.2.1, hh.2.2.1, hl⟩)
theorem v_lstore_n {i : Fin 4} {z : Int} (hs : aset2 (i : Nat) (al z) L = L2) (hn : (i : Nat) + 1 < nL) (hd : decode cc pc = .ok (.lstore_n i, 1)) (kk : V x cc own nL rm ws (pc + 1) L2 st k n) : V x cc own nL rm ws pc L (al z :: st) k n := fun ok H locs ls hh => by
  exact lv_lstore_n (lv' := cL L2) ok.1 ok.2.1 hd rfl hh.2.2.2 hn (by rw [← hs]; exact cL_set2 _ (al z) L) (fun ls hl => kk ok H locs ls ⟨hh.1, hh.2.1, hh.2.2.1, hl⟩)
theorem v_astore {i : Nat} {o : Option Nat} (hs : aset i (aq o) L = L2) (hn : i < nL) (hd : decode cc pc = .ok (.astore i, 2)) (kk : V x cc own nL rm ws (pc + 2) L2 st k n) : V x cc own nL rm ws pc L (aq o :: st) k n := fun ok H locs ls hh => by
  cases o with
  | none => exact lv_astoreN (lv' := cL L2) ok.1 ok.2.1 hd hh.2.2.2 hn (by rw [← hs]; exact cL_set _ an L) (fun ls hl => kk ok H locs ls ⟨hh.1, hh.2.1, hh.2.2.1, hl⟩)
  | some a => exact lv_astore (lv' := cL L2) ok.1 ok.2.1 hd hh.2.2.2 hn (by rw [← hs]; exact cL_set _ (ar a) L) (fun ls hl => kk ok H locs ls ⟨hh.1, hh.2.1, hh.2.2.1, hl⟩)
theorem v_astore_n {i : Fin 4} {o : Option Nat} (hs : aset (i : Nat) (aq o) L = L2) (hn : (i : Nat) < nL) (hd : decode cc pc = .ok (.astore_n i, 1)) (kk : V x cc own nL rm ws (pc + 1) L2 st k n) : V x cc own nL rm ws pc L (aq o :: st) k n := fun ok H locs ls hh => by
  cases o with
  | none => exact lv_astore_nN (lv' := cL L2) ok.1 ok.2.1 hd rfl hh.2.2.2 hn (by rw [← hs]; exact cL_set _ an L) (fun ls hl => kk ok H locs ls ⟨hh.1, hh.2.1, hh.2.2.1, hl⟩)
  | some a => exact lv_astore_n (lv' := cL L2) ok.1 ok.2.1 hd rfl hh.2.2.2 hn (by rw [← hs]; exact cL_set _ (ar a) L) (fun ls hl => kk ok H locs ls ⟨hh.1, hh.2.1, hh.2.2.1, hl⟩)
theorem v_iinc {i : Nat} {z d : Int} (j : Nat) (hl : L[j]? = some (i, ai z)) (hs : aset i (ai (z + d)) L = L2) (hn : i < nL) (hd : decode cc pc = .ok (.iinc i d, 3)) (kk : V x cc own nL rm ws (pc + 3) L2 st k n) : V x cc own nL rm ws pc L st k n := fun ok H locs ls hh => by
  exact lv_iinc (k := j) (lv' := cL L2) (v := Int32.ofInt (z + d)) ok.1 ok.2.1 hd hh.2.2.2 (cL_at hl) (by rw [Int32.ofInt_add]) hn (by rw [← hs]; exact cL_set _ (ai (z + d)) L) (fun ls hl => kk ok H locs ls ⟨hh.1, hh.2.1, hh.2.2.1, hl⟩)
theorem v_iadd {a b : Int}  (hd : decode cc pc = .ok (.iadd, 1)) (kk : V x cc own nL rm ws (pc + 1) L (ai (a + b) :: st) k n) : V x cc own nL rm ws pc L (ai b :: ai a :: st) k n := fun ok H locs ls hh => by
  have e := kk ok H locs ls hh
  rw [List.map_cons, show cV (ai (a + b)) = .int (Int32.ofInt (a + b)) from rfl, Int32.ofInt_add] at e
  exact lv_iadd ok.1 ok.2.1 hd e
theorem v_isub {a b : Int}  (hd : decode cc pc = .ok (.isub, 1)) (kk : V x cc own nL rm ws (pc + 1) L (ai (a - b) :: st) k n) : V x cc own nL rm ws pc L (ai b :: ai a :: st) k n := fun ok H locs ls hh => by
  have e := kk ok H locs ls hh
  rw [List.map_cons, show cV (ai (a - b)) = .int (Int32.ofInt (a - b)) from rfl, Int32.ofInt_sub] at e
  exact lv_isub ok.1 ok.2.1 hd e
theorem v_imul {a b : Int}  (hd : decode cc pc = .ok (.imul, 1)) (kk : V x cc own nL rm ws (pc + 1) L (ai (a * b) :: st) k n) : V x cc own nL rm ws pc L (ai b :: ai a :: st) k n := fun ok H locs ls hh => by
  have e := kk ok H locs ls hh
  rw [List.map_cons, show cV (ai (a * b)) = .int (Int32.ofInt (a * b)) from rfl, Int32.ofInt_mul] at e
  exact lv_imul ok.1 ok.2.1 hd e
theorem v_ladd {a b : Int}  (hd : decode cc pc = .ok (.ladd, 1)) (kk : V x cc own nL rm ws (pc + 1) L (al (a + b) :: st) k n) : V x cc own nL rm ws pc L (al b :: al a :: st) k n := fun ok H locs ls hh => by
  have e := kk ok H locs ls hh
  rw [List.map_cons, show cV (al (a + b)) = .long (Int64.ofInt (a + b)) from rfl, Int64.ofInt_add] at e
  exact lv_ladd ok.1 ok.2.1 hd e
theorem v_lsub {a b : Int}  (hd : decode cc pc = .ok (.lsub, 1)) (kk : V x cc own nL rm ws (pc + 1) L (al (a - b) :: st) k n) : V x cc own nL rm ws pc L (al b :: al a :: st) k n := fun ok H locs ls hh => by
  have e := kk ok H locs ls hh
  rw [List.map_cons, show cV (al (a - b)) = .long (Int64.ofInt (a - b)) from rfl, Int64.ofInt_sub] at e
  exact lv_lsub ok.1 ok.2.1 hd e
theorem v_lmul {a b : Int}  (hd : decode cc pc = .ok (.lmul, 1)) (kk : V x cc own nL rm ws (pc + 1) L (al (a * b) :: st) k n) : V x cc own nL rm ws pc L (al b :: al a :: st) k n := fun ok H locs ls hh => by
  have e := kk ok H locs ls hh
  rw [List.map_cons, show cV (al (a * b)) = .long (Int64.ofInt (a * b)) from rfl, Int64.ofInt_mul] at e
  exact lv_lmul ok.1 ok.2.1 hd e
theorem Int32_div0 {a b : Int} (h0 : 0 ≤ a) (h1 : 0 < b) (ha : iB a) (hb : iB b) : Int32.ofInt a / Int32.ofInt b = Int32.ofInt (a / b) := by
  rw [← Int.tdiv_eq_ediv_of_nonneg h0, Int32.ofInt_tdiv ha.1 (Int.le_sub_one_of_lt ha.2) hb.1 (Int.le_sub_one_of_lt hb.2)]
theorem Int32_ne0 {b : Int} (h1 : 0 < b) (hb : iB b) : ¬ Int32.ofInt b = 0 := by
  intro q
  have e := congrArg Int32.toInt q
  rw [tI hb] at e
  have e2 : b = 0 := e
  omega
theorem v_idiv {a b : Int} (h0 : 0 ≤ a) (h1 : 0 < b) (ha : iB a) (hb : iB b) (hd : decode cc pc = .ok (.idiv, 1)) (kk : V x cc own nL rm ws (pc + 1) L (ai (a / b) :: st) k n) : V x cc own nL rm ws pc L (ai b :: ai a :: st) k n := fun ok H locs ls hh => by
  have e := kk ok H locs ls hh
  rw [List.map_cons, show cV (ai (a / b)) = .int (Int32.ofInt (a / b)) from rfl, ← Int32_div0 h0 h1 ha hb] at e
  exact lv_idiv ok.1 ok.2.1 hd (Int32_ne0 h1 hb) e
theorem v_irem {a b : Int} (h0 : 0 ≤ a) (h1 : 0 < b) (ha : iB a) (hb : iB b) (hd : decode cc pc = .ok (.irem, 1)) (kk : V x cc own nL rm ws (pc + 1) L (ai (a % b) :: st) k n) : V x cc own nL rm ws pc L (ai b :: ai a :: st) k n := fun ok H locs ls hh => by
  have e := kk ok H locs ls hh
  rw [List.map_cons, show cV (ai (a % b)) = .int (Int32.ofInt (a % b)) from rfl, Int.emod_def, Int32.ofInt_sub, Int32.ofInt_mul, ← Int32_div0 h0 h1 ha hb, Int32.mul_comm] at e
  exact lv_irem ok.1 ok.2.1 hd (Int32_ne0 h1 hb) e
theorem Int64_div0 {a b : Int} (h0 : 0 ≤ a) (h1 : 0 < b) (ha : lB a) (hb : lB b) : Int64.ofInt a / Int64.ofInt b = Int64.ofInt (a / b) := by
  rw [← Int.tdiv_eq_ediv_of_nonneg h0, Int64.ofInt_tdiv ha.1 (Int.le_sub_one_of_lt ha.2) hb.1 (Int.le_sub_one_of_lt hb.2)]
theorem Int64_ne0 {b : Int} (h1 : 0 < b) (hb : lB b) : ¬ Int64.ofInt b = 0 := by
  intro q
  have e := congrArg Int64.toInt q
  rw [tL hb] at e
  have e2 : b = 0 := e
  omega
theorem v_ldiv {a b : Int} (h0 : 0 ≤ a) (h1 : 0 < b) (ha : lB a) (hb : lB b) (hd : decode cc pc = .ok (.ldiv, 1)) (kk : V x cc own nL rm ws (pc + 1) L (al (a / b) :: st) k n) : V x cc own nL rm ws pc L (al b :: al a :: st) k n := fun ok H locs ls hh => by
  have e := kk ok H locs ls hh
  rw [List.map_cons, show cV (al (a / b)) = .long (Int64.ofInt (a / b)) from rfl, ← Int64_div0 h0 h1 ha hb] at e
  exact lv_ldiv ok.1 ok.2.1 hd (Int64_ne0 h1 hb) e
theorem v_lrem {a b : Int} (h0 : 0 ≤ a) (h1 : 0 < b) (ha : lB a) (hb : lB b) (hd : decode cc pc = .ok (.lrem, 1)) (kk : V x cc own nL rm ws (pc + 1) L (al (a % b) :: st) k n) : V x cc own nL rm ws pc L (al b :: al a :: st) k n := fun ok H locs ls hh => by
  have e := kk ok H locs ls hh
  rw [List.map_cons, show cV (al (a % b)) = .long (Int64.ofInt (a % b)) from rfl, Int.emod_def, Int64.ofInt_sub, Int64.ofInt_mul, ← Int64_div0 h0 h1 ha hb, Int64.mul_comm] at e
  exact lv_lrem ok.1 ok.2.1 hd (Int64_ne0 h1 hb) e
theorem v_ineg {a : Int} (hd : decode cc pc = .ok (.ineg, 1)) (kk : V x cc own nL rm ws (pc + 1) L (ai (-a) :: st) k n) : V x cc own nL rm ws pc L (ai a :: st) k n := fun ok H locs ls hh => by
  have e := kk ok H locs ls hh
  rw [List.map_cons, show cV (ai (-a)) = .int (Int32.ofInt (-a)) from rfl, Int32.ofInt_neg] at e
  exact lv_ineg ok.1 ok.2.1 hd e
theorem v_i2l {a : Int} (ha : iB a) (hd : decode cc pc = .ok (.i2l, 1)) (kk : V x cc own nL rm ws (pc + 1) L (al a :: st) k n) : V x cc own nL rm ws pc L (ai a :: st) k n := fun ok H locs ls hh =>
  lv_i2l (v := Int64.ofInt a) ok.1 ok.2.1 hd (Int32.toInt64_ofInt ha.1 (Int.le_sub_one_of_lt ha.2)) (kk ok H locs ls hh)
theorem lg_acmp {a b : Int} (ha : lB a) (hb : lB b) : lg_cmp (Int64.ofInt a) (Int64.ofInt b) = Int32.ofInt (acmp a b) := by
  unfold lg_cmp acmp
  simp only [gt_iff_lt, Int64.lt_iff_toInt_lt, ← Int64.toInt_inj, tL ha, tL hb]
  split
  · rfl
  · split <;> rfl
theorem v_lcmp {a b : Int} (ha : lB a) (hb : lB b) (hd : decode cc pc = .ok (.lcmp, 1)) (kk : V x cc own nL rm ws (pc + 1) L (ai (acmp a b) :: st) k n) : V x cc own nL rm ws pc L (al b :: al a :: st) k n := fun ok H locs ls hh => by
  have e := kk ok H locs ls hh
  rw [List.map_cons, show cV (ai (acmp a b)) = .int (Int32.ofInt (acmp a b)) from rfl, ← lg_acmp ha hb] at e
  exact W.lcmp ok.1 ok.2.1 hd e
theorem v_dup {v : aV} (hv : aCat v = 1) (hd : decode cc pc = .ok (.dup, 1)) (kk : V x cc own nL rm ws (pc + 1) L (v :: v :: st) k n) : V x cc own nL rm ws pc L (v :: st) k n := fun ok H locs ls hh =>
  lv_dup ok.1 ok.2.1 hd ((aCat_eq v).trans hv) (kk ok H locs ls hh)
theorem v_pop {v : aV} (hv : aCat v = 1) (hd : decode cc pc = .ok (.pop, 1)) (kk : V x cc own nL rm ws (pc + 1) L st k n) : V x cc own nL rm ws pc L (v :: st) k n := fun ok H locs ls hh =>
  lv_pop ok.1 ok.2.1 hd ((aCat_eq v).trans hv) (kk ok H locs ls hh)
theorem v_dup2 {v w : aV} (hv : aCat v = 1) (hw : aCat w = 1) (hd : decode cc pc = .ok (.dup2, 1)) (kk : V x cc own nL rm ws (pc + 1) L (v :: w :: v :: w :: st) k n) : V x cc own nL rm ws pc L (v :: w :: st) k n := fun ok H locs ls hh =>
  lv_dup2_11 ok.1 ok.2.1 hd ((aCat_eq v).trans hv) ((aCat_eq w).trans hw) (kk ok H locs ls hh)
theorem v_null (hd : decode cc pc = .ok (.aconst_null, 1)) (kk : V x cc own nL rm ws (pc + 1) L (an :: st) k n) : V x cc own nL rm ws pc L st k n := fun ok H locs ls hh => lv_null ok.1 ok.2.1 hd (kk ok H locs ls hh)
theorem v_goto {off : Int} (tgt : Nat) (hd : decode cc pc = .ok (.goto off, 3)) (ht : (pc : Int) + off = (tgt : Int)) (kk : V x cc own nL rm ws tgt L st k n) : V x cc own nL rm ws pc L st k n := fun ok H locs ls hh => lv_goto ok.1 ok.2.1 hd ht (kk ok H locs ls hh)
theorem v_ifnull_r {a : Nat} {off : Int} (hd : decode cc pc = .ok (.ifnull off, 3)) (kk : V x cc own nL rm ws (pc + 3) L st k n) : V x cc own nL rm ws pc L (ar a :: st) k n := fun ok H locs ls hh => lv_ifnull ok.1 ok.2.1 hd (kk ok H locs ls hh)
theorem v_ifnull_n {off : Int} (tgt : Nat) (hd : decode cc pc = .ok (.ifnull off, 3)) (ht : (pc : Int) + off = (tgt : Int)) (kk : V x cc own nL rm ws tgt L st k n) : V x cc own nL rm ws pc L (an :: st) k n := fun ok H locs ls hh => lv_ifnullN ok.1 ok.2.1 hd ht (kk ok H locs ls hh)
theorem v_ifnonnull_r {a : Nat} {off : Int} (tgt : Nat) (hd : decode cc pc = .ok (.ifnonnull off, 3)) (ht : (pc : Int) + off = (tgt : Int)) (kk : V x cc own nL rm ws tgt L st k n) : V x cc own nL rm ws pc L (ar a :: st) k n := fun ok H locs ls hh => lv_ifnonnull ok.1 ok.2.1 hd ht (kk ok H locs ls hh)
theorem v_ifnonnull_n {off : Int} (hd : decode cc pc = .ok (.ifnonnull off, 3)) (kk : V x cc own nL rm ws (pc + 3) L st k n) : V x cc own nL rm ws pc L (an :: st) k n := fun ok H locs ls hh => lv_ifnonnullN ok.1 ok.2.1 hd (kk ok H locs ls hh)
theorem v_icmp_eq {a b : Int} {off : Int} (tgt : Nat) (hd : decode cc pc = .ok (.if_icmp .eq off, 3)) (ht : (pc : Int) + off = (tgt : Int)) (ha : iB a) (hb : iB b) (kt : a = b → V x cc own nL rm ws tgt L st k n) (kf : ¬ a = b → V x cc own nL rm ws (pc + 3) L st k n) : V x cc own nL rm ws pc L (ai b :: ai a :: st) k n := fun ok H locs ls hh =>
  lv_icmp_eq ok.1 ok.2.1 hd ht (fun q => kt ((I_eq ha hb).mp q) ok H locs ls hh) (fun q => kf (id (fun z => q ((I_eq ha hb).mpr z))) ok H locs ls hh)
theorem v_if_eq {a : Int} {off : Int} (tgt : Nat) (hd : decode cc pc = .ok (.ifCond .eq off, 3)) (ht : (pc : Int) + off = (tgt : Int)) (ha : iB a) (kt : a = 0 → V x cc own nL rm ws tgt L st k n) (kf : ¬ a = 0 → V x cc own nL rm ws (pc + 3) L st k n) : V x cc own nL rm ws pc L (ai a :: st) k n := fun ok H locs ls hh =>
  lv_if_eq ok.1 ok.2.1 hd ht (fun q => kt ((I_eq ha iB0).mp q) ok H locs ls hh) (fun q => kf (id (fun z => q ((I_eq ha iB0).mpr z))) ok H locs ls hh)
theorem v_icmp_ne {a b : Int} {off : Int} (tgt : Nat) (hd : decode cc pc = .ok (.if_icmp .ne off, 3)) (ht : (pc : Int) + off = (tgt : Int)) (ha : iB a) (hb : iB b) (kt : ¬ a = b → V x cc own nL rm ws tgt L st k n) (kf : a = b → V x cc own nL rm ws (pc + 3) L st k n) : V x cc own nL rm ws pc L (ai b :: ai a :: st) k n := fun ok H locs ls hh =>
  lv_icmp_ne ok.1 ok.2.1 hd ht (fun q => kt ((not_congr (I_eq ha hb)).mp q) ok H locs ls hh) (fun q => kf ((I_eq ha hb).mp q) ok H locs ls hh)
theorem v_if_ne {a : Int} {off : Int} (tgt : Nat) (hd : decode cc pc = .ok (.ifCond .ne off, 3)) (ht : (pc : Int) + off = (tgt : Int)) (ha : iB a) (kt : ¬ a = 0 → V x cc own nL rm ws tgt L st k n) (kf : a = 0 → V x cc own nL rm ws (pc + 3) L st k n) : V x cc own nL rm ws pc L (ai a :: st) k n := fun ok H locs ls hh =>
  lv_if_ne ok.1 ok.2.1 hd ht (fun q => kt ((not_congr (I_eq ha iB0)).mp q) ok H locs ls hh) (fun q => kf ((I_eq ha iB0).mp q) ok H locs ls hh)
theorem v_icmp_lt {a b : Int} {off : Int} (tgt : Nat) (hd : decode cc pc = .ok (.if_icmp .lt off, 3)) (ht : (pc : Int) + off = (tgt : Int)) (ha : iB a) (hb : iB b) (kt : a < b → V x cc own nL rm ws tgt L st k n) (kf : b ≤ a → V x cc own nL rm ws (pc + 3) L st k n) : V x cc own nL rm ws pc L (ai b :: ai a :: st) k n := fun ok H locs ls hh =>
  lv_icmp_lt ok.1 ok.2.1 hd ht (fun q => kt ((I_lt ha hb).mp q) ok H locs ls hh) (fun q => kf (Int.not_lt.mp (fun z => q ((I_lt ha hb).mpr z))) ok H locs ls hh)
theorem v_if_lt {a : Int} {off : Int} (tgt : Nat) (hd : decode cc pc = .ok (.ifCond .lt off, 3)) (ht : (pc : Int) + off = (tgt : Int)) (ha : iB a) (kt : a < 0 → V x cc own nL rm ws tgt L st k n) (kf : 0 ≤ a → V x cc own nL rm ws (pc + 3) L st k n) : V x cc own nL rm ws pc L (ai a :: st) k n := fun ok H locs ls hh =>
  lv_if_lt ok.1 ok.2.1 hd ht (fun q => kt ((I_lt ha iB0).mp q) ok H locs ls hh) (fun q => kf (Int.not_lt.mp (fun z => q ((I_lt ha iB0).mpr z))) ok H locs ls hh)
theorem v_icmp_ge {a b : Int} {off : Int} (tgt : Nat) (hd : decode cc pc = .ok (.if_icmp .ge off, 3)) (ht : (pc : Int) + off = (tgt : Int)) (ha : iB a) (hb : iB b) (kt : b ≤ a → V x cc own nL rm ws tgt L st k n) (kf : a < b → V x cc own nL rm ws (pc + 3) L st k n) : V x cc own nL rm ws pc L (ai b :: ai a :: st) k n := fun ok H locs ls hh =>
  lv_icmp_ge ok.1 ok.2.1 hd ht (fun q => kt ((I_le hb ha).mp q) ok H locs ls hh) (fun q => kf (Int.not_le.mp (fun z => q ((I_le hb ha).mpr z))) ok H locs ls hh)
theorem v_if_ge {a : Int} {off : Int} (tgt : Nat) (hd : decode cc pc = .ok (.ifCond .ge off, 3)) (ht : (pc : Int) + off = (tgt : Int)) (ha : iB a) (kt : 0 ≤ a → V x cc own nL rm ws tgt L st k n) (kf : a < 0 → V x cc own nL rm ws (pc + 3) L st k n) : V x cc own nL rm ws pc L (ai a :: st) k n := fun ok H locs ls hh =>
  lv_if_ge ok.1 ok.2.1 hd ht (fun q => kt ((I_le iB0 ha).mp q) ok H locs ls hh) (fun q => kf (Int.not_le.mp (fun z => q ((I_le iB0 ha).mpr z))) ok H locs ls hh)
theorem v_icmp_gt {a b : Int} {off : Int} (tgt : Nat) (hd : decode cc pc = .ok (.if_icmp .gt off, 3)) (ht : (pc : Int) + off = (tgt : Int)) (ha : iB a) (hb : iB b) (kt : b < a → V x cc own nL rm ws tgt L st k n) (kf : a ≤ b → V x cc own nL rm ws (pc + 3) L st k n) : V x cc own nL rm ws pc L (ai b :: ai a :: st) k n := fun ok H locs ls hh =>
  lv_icmp_gt ok.1 ok.2.1 hd ht (fun q => kt ((I_lt hb ha).mp q) ok H locs ls hh) (fun q => kf (Int.not_lt.mp (fun z => q ((I_lt hb ha).mpr z))) ok H locs ls hh)
theorem v_if_gt {a : Int} {off : Int} (tgt : Nat) (hd : decode cc pc = .ok (.ifCond .gt off, 3)) (ht : (pc : Int) + off = (tgt : Int)) (ha : iB a) (kt : 0 < a → V x cc own nL rm ws tgt L st k n) (kf : a ≤ 0 → V x cc own nL rm ws (pc + 3) L st k n) : V x cc own nL rm ws pc L (ai a :: st) k n := fun ok H locs ls hh =>
  lv_if_gt ok.1 ok.2.1 hd ht (fun q => kt ((I_lt iB0 ha).mp q) ok H locs ls hh) (fun q => kf (Int.not_lt.mp (fun z => q ((I_lt iB0 ha).mpr z))) ok H locs ls hh)
theorem v_icmp_le {a b : Int} {off : Int} (tgt : Nat) (hd : decode cc pc = .ok (.if_icmp .le off, 3)) (ht : (pc : Int) + off = (tgt : Int)) (ha : iB a) (hb : iB b) (kt : a ≤ b → V x cc own nL rm ws tgt L st k n) (kf : b < a → V x cc own nL rm ws (pc + 3) L st k n) : V x cc own nL rm ws pc L (ai b :: ai a :: st) k n := fun ok H locs ls hh =>
  lv_icmp_le ok.1 ok.2.1 hd ht (fun q => kt ((I_le ha hb).mp q) ok H locs ls hh) (fun q => kf (Int.not_le.mp (fun z => q ((I_le ha hb).mpr z))) ok H locs ls hh)
theorem v_if_le {a : Int} {off : Int} (tgt : Nat) (hd : decode cc pc = .ok (.ifCond .le off, 3)) (ht : (pc : Int) + off = (tgt : Int)) (ha : iB a) (kt : a ≤ 0 → V x cc own nL rm ws tgt L st k n) (kf : 0 < a → V x cc own nL rm ws (pc + 3) L st k n) : V x cc own nL rm ws pc L (ai a :: st) k n := fun ok H locs ls hh =>
  lv_if_le ok.1 ok.2.1 hd ht (fun q => kt ((I_le ha iB0).mp q) ok H locs ls hh) (fun q => kf (Int.not_le.mp (fun z => q ((I_le ha iB0).mpr z))) ok H locs ls hh)
theorem b_iB {P : Prop} [Decidable P] : iB (if P then 1 else 0) := by unfold iB; split <;> decide
theorem v_ifb_eq {P : Prop} {dp : Decidable P} {off : Int} (tgt : Nat) (hd : decode cc pc = .ok (.ifCond .eq off, 3)) (ht : (pc : Int) + off = (tgt : Int)) (kt : ¬ P → V x cc own nL rm ws tgt L st k n) (kf : P → V x cc own nL rm ws (pc + 3) L st k n) : V x cc own nL rm ws pc L (ai (@ite Int P dp 1 0) :: st) k n :=
  v_if_eq tgt hd ht b_iB (fun q => kt (fun z => by rw [if_pos z] at q; cases q)) (fun q => kf (Classical.byContradiction fun z => q (if_neg z)))
theorem v_ifb_ne {P : Prop} {dp : Decidable P} {off : Int} (tgt : Nat) (hd : decode cc pc = .ok (.ifCond .ne off, 3)) (ht : (pc : Int) + off = (tgt : Int)) (kt : P → V x cc own nL rm ws tgt L st k n) (kf : ¬ P → V x cc own nL rm ws (pc + 3) L st k n) : V x cc own nL rm ws pc L (ai (@ite Int P dp 1 0) :: st) k n :=
  v_if_ne tgt hd ht b_iB (fun q => kt (Classical.byContradiction fun z => q (if_neg z))) (fun q => kf (fun z => by rw [if_pos z] at q; cases q))
theorem v_sw_out {a lo hi dflt : Int} {offs : Array Int} {len : Nat} (tgt : Nat) (hd : decode cc pc = .ok (.tableswitch dflt lo hi offs, len)) (ht : (pc : Int) + dflt = (tgt : Int)) (ha : iB a) (h : a < lo ∨ hi < a) (kk : V x cc own nL rm ws tgt L st k n) : V x cc own nL rm ws pc L (ai a :: st) k n := fun ok H locs ls hh =>
  lv_tableOut ok.1 ok.2.1 hd (by rw [tI ha]; exact h) ht (kk ok H locs ls hh)
theorem v_sw_in {a lo hi dflt : Int} {offs : Array Int} {len : Nat} {off : Int} (tgt j : Nat) (hd : decode cc pc = .ok (.tableswitch dflt lo hi offs, len)) (ha : iB a) (h1 : ¬ a < lo) (h2 : ¬ hi < a) (hj : (a - lo).toNat = j) (ho : offs[j]? = some off) (ht : (pc : Int) + off = (tgt : Int)) (kk : V x cc own nL rm ws tgt L st k n) : V x cc own nL rm ws pc L (ai a :: st) k n := fun ok H locs ls hh =>
  lv_tableIn ok.1 ok.2.1 hd (by rw [tI ha]; exact h1) (by rw [tI ha]; exact h2) (by rw [tI ha, hj]; exact ho) ht (kk ok H locs ls hh)
theorem v_name {z : Int} (kk : ∀ y : Int, y = z → V x cc own nL rm ws pc L (ai y :: st) k n) : V x cc own nL rm ws pc L (ai z :: st) k n := kk z rfl
theorem v_eqi {z y : Int} (h : z = y) (kk : V x cc own nL rm ws pc L (ai y :: st) k n) : V x cc own nL rm ws pc L (ai z :: st) k n := h ▸ kk
theorem v_eql {z y : Int} (h : z = y) (kk : V x cc own nL rm ws pc L (al y :: st) k n) : V x cc own nL rm ws pc L (al z :: st) k n := h ▸ kk
end ROWSB
