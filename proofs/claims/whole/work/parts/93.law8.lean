/-! ===== what holds at every call of the law ===== -/
def NowI (il : aW) (bar : Nat) (f : Int → Int) (pv iv : Int → Option Nat) (pl : Int → Nat) (tp sp sm sf sc bp bm : Int → Int) : Prop :=
  SOK f ∧ PI f pv pl ∧ WI il bar f iv ∧ RW 100 121 f tp ∧ RW 8 73 f sp ∧ RW 8 81 f sm ∧ RW 8 89 f sf ∧ RW 8 97 f sc ∧ RW 8 105 f bp ∧ RW 8 113 f bm
def KepI (il : aW) (bar : Nat) (g : Int → Int) (v3 : Int) (pv2 iv2 : Int → Option Nat) (kpl : Int → Nat) (u0 u1 u2 u3 u4 u5 u6 : Int → Int) (kn : Nat) (z0 z1 z2 z3 z4 z5 : Int) : Prop :=
  v3 = 0 ∨ (v3 = 1 ∧ NowI il bar g pv2 iv2 kpl u0 u1 u2 u3 u4 u5 u6 ∧ kn = (g 0).toNat ∧ z0 = g 0 ∧ z1 = g 1 ∧ z2 = g 4 ∧ z3 = g 2 ∧ z4 = g 3 ∧ z5 = g 6)
def TrI (r : Int) (tr bd : Int → Int) : Prop := tr 0 = r ∧ (0 ≤ r ∧ r ≤ 1000) ∧ ∀ i : Int, 0 ≤ i → i < 20 → i < r → tr (1 + i) = bd i
theorem TrI_B {r : Int} {tr bd : Int → Int} (h : TrI r tr bd) : trB tr 1000 := by
  unfold trB
  rw [h.1]
  exact h.2.1
theorem NowI_mono {il il2 : aW} {bar : Nat} {f : Int → Int} {pv iv : Int → Option Nat} {pl : Int → Nat} {tp sp sm sf sc bp bm : Int → Int} (hs : ∀ q, q ∈ il → q ∈ il2) (h : NowI il bar f pv iv pl tp sp sm sf sc bp bm) : NowI il2 bar f pv iv pl tp sp sm sf sc bp bm :=
  ⟨h.1, h.2.1, WI_mono hs h.2.2.1, h.2.2.2⟩
theorem KepI_mono {il il2 : aW} {bar : Nat} {g : Int → Int} {v3 : Int} {pv2 iv2 : Int → Option Nat} {kpl : Int → Nat} {u0 u1 u2 u3 u4 u5 u6 : Int → Int} {kn : Nat} {z0 z1 z2 z3 z4 z5 : Int} (hs : ∀ q, q ∈ il → q ∈ il2) (h : KepI il bar g v3 pv2 iv2 kpl u0 u1 u2 u3 u4 u5 u6 kn z0 z1 z2 z3 z4 z5) : KepI il2 bar g v3 pv2 iv2 kpl u0 u1 u2 u3 u4 u5 u6 kn z0 z1 z2 z3 z4 z5 :=
  h.imp id (fun q => ⟨q.1, NowI_mono hs q.2.1, q.2.2⟩)
theorem WI_iv {il : aW} {bar : Nat} {f : Int → Int} {iv iv2 : Int → Option Nat} (h : WI il bar f iv) (h1 : f 1 ≤ 5) (he : ∀ j : Int, 0 ≤ j → j < 5 → iv2 j = iv j) (h0 : 0 ≤ f 1) : WI il bar f iv2 := by
  refine ⟨fun j j0 j1 => ?_, fun j j0 j1 => ?_, h.2.2⟩
  · rw [he j j0 (by omega)]
    exact h.1 j j0 j1
  · rw [he j (by omega) j1]
    exact h.2.1 j j0 j1
/-- what a writing call leaves of what holds -/
theorem NowI_set {il : aW} {bar : Nat} {f F : Int → Int} {pv iv : Int → Option Nat} {pl : Int → Nat} {tp sp sm sf sc bp bm : Int → Int} (h : NowI il bar f pv iv pl tp sp sm sf sc bp bm) (hS : SOK F) (he : ∀ j : Int, j = 0 ∨ j = 1 ∨ 73 ≤ j → F j = f j) : NowI il bar F pv iv pl tp sp sm sf sc bp bm := by
  obtain ⟨h0, h1, h2, h3, h4, h5, h6, h7, h8, h9⟩ := h
  have hg1 := h0.1.2.1
  exact ⟨hS, PI_eq (he 0 (Or.inl rfl)) h1, WI_eq (he 1 (Or.inr (Or.inl rfl))) (fun j hj => he j (by omega)) h2 hg1.2, RW_eq (fun j j0 j1 => he j (by omega)) h3, RW_eq (fun j j0 j1 => he j (by omega)) h4, RW_eq (fun j j0 j1 => he j (by omega)) h5, RW_eq (fun j j0 j1 => he j (by omega)) h6, RW_eq (fun j j0 j1 => he j (by omega)) h7, RW_eq (fun j j0 j1 => he j (by omega)) h8, RW_eq (fun j j0 j1 => he j (by omega)) h9⟩
theorem tr_st {tr bd : Int → Int} {n b : Int} (h : tr 0 = n ∧ 0 ≤ n ∧ ∀ i : Int, 0 ≤ i → i < 20 → i < n → tr (1 + i) = bd i) : bg tr b 0 = (rb (bd, n) b).2 ∧ 0 ≤ (rb (bd, n) b).2 ∧ ∀ i : Int, 0 ≤ i → i < 20 → i < (rb (bd, n) b).2 → bg tr b (1 + i) = (rb (bd, n) b).1 i := by
  obtain ⟨h1, h2, h3⟩ := h
  unfold bg rb
  dsimp only
  rw [h1]
  by_cases c : n < 20
  · rw [if_pos c, if_pos (by omega)]
    refine ⟨by rw [aup_n _ _ (by omega), aup_s], by omega, fun i i0 i1 i2 => ?_⟩
    by_cases z : i = n
    · subst z
      rw [show 1 + i = i + 1 by omega, aup_s, aup_s]
    · rw [aup_n _ _ (by omega), aup_n _ _ (by omega), aup_n _ _ z]
      exact h3 i i0 i1 (by omega)
  · rw [if_neg c, if_neg (by omega)]
    refine ⟨aup_s _ _ _, by omega, fun i i0 i1 i2 => ?_⟩
    rw [aup_n _ _ (by omega)]
    exact h3 i i0 i1 (by omega)
theorem tr_fd : ∀ (l : List Int) (tr bd : Int → Int) (n : Int), (tr 0 = n ∧ 0 ≤ n ∧ ∀ i : Int, 0 ≤ i → i < 20 → i < n → tr (1 + i) = bd i) → (l.foldl bg tr 0 = (l.foldl rb (bd, n)).2 ∧ 0 ≤ (l.foldl rb (bd, n)).2 ∧ ∀ i : Int, 0 ≤ i → i < 20 → i < (l.foldl rb (bd, n)).2 → l.foldl bg tr (1 + i) = (l.foldl rb (bd, n)).1 i) ∧ (l.foldl rb (bd, n)).2 = n + (l.length : Int)
  | [], tr, bd, n, h => ⟨h, by simp⟩
  | b :: r, tr, bd, n, h => by
    have q := tr_fd r (bg tr b) (rb (bd, n) b).1 (rb (bd, n) b).2 (tr_st h)
    rw [List.foldl_cons, List.foldl_cons, List.length_cons]
    refine ⟨q.1, q.2.trans ?_⟩
    show n + 1 + (r.length : Int) = _
    omega
theorem lAct_len {f : Int → Int} {p a : Int} : ((lAct f p a).length : Int) ≤ 20 := by
  have h1 : ∀ k : Int, ((bS k).length : Int) ≤ 2 := fun k => by unfold bS; (repeat' split) <;> simp
  have h2 : ∀ k : Int, ((bC k).length : Int) ≤ 4 := fun k => by
    have := h1 k
    unfold bC
    (repeat' split) <;> simp only [List.length_cons] <;> omega
  have h3 : ∀ k : Int, ((bT k).length : Int) ≤ 8 := fun k => by
    have := h1 k
    have := h2 k
    unfold bT
    (repeat' split) <;> simp only [List.length_cons, List.length_append] <;> omega
  unfold lAct
  have a1 := h1 (f (7 + p))
  have a2 := h2 (f (7 + p))
  have a3 := h3 (f (7 + p))
  (repeat' split) <;> first | (simp; done) | omega
theorem TrI_act {f tr bd bd2 : Int → Int} {p a r : Int} (h : (bd2, r) = (lAct f p a).foldl rb (bd, 0)) : TrI r ((lAct f p a).foldl bg (aup tr 0 0)) bd2 := by
  have q := tr_fd (lAct f p a) (aup tr 0 0) bd 0 ⟨aup_s _ _ _, Int.le_refl _, fun i i0 i1 i2 => by omega⟩
  rw [← h] at q
  have hl := lAct_len (f := f) (p := p) (a := a)
  exact ⟨q.1.1, ⟨q.1.2.1, by have := q.2; dsimp only at this; omega⟩, q.1.2.2⟩
/-- cells of the reference ahead of all others -/
theorem perm_f {a b c d e r : aW} : (a ++ (b ++ (c ++ (d ++ (e ++ r))))).Perm (r ++ (a ++ (b ++ (c ++ (d ++ e))))) :=
  pf_s (pf_s (pf_s (pf_s List.perm_append_comm)))
/-- the script: read alone -/
def Sc (x : Cx) (b N : Nat) (xf : Int → Int) : Prop := ∃ xv : Nat → Int32, va_X b N xv (xs x) (xs x).heap ∧ b < (xs x).heap.size ∧ ¬ xA x b ∧ ∀ j : Int, xf j = (xv j.toNat).toInt
section SCR
variable {x : Cx} {cc : ByteArray} {own : String} {nL : Nat} {rm : Room} {ws : aW} {pc : Nat} {L : List (Nat × aV)} {st : List aV} {k n : Nat} {b N : Nat} {xf : Int → Int}
theorem v_xald {i : Int} (hX : Sc x b N xf) (h0 : 0 ≤ i) (h1 : i < N) (hN : N < 2147483648) (hd : decode cc pc = .ok (.iaload, 1)) (kk : V x cc own nL rm ws (pc + 1) L (ai (xf i) :: st) k n) : V x cc own nL rm ws pc L (ai i :: ar b :: st) k n := fun ok H locs ls hh => by
  obtain ⟨xv, hx, hbl, hbA, he⟩ := hX
  have e := kk ok H locs ls hh
  have en : (Int32.ofInt i).toNatClampNeg = i.toNat := by
    have := I_nat (i := i) h0 (by omega)
    omega
  rw [List.map_cons, show cV (ai (xf i)) = .int (xv (Int32.ofInt i).toNatClampNeg) by rw [cV_i, he i, Int32.ofInt_toInt, en]] at e
  exact va_sld ok.1 ok.2.1 hx hbl hbA hh.2.2.1 (I_in h0 h1 hN) hd e
theorem v_xlen (hX : Sc x b N xf) (hd : decode cc pc = .ok (.arraylength, 1)) (kk : V x cc own nL rm ws (pc + 1) L (ai N :: st) k n) : V x cc own nL rm ws pc L (ar b :: st) k n := fun ok H locs ls hh => by
  obtain ⟨xv, hx, hbl, hbA, he⟩ := hX
  exact va_slen ok.1 ok.2.1 hx hbl hbA hh.2.2.1 hd (kk ok H locs ls hh)
end SCR
