/-! ===== contracts that say less; the class's cells by the reference's row ===== -/
theorem Ct.mono {S T : Type} {g : sG} {y : MethodName} {cc : ByteArray} {nL : Nat} {ret : Option FieldType} {fr lo mc ms : Nat} {args : List aV} {ws : aW} {ro ro2 : Nat × aC → Prop} {good : S → Prop} {R : S → Option aV} {W2 : S → aW} {good2 : T → Prop} {R2 : T → Option aV} {W3 : T → aW}
    (h : Ct g y cc nL ret fr lo mc ms args ws ro good R W2) (hro : ∀ q, ro q → ro2 q) (hp : ∀ u, good u → ∃ v, good2 v ∧ R2 v = R u ∧ W3 v = W2 u) : Ct g y cc nL ret fr lo mc ms args ws ro2 good2 R2 W3 := by
  intro l D cA sz p e ha hc hk s m a below hf happ hP hK
  obtain ⟨h1, h2, h3, h4, h5, h6, h7⟩ := hP
  obtain ⟨n, o, g1, g2, g3, hQ⟩ := h l D cA sz p e ha hc hk s m a below hf happ ⟨h1, h2, h3, h4, h5, h6, fun q hq => h7 q (hro q hq)⟩ hK
  obtain ⟨⟨⟨u, e1, e2, e3, e4⟩, hF⟩, hL⟩ := hQ
  obtain ⟨v, k1, k2, k3⟩ := hp u e2
  exact ⟨n, o, g1, g2, g3, ⟨⟨v, by rw [k2]; exact e1, k1, by rw [k3]; exact e3, by rw [k3]; exact e4⟩, hF⟩, hL⟩
/-- a player's class by its kind -/
def kC (k : Int) : Nat := if k = 0 then 5 else if k = 1 then 8 else if k = 2 then 0 else if k = 3 then 7 else if k = 4 then 1 else if k = 5 then 2 else 9
def zpT (k : Int) (tu : Nat) : List aV := if k = 6 then [ar tu] else []
abbrev zpL (ta : Nat) (f : Int → Int) (p : Int) (tl : List aV) : List aV := ar ta :: ai (f (7 + p)) :: ai p :: ai (f (13 + p)) :: ai (f (19 + p)) :: ai (f (25 + p)) :: ai (f (31 + p)) :: ai (f (37 + p)) :: ai (f (43 + p)) :: tl
abbrev zpO (ta : Nat) (f : Int → Int) (p : Int) (tu : Nat) : aC := co (kC (f (7 + p))) (zpL ta f p (zpT (f (7 + p)) tu))
def tnF (f : Int → Int) (p : Int) : Int → Int := fun k => if 0 ≤ k ∧ k < 4 then f (49 + 4 * p + k) else 0
theorem tnF_at {f : Int → Int} {p k : Int} (h : 0 ≤ k ∧ k < 4) : tnF f p k = f (49 + 4 * p + k) := if_pos h
theorem tnF_cg {f g : Int → Int} {p : Int} (h : ∀ j : Int, 0 ≤ j → j < 4 → f (49 + 4 * p + j) = g (49 + 4 * p + j)) : tnF f p = tnF g p := by
  funext j
  unfold tnF
  split
  · rename_i q
    exact h j q.1 q.2
  · rfl
/-- a told player's row; of another one its object once more -/
def tqC (ta : Nat) (f : Int → Int) (p : Int) (pl tu : Nat) : Nat × aC := if f (7 + p) = 6 then (tu, cn 0 4 (tnF f p)) else (pl, zpO ta f p tu)
def zpW (ta : Nat) (f : Int → Int) (pl tu : Int → Nat) (p : Int) : aW := (pl p, zpO ta f p (tu p)) :: (if f (7 + p) = 6 then [(tu p, cn 0 4 (tnF f p))] else [])
def zpS (ta : Nat) (f : Int → Int) (pl tu : Int → Nat) (n : Nat) : aW := (List.range n).flatMap (fun i : Nat => zpW ta f pl tu (i : Int))
abbrev zpA (ta : Nat) (f : Int → Int) (pl tu : Int → Nat) : aW := zpS ta f pl tu (f 0).toNat
theorem zpS_in {ta : Nat} {f : Int → Int} {pl tu : Int → Nat} {n : Nat} {p : Int} {q : Nat × aC} (h0 : 0 ≤ p) (h1 : p < (n : Int)) (hq : q ∈ zpW ta f pl tu p) : q ∈ zpS ta f pl tu n := by
  refine List.mem_flatMap.mpr ⟨p.toNat, List.mem_range.mpr (by omega), ?_⟩
  rw [show ((p.toNat : Nat) : Int) = p by omega]
  exact hq
theorem zpA_p {ta : Nat} {f : Int → Int} {pl tu : Int → Nat} {p : Int} (h : 0 ≤ p ∧ p ≤ f 0 - 1) : (pl p, zpO ta f p (tu p)) ∈ zpA ta f pl tu := zpS_in h.1 (by omega) List.mem_cons_self
theorem zpA_t {ta : Nat} {f : Int → Int} {pl tu : Int → Nat} {p : Int} (h : 0 ≤ p ∧ p ≤ f 0 - 1) : tqC ta f p (pl p) (tu p) ∈ zpA ta f pl tu := by
  unfold tqC
  split
  · rename_i h6
    refine zpS_in h.1 (by omega) ?_
    unfold zpW
    rw [if_pos h6]
    exact List.mem_cons_of_mem _ List.mem_cons_self
  · exact zpA_p h
theorem tq_6 {ta : Nat} {f : Int → Int} {p : Int} {pl tu : Nat} (h : f (7 + p) = 6) : tqC ta f p pl tu = (tu, cn 0 4 (tnF f p)) := if_pos h
theorem zpO_k {ta : Nat} {f : Int → Int} {p k : Int} {tu c : Nat} {tl : List aV} (h : f (7 + p) = k) (hc : kC k = c) (ht : zpT k tu = tl) : zpO ta f p tu = co c (zpL ta f p tl) := by
  show co (kC (f (7 + p))) (zpL ta f p (zpT (f (7 + p)) tu)) = _
  rw [h, hc, ht]
/-- skill and glasses of a player are so for once -/
def fS (f : Int → Int) (p s g : Int) : Int → Int := aup (aup f (19 + p) s) (31 + p) g
theorem fS_n {f : Int → Int} {p s g j : Int} (h1 : j ≠ 19 + p) (h2 : j ≠ 31 + p) : fS f p s g j = f j := by
  unfold fS
  rw [aup_n _ _ h2, aup_n _ _ h1]
theorem fS_s {f : Int → Int} {p s g : Int} : fS f p s g (19 + p) = s := by
  unfold fS
  rw [aup_n _ _ (by omega), aup_s]
theorem fS_g {f : Int → Int} {p s g : Int} : fS f p s g (31 + p) = g := aup_s _ _ _
theorem fS_id {f : Int → Int} {p : Int} : fS f p (f (19 + p)) (f (31 + p)) = f := by
  unfold fS
  rw [aup_id, aup_id]
theorem SOK_S {f : Int → Int} {p s g : Int} (h : SOK f) (hp : 0 ≤ p ∧ p < 6) (hs : 0 ≤ s ∧ s ≤ 20) (hg : 0 ≤ g ∧ g ≤ 9) : SOK (fS f p s g) :=
  SOK_up (SOK_up h (Or.inl (by omega))) (Or.inr (Or.inl (by omega)))
def kRs (f : Int → Int) (p n : Int) : Int := kLean (f (7 + p)) (f (13 + p)) (fRow f p) - n / 2
abbrev pO (fa : Nat) (m : Nat → Int) : List aV := [ar fa, ai (m 0), ai (m 1), ai (m 2), ai (m 3), ai (m 4), ai (m 5)]
def pMf (f : Int → Int) (p n : Int) : Nat → Int
  | 0 => n
  | 1 => 10 * f (25 + p)
  | 2 => kRs f p n
  | 3 => fUn f p
  | 4 => kWide f
  | _ => kOp f p n 0
theorem fTu_r {f : Int → Int} {p n fo : Int} : fTu f p n fo = 5 * fo + kRs f p n := by
  unfold fTu kTurn kRs
  omega
theorem kRs_b {f : Int → Int} {p n : Int} (hf : PF f p) (hn : 0 ≤ n ∧ n ≤ 99) : -200 ≤ kRs f p n ∧ kRs f p n ≤ 100 := by
  have h1 := fTu_b (n := n) (force := 0) hf hn (by omega)
  have h2 := fTu_b (n := n) (force := 20) hf hn (by omega)
  rw [fTu_r] at h1 h2
  omega
theorem pf_b {f : Int → Int} {p n : Int} (hS : SOK f) (hp : 0 ≤ p ∧ p < 6) (hn : 0 ≤ n ∧ n ≤ 99) : (-200 ≤ kRs f p n ∧ kRs f p n ≤ 100) ∧ (0 ≤ fUn f p ∧ fUn f p ≤ 21) ∧ (0 ≤ kWide f ∧ kWide f ≤ 99) ∧ (0 ≤ f (25 + p) ∧ f (25 + p) ≤ 9) ∧ (0 ≤ n ∧ n ≤ 99) ∧ (0 ≤ kOp f p n 0 ∧ kOp f p n 0 ≤ 100000) := by
  have hf := hS.2.1 p hp.1 hp.2
  have h1 := kOp_b (p := p) (n := n) (more := 0) hS.2.2.2.2.2.2 hS.1 hn (by omega)
  exact ⟨kRs_b hf hn, fUn_b hf, kWide_b hS.1, hf.2.2.2.2.1, hn, by omega⟩
/-- an inn that holds, by its cells -/
def inC (f : Int → Int) (iv : Int → Option Nat) (bar hq : Nat) (ns us : Int) (sl en cd : Int → Int) : Prop := ((f 1 = 0 ∧ hq = bar) ∨ ((1 ≤ f 1 ∧ f 1 ≤ 5) ∧ iv (f 1 - 1) = some hq)) ∧ EIn (SL f) ns us sl en cd ∧ wfD 0 (SL f) ∧ us ≤ 100 ∧ ns ≤ 10
theorem slF_b : ∀ (l : List Int) (d : Nat) (u : Int) (i : Nat) (q : Int × Int), wfD d l → (slF u l)[i]? = some q → -200 ≤ q.1 ∧ q.1 ≤ 200
  | [], _, _, i, q, _, h => by
    simp [slF] at h
  | s :: r, d, u, i, q, hw, h => by
    unfold wfD at hw
    rw [slF] at h
    by_cases hs : -10 < s
    · rw [if_pos hs] at h
      split at hw
      · exact slF_b r _ _ i q hw.2.2 h
      · split at hw
        · exact slF_b r _ _ i q hw.2 h
        · (first | rw [if_pos hs] at hw | skip)
          exact slF_b r _ _ i q hw.2.2 h
    · rw [if_neg hs] at h
      rw [if_neg (by omega), if_neg (by omega), if_neg hs] at hw
      cases i with
      | zero =>
        have e : (slV s, u) = q := Option.some.inj h
        rw [← e]
        show -200 ≤ slV s ∧ slV s ≤ 200
        unfold slV
        split <;> omega
      | succ i => exact slF_b r _ _ i q hw.2.2 h
theorem inC_sl {f : Int → Int} {iv : Int → Option Nat} {bar hq : Nat} {ns us : Int} {sl en cd : Int → Int} (h : inC f iv bar hq ns us sl en cd) : ∀ k : Int, 0 ≤ k → k < ns → -200 ≤ sl k ∧ sl k ≤ 200 := by
  obtain ⟨-, ⟨h1, h2, h3, h4⟩, hw, -, -⟩ := h
  intro k k0 k1
  have hk : k.toNat < (slF 0 (SL f)).length := by omega
  have e := h4 k.toNat _ (List.getElem?_eq_getElem hk)
  rw [show ((k.toNat : Nat) : Int) = k by omega] at e
  rw [e.1]
  exact slF_b _ _ _ _ _ hw (List.getElem?_eq_getElem hk)
theorem inC_en {f : Int → Int} {iv : Int → Option Nat} {bar hq : Nat} {ns us : Int} {sl en cd : Int → Int} (h : inC f iv bar hq ns us sl en cd) : ∀ (b : Int → Int) (m : Nat), (m : Int) < ns → (0 ≤ frE en m ∧ frE en m ≤ en (m : Int) ∧ en (m : Int) ≤ 100) ∧ ∀ q : Nat, (q : Int) < en (m : Int) - frE en m → okC (evC b cd (frE en m) q) (cd (frE en m + (q : Int))) := by
  obtain ⟨-, ⟨h1, h2, h3, h4⟩, hw, h5, h6⟩ := h
  intro b m hm
  have hl : (cdL (SL f)).length = us.toNat := by omega
  exact ok_ev (cd := cd) (sl := sl) (en := en) (SL f) 0 0 0 100 (Int.le_refl _) (Int.le_refl _) (by omega) (fun i c z => by rw [Int.zero_add]; exact h3 i c z) (fun i r z => by rw [Nat.zero_add]; exact h4 i r z) rfl
    (fun b => ⟨⟨hw, Nat.zero_le _⟩, fun q hq => by omega⟩) b m (Nat.zero_le _) (by omega)
theorem inC_op {f : Int → Int} {iv : Int → Option Nat} {bar hq : Nat} {ns us : Int} {sl en cd fa2 : Int → Int} {p n s g : Int} (h : inC f iv bar hq ns us sl en cd) (h5 : -1 ≤ f 5) (hp : 0 ≤ p ∧ p < 6) (hb : ∀ k : Int, 0 ≤ k → k < 6 → fa2 k = fbv p (f (7 + p)) (n / 10) g s (f 6 % 10) k) : (if 0 < opS fa2 cd sl en n ns.toNat then opS fa2 cd sl en n ns.toNat else 0) = kOp (fS f p s g) p n 0 := by
  obtain ⟨-, hE, hw, -, -⟩ := h
  have hB : kB (fS f p s g) p n = fbv p (f (7 + p)) (n / 10) g s (f 6 % 10) := by
    unfold kB
    rw [fS_n (by omega) (by omega), fS_g, fS_s, fS_n (by omega) (by omega)]
  have hL : SL (fS f p s g) = SL f := by
    unfold fS
    rw [SL_up (by rw [aup_n _ _ (by omega)]; exact h5) (by omega), SL_up h5 (by omega)]
  have e := EIn_op (b := fa2) (b2 := kB (fS f p s g) p n) (n := n) hE hw (fun k k0 k1 => by rw [hB]; exact hb k k0 k1)
  have e2 : kOp (fS f p s g) p n 0 = if n + (evL (kB (fS f p s g) p n) (SL f)).2.1 - (evL (kB (fS f p s g) p n) (SL f)).2.2 - 0 < 0 then 0 else n + (evL (kB (fS f p s g) p n) (SL f)).2.1 - (evL (kB (fS f p s g) p n) (SL f)).2.2 - 0 := by
    unfold kOp kSl kGl
    rw [hL]
  rw [e, e2]
  (repeat' split) <;> omega
theorem pMf_S {f : Int → Int} {p n s g LE UN OP : Int} {fa : Nat} (hp : 0 ≤ p ∧ p < 6) (h5 : -1 ≤ f 5) (hl : kLean (f (7 + p)) (f (13 + p)) (fRow f p) = LE) (hu : kUnsOf (f (7 + p)) s g = UN) (ho : OP = kOp (fS f p s g) p n 0) : pO fa (pMf (fS f p s g) p n) = [ar fa, ai n, ai (10 * f (25 + p)), ai (LE - n / 2), ai UN, ai (kWide f), ai OP] := by
  have h1 : fS f p s g (25 + p) = f (25 + p) := fS_n (by omega) (by omega)
  have h2 : kRs (fS f p s g) p n = LE - n / 2 := by
    unfold kRs
    have e : fRow (fS f p s g) p = fRow f p := by
      unfold fRow
      rw [fS_n (show (6 : Int) ≠ 19 + p by omega) (by omega), fS_n (by omega) (by omega)]
    rw [e, fS_n (by omega) (by omega), fS_n (by omega) (by omega), hl]
  have h3 : fUn (fS f p s g) p = UN := by
    unfold fUn
    rw [fS_n (by omega) (by omega), fS_s, fS_g, hu]
  have h4 : kWide (fS f p s g) = kWide f := by
    unfold fS
    rw [kWide_up (by rw [aup_n _ _ (by omega)]; exact h5) (by omega), kWide_up h5 (by omega)]
  show [ar fa, ai n, ai (10 * fS f p s g (25 + p)), ai (kRs (fS f p s g) p n), ai (fUn (fS f p s g) p), ai (kWide (fS f p s g)), ai (kOp (fS f p s g) p n 0)] = _
  rw [h1, h2, h3, h4, ho]
