/-! ===== an inn of the class and the reference's steps ===== -/
def encS (s : Int) : Int := if 0 ≤ s then (s % 8 * 3 + s / 8 % 4) * 100 + s / 32 else s
def slV (s : Int) : Int := if -200 < s then -10 - s else 200 + s
def cdL : List Int → List Int
  | [] => []
  | s :: r => if -10 < s then encS s :: cdL r else cdL r
def slF : Int → List Int → List (Int × Int)
  | _, [] => []
  | u, s :: r => if -10 < s then slF (u + 1) r else (slV s, u) :: slF u r
theorem tst_enc {b : Int → Int} {s : Int} (h0 : 0 ≤ s) (h8 : s % 8 ≤ 5) (h4 : s / 8 % 4 ≤ 2) (h9 : s / 32 ≤ 99) : tstC b (encS s) = tst b s := by
  unfold tstC tst encS
  rw [if_pos h0]
  have h : ∀ A B C : Int, 0 ≤ B → B ≤ 2 → 0 ≤ C → C ≤ 99 → ((A * 3 + B) * 100 + C) / 100 % 3 = B ∧ ((A * 3 + B) * 100 + C) / 300 = A ∧ ((A * 3 + B) * 100 + C) % 100 = C := by
    intro A B C h1 h2 h3 h4
    omega
  obtain ⟨e1, e2, e3⟩ := h (s % 8) (s / 8 % 4) (s / 32) (by omega) h4 (by omega) h9
  rw [e1, e2, e3]
/-- steps as the parser makes them: small parts, few truths at a time -/
def wfD : Nat → List Int → Prop
  | _, [] => True
  | d, s :: r => if 0 ≤ s then (s % 8 ≤ 5 ∧ s / 8 % 4 ≤ 2 ∧ s / 32 ≤ 99) ∧ d < 24 ∧ wfD (d + 1) r else if s = -1 then 1 ≤ d ∧ wfD d r else if -10 < s then (s = -2 ∨ s = -3) ∧ 2 ≤ d ∧ wfD (d - 1) r else d = 1 ∧ -300 ≤ s ∧ wfD 0 r
theorem wfD_S : ∀ (l : List Int) (d : Nat), wfD d l → wfS d l
  | [], _, _ => trivial
  | s :: r, d, h => by
    unfold wfD at h
    unfold wfS
    split at h
    · rw [if_pos (by assumption)]
      exact ⟨h.1.1, by omega, by omega, wfD_S r _ h.2.2⟩
    · rw [if_neg (by assumption)]
      split at h
      · rw [if_pos (by assumption)]
        exact ⟨h.1, wfD_S r _ h.2⟩
      · rw [if_neg (by assumption)]
        split at h
        · rw [if_pos (by assumption)]
          exact ⟨h.2.1, wfD_S r _ h.2.2⟩
        · rw [if_neg (by assumption)]
          exact ⟨h.1, h.2.1, wfD_S r _ h.2.2⟩
theorem bn2_len {s : Int} {e : List Bool} (h : 2 ≤ e.length) : (bn2 s e).length = e.length - 1 := by
  match e, h with
  | _ :: _ :: _, _ => rfl
theorem nt1_len {e : List Bool} : (nt1 e).length = e.length := by cases e <;> rfl
theorem op_ev {b cd sl en : Int → Int} {n : Int} : ∀ (r : List Int) (u fr : Int) (k ns : Nat) (e : List Bool) (s1 s2 : Int), fr ≤ u → (∀ (i : Nat) (c : Int), (cdL r)[i]? = some c → cd (u + (i : Int)) = c) → (∀ (i : Nat) (q : Int × Int), (slF u r)[i]? = some q → sl ((k + i : Nat) : Int) = q.1 ∧ en ((k + i : Nat) : Int) = q.2) → ns = k + (slF u r).length → frE en k = fr → e = evC b cd fr (u - fr).toNat → wfD e.length r →
    opS b cd sl en n ns = opS b cd sl en n k + ((r.foldl (stp b) (e, s1, s2)).2.1 - s1) - ((r.foldl (stp b) (e, s1, s2)).2.2 - s2)
  | [], u, fr, k, ns, e, s1, s2, _, _, _, hn, _, _, _ => by
    have e1 : ns = k := hn
    rw [e1]
    show _ = _ + (s1 - s1) - (s2 - s2)
    omega
  | s :: r, u, fr, k, ns, e, s1, s2, hfu, hC, hS, hn, hfr, he, hw => by
    rw [List.foldl_cons]
    by_cases hs : -10 < s
    · have hc0 : cd u = encS s := by
        have := hC 0 (encS s) (by rw [cdL, if_pos hs]; rfl)
        rwa [show u + ((0 : Nat) : Int) = u by omega] at this
      have hC2 : ∀ (i : Nat) (c : Int), (cdL r)[i]? = some c → cd (u + 1 + (i : Int)) = c := fun i c h => by
        have := hC (i + 1) c (by rw [cdL, if_pos hs]; exact h)
        rwa [show u + ((i + 1 : Nat) : Int) = u + 1 + (i : Int) by omega] at this
      have hS2 : slF u (s :: r) = slF (u + 1) r := by rw [slF, if_pos hs]
      rw [hS2] at hS hn
      have he2 : cst b e (encS s) = evC b cd fr (u + 1 - fr).toNat := by
        rw [show (u + 1 - fr).toNat = (u - fr).toNat + 1 by omega]
        show _ = cst b (evC b cd fr (u - fr).toNat) (cd (fr + (((u - fr).toNat : Nat) : Int)))
        rw [show fr + (((u - fr).toNat : Nat) : Int) = u by omega, ← he, hc0]
      have key : stp b (e, s1, s2) s = (cst b e (encS s), s1, s2) ∧ wfD (cst b e (encS s)).length r := by
        unfold wfD at hw
        unfold stp cst
        by_cases h0 : 0 ≤ s
        · rw [if_pos h0] at hw
          have hen : 0 ≤ encS s := by unfold encS; rw [if_pos h0]; omega
          rw [if_pos h0, if_pos hen, tst_enc h0 hw.1.1 hw.1.2.1 hw.1.2.2]
          exact ⟨rfl, hw.2.2⟩
        · have hen : encS s = s := by unfold encS; rw [if_neg h0]
          rw [if_neg h0] at hw
          rw [hen, if_neg h0, if_neg h0]
          by_cases h1 : s = -1
          · rw [if_pos h1] at hw
            rw [if_pos h1, if_pos h1]
            exact ⟨rfl, by rw [nt1_len]; exact hw.2⟩
          · rw [if_neg h1, if_pos hs] at hw
            rw [if_neg h1, if_neg h1, if_pos hs]
            exact ⟨rfl, by rw [bn2_len hw.2.1]; exact hw.2.2⟩
      rw [key.1]
      exact op_ev r (u + 1) fr k ns _ s1 s2 (by omega) hC2 hS hn hfr he2 key.2
    · have hd : cdL (s :: r) = cdL r := by rw [cdL, if_neg hs]
      rw [hd] at hC
      have hf : slF u (s :: r) = (slV s, u) :: slF u r := by rw [slF, if_neg hs]
      rw [hf] at hS hn
      obtain ⟨hk1, hk2⟩ := hS 0 (slV s, u) rfl
      rw [show ((k + 0 : Nat) : Int) = (k : Int) by omega] at hk1 hk2
      have hS3 : ∀ (i : Nat) (q : Int × Int), (slF u r)[i]? = some q → sl ((k + 1 + i : Nat) : Int) = q.1 ∧ en ((k + 1 + i : Nat) : Int) = q.2 := fun i q h => by
        have := hS (i + 1) q h
        rwa [show k + (i + 1) = k + 1 + i by omega] at this
      unfold wfD at hw
      rw [if_neg (by omega), if_neg (by omega), if_neg hs] at hw
      have key : stp b (e, s1, s2) s = ([], s1 + (if hdB e = true ∧ -200 < s then -10 - s else 0), s2 + (if hdB e = true ∧ s ≤ -200 then -200 - s else 0)) := by
        unfold stp
        rw [if_neg (by omega), if_neg (by omega), if_neg hs]
      rw [key]
      have hfr2 : frE en (k + 1) = u := by
        unfold frE
        rw [if_neg (by omega), show ((k + 1 : Nat) : Int) - 1 = (k : Int) by omega]
        exact hk2
      have ih := op_ev (b := b) (n := n) r u u (k + 1) ns [] (s1 + (if hdB e = true ∧ -200 < s then -10 - s else 0)) (s2 + (if hdB e = true ∧ s ≤ -200 then -200 - s else 0)) (Int.le_refl _) hC hS3 (by rw [hn, List.length_cons]; omega) hfr2 (by rw [show (u - u).toNat = 0 by omega]; rfl) hw.2.2
      rw [ih]
      have ho : opS b cd sl en n (k + 1) = opS b cd sl en n k + (if hdB e = true then slV s else 0) := by
        rw [opS, hfr, hk2, ← he, hk1]
      rw [ho]
      unfold slV
      by_cases hb : hdB e = true
      · rw [if_pos hb]
        by_cases h2 : -200 < s
        · rw [if_pos h2, if_pos ⟨hb, h2⟩, if_neg (fun z => absurd z.2 (by omega))]; omega
        · rw [if_neg h2, if_neg (fun z => h2 z.2), if_pos ⟨hb, by omega⟩]; omega
      · rw [if_neg hb, if_neg (fun z => hb z.1), if_neg (fun z => hb z.1)]; omega
theorem ev_cg {b b2 : Int → Int} (hb : ∀ k : Int, 0 ≤ k → k < 6 → b k = b2 k) : ∀ (r : List Int) (d : Nat) (e : LK), wfD d r → r.foldl (stp b) e = r.foldl (stp b2) e
  | [], _, _, _ => rfl
  | s :: r, d, e, h => by
    rw [List.foldl_cons, List.foldl_cons]
    have e1 : stp b e s = stp b2 e s := by
      unfold wfD at h
      unfold stp
      by_cases h0 : 0 ≤ s
      · rw [if_pos h0] at h
        rw [if_pos h0, if_pos h0]
        have : tst b s = tst b2 s := by
          unfold tst
          rw [hb (s % 8) (by omega) (by omega)]
        rw [this]
      · rw [if_neg h0, if_neg h0]
    have h2 : ∃ d2, wfD d2 r := by
      unfold wfD at h
      split at h
      · exact ⟨_, h.2.2⟩
      · split at h
        · exact ⟨_, h.2⟩
        · split at h
          · exact ⟨_, h.2.2⟩
          · exact ⟨_, h.2.2⟩
    obtain ⟨d2, h2⟩ := h2
    rw [e1]
    exact ev_cg hb r d2 _ h2
/-- the cells of an inn hold the steps l -/
def EIn (l : List Int) (ns us : Int) (sl en cd : Int → Int) : Prop :=
  us = ((cdL l).length : Int) ∧ ns = ((slF 0 l).length : Int) ∧ (∀ (i : Nat) (c : Int), (cdL l)[i]? = some c → cd (i : Int) = c) ∧ (∀ (i : Nat) (q : Int × Int), (slF 0 l)[i]? = some q → sl (i : Int) = q.1 ∧ en (i : Int) = q.2)
theorem EIn_op {l : List Int} {ns us : Int} {sl en cd b b2 : Int → Int} {n : Int} (h : EIn l ns us sl en cd) (hw : wfD 0 l) (hb : ∀ k : Int, 0 ≤ k → k < 6 → b k = b2 k) : opS b cd sl en n ns.toNat = n + (evL b2 l).2.1 - (evL b2 l).2.2 := by
  obtain ⟨h1, h2, h3, h4⟩ := h
  have q := op_ev (b := b) (cd := cd) (sl := sl) (en := en) (n := n) l 0 0 0 ns.toNat [] 0 0 (Int.le_refl _) (fun i c z => by rw [Int.zero_add]; exact h3 i c z) (fun i r z => by rw [Nat.zero_add]; exact h4 i r z) (by omega) rfl rfl hw
  rw [q]
  show n + ((l.foldl (stp b) ([], 0, 0)).2.1 - 0) - ((l.foldl (stp b) ([], 0, 0)).2.2 - 0) = _
  rw [ev_cg hb l 0 _ hw]
  show _ = n + (l.foldl (stp b2) ([], 0, 0)).2.1 - (l.foldl (stp b2) ([], 0, 0)).2.2
  omega
/-- what the class asks of an inn's rows, out of the steps -/
theorem ok_ev {cd sl en : Int → Int} : ∀ (r : List Int) (u fr : Int) (k : Nat) (B : Int), 0 ≤ fr → fr ≤ u → (u + ((cdL r).length : Int) ≤ B) → (∀ (i : Nat) (c : Int), (cdL r)[i]? = some c → cd (u + (i : Int)) = c) → (∀ (i : Nat) (q : Int × Int), (slF u r)[i]? = some q → sl ((k + i : Nat) : Int) = q.1 ∧ en ((k + i : Nat) : Int) = q.2) → frE en k = fr →
    (∀ b : Int → Int, (wfD (evC b cd fr (u - fr).toNat).length r ∧ (evC b cd fr (u - fr).toNat).length ≤ 24) ∧ ∀ q : Nat, (q : Int) < u - fr → okC (evC b cd fr q) (cd (fr + (q : Int)))) →
    ∀ (b : Int → Int) (m : Nat), k ≤ m → m < k + (slF u r).length → (0 ≤ frE en m ∧ frE en m ≤ en (m : Int) ∧ en (m : Int) ≤ B) ∧ ∀ q : Nat, (q : Int) < en (m : Int) - frE en m → okC (evC b cd (frE en m) q) (cd (frE en m + (q : Int)))
  | [], u, fr, k, B, _, _, _, _, _, _, _, b, m, h1, h2 => by
    have : (slF u ([] : List Int)).length = 0 := rfl
    omega
  | s :: r, u, fr, k, B, h0, hfu, hB, hC, hS, hfr, hw, b, m, h1, h2 => by
    by_cases hs : -10 < s
    · have hcl : cdL (s :: r) = encS s :: cdL r := by rw [cdL, if_pos hs]
      have hc0 : cd u = encS s := by
        have := hC 0 (encS s) (by rw [hcl]; rfl)
        rwa [show u + ((0 : Nat) : Int) = u by omega] at this
      rw [hcl, List.length_cons] at hB
      have hC2 : ∀ (i : Nat) (c : Int), (cdL r)[i]? = some c → cd (u + 1 + (i : Int)) = c := fun i c h => by
        have := hC (i + 1) c (by rw [hcl]; exact h)
        rwa [show u + ((i + 1 : Nat) : Int) = u + 1 + (i : Int) by omega] at this
      have hS2 : slF u (s :: r) = slF (u + 1) r := by rw [slF, if_pos hs]
      rw [hS2] at hS h2
      refine ok_ev r (u + 1) fr k B h0 (by omega) (by omega) hC2 hS hfr (fun b => ?_) b m h1 h2
      obtain ⟨⟨hw1, hw3⟩, hw2⟩ := hw b
      have he2 : evC b cd fr (u + 1 - fr).toNat = cst b (evC b cd fr (u - fr).toNat) (encS s) := by
        rw [show (u + 1 - fr).toNat = (u - fr).toNat + 1 by omega]
        show cst b (evC b cd fr (u - fr).toNat) (cd (fr + (((u - fr).toNat : Nat) : Int))) = _
        rw [show fr + (((u - fr).toNat : Nat) : Int) = u by omega, hc0]
      have hk : (wfD (cst b (evC b cd fr (u - fr).toNat) (encS s)).length r ∧ (cst b (evC b cd fr (u - fr).toNat) (encS s)).length ≤ 24) ∧ okC (evC b cd fr (u - fr).toNat) (encS s) := by
        generalize evC b cd fr (u - fr).toNat = e at hw1 hw3
        unfold wfD at hw1
        unfold cst okC
        by_cases h00 : 0 ≤ s
        · rw [if_pos h00] at hw1
          have hen : encS s = (s % 8 * 3 + s / 8 % 4) * 100 + s / 32 := by unfold encS; rw [if_pos h00]
          have hb1 : 0 ≤ encS s ∧ encS s < 1800 := by rw [hen]; omega
          rw [if_pos hb1.1]
          exact ⟨⟨hw1.2.2, by rw [List.length_cons]; omega⟩, by omega, Or.inl hb1⟩
        · have hen : encS s = s := by unfold encS; rw [if_neg h00]
          rw [if_neg h00] at hw1
          rw [hen, if_neg h00]
          by_cases h11 : s = -1
          · rw [if_pos h11] at hw1
            rw [if_pos h11]
            exact ⟨⟨by rw [nt1_len]; exact hw1.2, by rw [nt1_len]; exact hw3⟩, hw3, Or.inr (Or.inl ⟨h11, hw1.1⟩)⟩
          · rw [if_neg h11, if_pos hs] at hw1
            rw [if_neg h11]
            exact ⟨⟨by rw [bn2_len hw1.2.1]; exact hw1.2.2, by rw [bn2_len hw1.2.1]; omega⟩, hw3, Or.inr (Or.inr ⟨hw1.1, hw1.2.1⟩)⟩
      refine ⟨by rw [he2]; exact hk.1, fun q hq => ?_⟩
      by_cases hq2 : (q : Int) < u - fr
      · exact hw2 q hq2
      · rw [show q = (u - fr).toNat by omega, show fr + (((u - fr).toNat : Nat) : Int) = u by omega, hc0]
        exact hk.2
    · have hcl : cdL (s :: r) = cdL r := by rw [cdL, if_neg hs]
      rw [hcl] at hC hB
      have hf : slF u (s :: r) = (slV s, u) :: slF u r := by rw [slF, if_neg hs]
      rw [hf] at hS h2
      obtain ⟨hk1, hk2⟩ := hS 0 (slV s, u) rfl
      rw [show ((k + 0 : Nat) : Int) = (k : Int) by omega] at hk2
      have hS3 : ∀ (i : Nat) (q : Int × Int), (slF u r)[i]? = some q → sl ((k + 1 + i : Nat) : Int) = q.1 ∧ en ((k + 1 + i : Nat) : Int) = q.2 := fun i q h => by
        have := hS (i + 1) q h
        rwa [show k + (i + 1) = k + 1 + i by omega] at this
      have hfr2 : frE en (k + 1) = u := by
        unfold frE
        rw [if_neg (by omega), show ((k + 1 : Nat) : Int) - 1 = (k : Int) by omega]
        exact hk2
      by_cases hm : m = k
      · subst hm
        rw [hfr, hk2]
        exact ⟨⟨h0, hfu, by omega⟩, (hw b).2⟩
      · refine ok_ev r u u (k + 1) B (by omega) (Int.le_refl _) hB hC hS3 hfr2 (fun b => ?_) b m (by omega) (by rw [List.length_cons] at h2; omega)
        have hw1 := (hw b).1.1
        unfold wfD at hw1
        rw [if_neg (by omega), if_neg (by omega), if_neg hs] at hw1
        rw [show (u - u).toNat = 0 by omega]
        exact ⟨⟨hw1.2.2, Nat.zero_le _⟩, fun q hq => by omega⟩
