/-! ===== an inn of the class and the reference's steps ===== -/
def encS (s : Int) : Int := if 0 ≤ s then (s % 8 * 3 + s / 8 % 4) * 100 + s / 32 else s
def slV (s : Int) : Int := if -200 < s then -10 - s else 200 + s
def cdL : List Int → List Int
  | [] => []
  | s :: r => if -10 < s then encS s :: cdL r else cdL r
def slF : Int → List Int → List (Int × Int)
  | _, [] => []
  | u, s :: r => if -10 < s then slF (u + 1) r else (slV s, u) :: slF u r
theorem tst_enc {b : Int → Int} {s : Int} (h0 : 0 ≤ s) (h8 : s % 8 ≤ 5) (h4 : s / 8 % 4 ≤ 2) (h9 : s / 32 ≤ 99) : tstC b (encS s) = tst b s := by
  unfold tstC tst encS
  rw [if_pos h0]
  have h : ∀ A B C : Int, 0 ≤ B → B ≤ 2 → 0 ≤ C → C ≤ 99 → ((A * 3 + B) * 100 + C) / 100 % 3 = B ∧ ((A * 3 + B) * 100 + C) / 300 = A ∧ ((A * 3 + B) * 100 + C) % 100 = C := by
    intro A B C h1 h2 h3 h4
    omega
  obtain ⟨e1, e2, e3⟩ := h (s % 8) (s / 8 % 4) (s / 32) (by omega) h4 (by omega) h9
  rw [e1, e2, e3]
/-- steps as the parser makes them: small parts, few truths at a time -/
def wfD : Nat → List Int → Prop
  | _, [] => True
  | d, s :: r => if 0 ≤ s then (s % 8 ≤ 5 ∧ s / 8 % 4 ≤ 2 ∧ s / 32 ≤ 99) ∧ d < 24 ∧ wfD (d + 1) r else if s = -1 then 1 ≤ d ∧ wfD d r else if -10 < s then (s = -2 ∨ s = -3) ∧ 2 ≤ d ∧ wfD (d - 1) r else d = 1 ∧ -300 ≤ s ∧ wfD 0 r
theorem wfD_S : ∀ (l : List Int) (d : Nat), wfD d l → wfS d l
  | [], _, _ => trivial
  | s :: r, d, h => by
    unfold wfD at h
    unfold wfS
    split at h
    · rw [if_pos (by assumption)]
      exact ⟨h.1.1, by omega, by omega, wfD_S r _ h.2.2⟩
    · rw [if_neg (by assumption)]
      split at h
      · rw [if_pos (by assumption)]
        exact ⟨h.1, wfD_S r _ h.2⟩
      · rw [if_neg (by assumption)]
        split at h
        · rw [if_pos (by assumption)]
          exact ⟨h.2.1, wfD_S r _ h.2.2⟩
        · rw [if_neg (by assumption)]
          exact ⟨h.1, h.2.1, wfD_S r _ h.2.2⟩
theorem bn2_len {s : Int} {e : List Bool} (h : 2 ≤ e.length) : (bn2 s e).length = e.length - 1 := by
  match e, h with
  | _ :: _ :: _, _ => rfl
theorem nt1_len {e : List Bool} : (nt1 e).length = e.length := by cases e <;> rfl
theorem op_ev {b cd sl en : Int → Int} {n : Int} : ∀ (r : List Int) (u fr : Int) (k ns : Nat) (e : List Bool) (s1 s2 : Int), fr ≤ u → (∀ (i : Nat) (c : Int), (cdL r)[i]? = some c → cd (u + (i : Int)) = c) → (∀ (i : Nat) (q : Int × Int), (slF u r)[i]? = some q → sl ((k + i : Nat) : Int) = q.1 ∧ en ((k + i : Nat) : Int) = q.2) → ns = k + (slF u r).length → frE en k = fr → e = evC b cd fr (u - fr).toNat → wfD e.length r →
    opS b cd sl en n ns = opS b cd sl en n k + ((r.foldl (stp b) (e, s1, s2)).2.1 - s1) - ((r.foldl (stp b) (e, s1, s2)).2.2 - s2)
  | [], u, fr, k, ns, e, s1, s2, _, _, _, hn, _, _, _ => by
    have e1 : ns = k := hn
    rw [e1]
    show _ = _ + (s1 - s1) - (s2 - s2)
    omega
  | s :: r, u, fr, k, ns, e, s1, s2, hfu, hC, hS, hn, hfr, he, hw => by
    rw [List.foldl_cons]
    by_cases hs : -10 < s
    · have hc0 : cd u = encS s := by
        have := hC 0 (encS s) (by rw [cdL, if_pos hs]; rfl)
        rwa [show u + ((0 : Nat) : Int) = u by omega] at this
      have hC2 : ∀ (i : Nat) (c : Int), (cdL r)[i]? = some c → cd (u + 1 + (i : Int)) = c := fun i c h => by
        have := hC (i + 1) c (by rw [cdL, if_pos hs]; exact h)
        rwa [show u + ((i + 1 : Nat) : Int) = u + 1 + (i : Int) by omega] at this
      have hS2 : slF u (s :: r) = slF (u + 1) r := by rw [slF, if_pos hs]
      rw [hS2] at hS hn
      have he2 : cst b e (encS s) = evC b cd fr (u + 1 - fr).toNat := by
        rw [show (u + 1 - fr).toNat = (u - fr).toNat + 1 by omega]
        show _ = cst b (evC b cd fr (u - fr).toNat) (cd (fr + (((u - fr).toNat : Nat) : Int)))
        rw [show fr + (((u - fr).toNat : Nat) : Int) = u by omega, ← he, hc0]
      have key : stp b (e, s1, s2) s = (cst b e (encS s), s1, s2) ∧ wfD (cst b e (encS s)).length r := by
        unfold wfD at hw
        unfold stp cst
        by_cases h0 : 0 ≤ s
        · rw [if_pos h0] at hw
          have hen : 0 ≤ encS s := by unfold encS; rw [if_pos h0]; omega
          rw [if_pos h0, if_pos hen, tst_enc h0 hw.1.1 hw.1.2.1 hw.1.2.2]
          exact ⟨rfl, hw.2.2⟩
        · have hen : encS s = s := by unfold encS; rw [if_neg h0]
          rw [if_neg h0] at hw
          rw [hen, if_neg h0, if_neg h0]
          by_cases h1 : s = -1
          · rw [if_pos h1] at hw
            rw [if_pos h1, if_pos h1]
            exact ⟨rfl, by rw [nt1_len]; exact hw.2⟩
          · rw [if_neg h1, if_pos hs] at hw
            rw [if_neg h1, if_neg h1, if_pos hs]
            exact ⟨rfl, by rw [bn2_len hw.2.1]; exact hw.2.2⟩
      rw [key.1]
      exact op_ev r (u + 1) fr k ns _ s1 s2 (by omega) hC2 hS hn hfr he2 key.2
    · have hd : cdL (s :: r) = cdL r := by rw [cdL, if_neg hs]
      rw [hd] at hC
      have hf : slF u (s :: r) = (slV s, u) :: slF u r := by rw [slF, if_neg hs]
      rw [hf] at hS hn
      obtain ⟨hk1, hk2⟩ := hS 0 (slV s, u) rfl
      rw [show ((k + 0 : Nat) : Int) = (k : Int) by omega] at hk1 hk2
      have hS3 : ∀ (i : Nat) (q : Int × Int), (slF u r)[i]? = some q → sl ((k + 1 + i : Nat) : Int) = q.1 ∧ en ((k + 1 + i : Nat) : Int) = q.2 := fun i q h => by
        have := hS (i + 1) q h
        rwa [show k + (i + 1) = k + 1 + i by omega] at this
      unfold wfD at hw
      rw [if_neg (by omega), if_neg (by omega), if_neg hs] at hw
      have key : stp b (e, s1, s2) s = ([], s1 + (if hdB e = true ∧ -200 < s then -10 - s else 0), s2 + (if hdB e = true ∧ s ≤ -200 then -200 - s else 0)) := by
        unfold stp
        rw [if_neg (by omega), if_neg (by omega), if_neg hs]
      rw [key]
      have hfr2 : frE en (k + 1) = u := by
        unfold frE
        rw [if_neg (by omega), show ((k + 1 : Nat) : Int) - 1 = (k : Int) by omega]
        exact hk2
      have ih := op_ev (b := b) (n := n) r u u (k + 1) ns [] (s1 + (if hdB e = true ∧ -200 < s then -10 - s else 0)) (s2 + (if hdB e = true ∧ s ≤ -200 then -200 - s else 0)) (Int.le_refl _) hC hS3 (by rw [hn, List.length_cons]; omega) hfr2 (by rw [show (u - u).toNat = 0 by omega]; rfl) hw.2.2
      rw [ih]
      have ho : opS b cd sl en n (k + 1) = opS b cd sl en n k + (if hdB e = true then slV s else 0) := by
        rw [opS, hfr, hk2, ← he, hk1]
      rw [ho]
      unfold slV
      by_cases hb : hdB e = true
      · rw [if_pos hb]
        by_cases h2 : -200 < s
        · rw [if_pos h2, if_pos ⟨hb, h2⟩, if_neg (fun z => absurd z.2 (by omega))]; omega
        · rw [if_neg h2, if_neg (fun z => h2 z.2), if_pos ⟨hb, by omega⟩]; omega
      · rw [if_neg hb, if_neg (fun z => hb z.1), if_neg (fun z => hb z.1)]; omega
