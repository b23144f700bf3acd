/-! ===== the class reads THE TAPE ===== -/
def flt (s : PS) : Int := if s.2.1 = 0 then -1 else s.1
abbrev rdL (tap : Nat) (e : Int) (hq : Nat) (s : PS) : List aV := [ar tap, ai e, ar hq, ai s.1, ai (flt s)]
theorem flt_c {e : Int} {s : PS} (h : PB e s) : (s.2.1 = 0 ∧ flt s = -1) ∨ (s.2.1 = 1 ∧ flt s = s.1) := by
  unfold flt
  rcases h.2.2 with q | q
  · exact Or.inl ⟨q, if_pos q⟩
  · exact Or.inr ⟨q, if_neg (by omega)⟩
theorem flt_adv {s : PS} (h : s.2.1 = 0) : flt (adv s) = flt s := by
  unfold flt
  rw [if_pos h, if_pos (show (adv s).2.1 = 0 from h)]
theorem flt_bad {s : PS} : flt (bad s) = s.1 := if_neg (by show ¬ (1 : Int) = 0; decide)
theorem bad_of {e : Int} {s : PS} (hB : PB e s) (h : ¬ s.2.1 = 0) : bad s = s := by
  have q : s.2.1 = 1 := by have := hB.2.2; omega
  show (s.1, (1 : Int), s.2.2) = s
  rw [← q]
/-- a sign is taken, or not -/
def tkS (t : Int → Int) (e c : Int) (s : PS) : PS := if s.2.1 = 0 ∧ hr t e s = c then adv s else s
def dgP (t : Int → Int) (e : Int) (s : PS) : Prop := s.2.1 = 0 ∧ 48 ≤ hr t e s ∧ hr t e s ≤ 57
theorem dgP_iff {t : Int → Int} {e : Int} {s : PS} : dgP t e s ↔ (s.2.1 = 0 ∧ 48 ≤ hr t e s ∧ hr t e s ≤ 57) := Iff.rfl
theorem fig_n {t : Int → Int} {e : Int} {s : PS} (h : ¬ dgP t e s) : fig t e s = (0, bad s) := if_neg h
theorem fig_y1 {t : Int → Int} {e : Int} {s : PS} (h : dgP t e s) (h2 : ¬ (48 < hr t e s ∧ 48 ≤ hr t e (adv s) ∧ hr t e (adv s) ≤ 57)) : fig t e s = (hr t e s - 48, adv s) := by
  unfold fig
  rw [if_pos (dgP_iff.mp h), if_neg h2]
theorem fig_y2 {t : Int → Int} {e : Int} {s : PS} (h : dgP t e s) (h2 : 48 < hr t e s ∧ 48 ≤ hr t e (adv s) ∧ hr t e (adv s) ≤ 57) : fig t e s = (10 * (hr t e s - 48) + hr t e (adv s) - 48, adv (adv s)) := by
  unfold fig
  rw [if_pos (dgP_iff.mp h), if_pos h2]
def to1 (t : Int → Int) (e : Int) (i : Nat) (s : PS) : Int × PS := if s.2.1 = 0 ∧ fdx i (hr t e s) 0 (lenS i).toNat ≠ -1 then (fdx i (hr t e s) 0 (lenS i).toNat, adv s) else (0, bad s)
theorem hr_v {t : Int → Int} {e : Int} {s : PS} : (s.1 < e ∧ hr t e s = t s.1) ∨ (¬ s.1 < e ∧ hr t e s = -1) := by
  unfold hr hrp
  split
  · rename_i h; exact Or.inl ⟨h, rfl⟩
  · rename_i h; exact Or.inr ⟨h, rfl⟩
/-- the place goes on, the steps stay, what is wrong stays wrong -/
def Mv (e : Int) (s s2 : PS) : Prop := PB e s2 ∧ (s2.2.1 = 0 → s.2.1 = 0) ∧ s2.2.2 = s.2.2 ∧ s.1 ≤ s2.1
theorem Mv_rf {e : Int} {s : PS} (h : PB e s) : Mv e s s := ⟨h, id, rfl, Int.le_refl _⟩
theorem Mv_tr {e : Int} {a b c : PS} (h : Mv e a b) (g : Mv e b c) : Mv e a c := ⟨g.1, fun z => h.2.1 (g.2.1 z), g.2.2.1.trans h.2.2.1, Int.le_trans h.2.2.2 g.2.2.2⟩
theorem Mv_bad {e : Int} {s : PS} (h : PB e s) : Mv e s (bad s) := ⟨(bad_k h).1, fun z => absurd z (by show ¬ (1 : Int) = 0; decide), rfl, Int.le_refl _⟩
theorem Mv_adv {e : Int} {s : PS} (h : PB e s) (h2 : s.1 < e) : Mv e s (adv s) := ⟨(adv_k h h2).1, id, rfl, by show s.1 ≤ s.1 + 1; omega⟩
theorem Mv_mst {t : Int → Int} {e c : Int} {s : PS} (hc : 0 ≤ c) (h : PB e s) : Mv e s (mstP t e c s) := by
  unfold mstP
  split
  · rename_i q; exact Mv_adv h (hr_lt q.2 hc)
  · exact Mv_bad h
theorem Mv_spl {t : Int → Int} {e : Int} {i : Nat} (hi : i < 13) {s : PS} (h : PB e s) : ∀ m : Nat, (m : Int) ≤ lenS i → Mv e s (spl t e i m s)
  | 0, _ => Mv_rf h
  | m + 1, hm => by
    have q := Mv_spl (t := t) hi h m (by omega)
    exact Mv_tr q (Mv_mst (ch_b hi ⟨by omega, by omega⟩).1 q.1)
theorem Mv_fig {t : Int → Int} {e : Int} {s : PS} (h : PB e s) : Mv e s (fig t e s).2 := by
  unfold fig
  split
  · rename_i q
    have h1 : s.1 < e := hr_lt (t := t) rfl (by omega)
    split
    · rename_i q2
      have h2 : (adv s).1 < e := hr_lt (t := t) rfl (by omega)
      exact Mv_tr (Mv_adv h h1) (Mv_adv (adv_k h h1).1 h2)
    · exact Mv_adv h h1
  · exact Mv_bad h
theorem Mv_to1 {t : Int → Int} {e : Int} {i : Nat} (hi : i < 13) {s : PS} (h : PB e s) : Mv e s (to1 t e i s).2 := by
  have hl := len_b hi
  unfold to1
  split
  · rename_i q
    have := (fdx_b (h := hr t e s) hi (lenS i).toNat 0 (by omega)).2 q.2
    exact Mv_adv h (hr_lt rfl this.2.2)
  · exact Mv_bad h
theorem Mv_tk {t : Int → Int} {e c : Int} {s : PS} (hc : 0 ≤ c) (h : PB e s) : Mv e s (tkS t e c s) := by
  unfold tkS
  split
  · rename_i q; exact Mv_adv h (hr_lt q.2 hc)
  · exact Mv_rf h
/-- the cells of the inn that is read -/
def IE (s : PS) (ns us : Int) (sl en cd : Int → Int) : Prop := ((0 ≤ us ∧ us ≤ 100) ∧ (0 ≤ ns ∧ ns ≤ 10)) ∧ (s.2.1 = 0 → EIn s.2.2 ns us sl en cd ∧ (s.2.2.length : Int) ≤ s.1)
theorem IE_mv {e : Int} {s s2 : PS} {ns us : Int} {sl en cd : Int → Int} (h : IE s ns us sl en cd) (hm : Mv e s s2) : IE s2 ns us sl en cd := by
  refine ⟨h.1, fun z => ?_⟩
  obtain ⟨h1, h2⟩ := h.2 (hm.2.1 z)
  rw [hm.2.2.1]
  exact ⟨h1, Int.le_trans h2 hm.2.2.2⟩
theorem emi_1 {z : Int} {s : PS} : (emi z s).1 = s.1 ∧ (emi z s).2.1 = s.2.1 ∧ flt (emi z s) = flt s := by
  unfold emi
  split
  · exact ⟨rfl, rfl, rfl⟩
  · exact ⟨rfl, rfl, rfl⟩
theorem emi_2 {z : Int} {s : PS} (h : s.2.1 = 0) : (emi z s).2.2 = s.2.2 ++ [z] := by
  unfold emi
  rw [if_pos h]
theorem PB_emi {e z : Int} {s : PS} (h : PB e s) : PB e (emi z s) := by
  have q := emi_1 (z := z) (s := s)
  unfold PB
  rw [q.1, q.2.1]
  exact h
theorem cdL_app : ∀ (l : List Int) (z : Int), cdL (l ++ [z]) = cdL l ++ (if -10 < z then [encS z] else [])
  | [], z => by
    by_cases h : -10 < z <;> simp [cdL, h]
  | s :: r, z => by
    rw [List.cons_append, cdL, cdL, cdL_app r z]
    split <;> rfl
theorem slF_app : ∀ (l : List Int) (u z : Int), slF u (l ++ [z]) = slF u l ++ (if -10 < z then [] else [(slV z, u + ((cdL l).length : Int))])
  | [], u, z => by
    by_cases h : -10 < z <;> simp [slF, cdL, h]
  | s :: r, u, z => by
    rw [List.cons_append, slF, slF, cdL]
    by_cases h : -10 < s
    · rw [if_pos h, if_pos h, if_pos h, slF_app r (u + 1) z]
      split
      · rfl
      · rw [List.length_cons, show u + 1 + ((cdL r).length : Int) = u + (((cdL r).length + 1 : Nat) : Int) by omega]
    · rw [if_neg h, if_neg h, if_neg h, slF_app r u z, List.cons_append]
theorem cdL_len : ∀ l : List Int, (cdL l).length ≤ l.length
  | [] => Nat.le_refl _
  | s :: r => by
    have := cdL_len r
    rw [cdL]
    split <;> simp only [List.length_cons] <;> omega
theorem getE_app {α : Type} {l : List α} {a c : α} {i : Nat} (h : (l ++ [a])[i]? = some c) : (i < l.length ∧ l[i]? = some c) ∨ (i = l.length ∧ a = c) := by
  by_cases q : i < l.length
  · rw [List.getElem?_append_left q] at h
    exact Or.inl ⟨q, h⟩
  · rw [List.getElem?_append_right (by omega)] at h
    cases hz : i - l.length with
    | zero =>
      rw [hz] at h
      exact Or.inr ⟨by omega, Option.some.inj h⟩
    | succ m =>
      rw [hz] at h
      simp at h
theorem IE_code {s : PS} {ns us z : Int} {sl en cd : Int → Int} (h : IE s ns us sl en cd) (hz : -10 < z) (hl : s.2.1 = 0 → (s.2.2.length : Int) + 1 ≤ s.1 ∧ s.1 ≤ 100) : IE (emi z s) ns (if us < 100 then us + 1 else us) sl en (if us < 100 then aup cd us (encS z) else cd) := by
  refine ⟨⟨by have := h.1.1; split <;> omega, h.1.2⟩, fun q => ?_⟩
  rw [emi_1.2.1] at q
  obtain ⟨⟨h1, h2, h3, h4⟩, h5⟩ := h.2 q
  have hl2 := hl q
  have hc := cdL_len s.2.2
  rw [emi_2 q, emi_1.1, if_pos (by omega), if_pos (by omega)]
  refine ⟨⟨?_, ?_, fun i c hi => ?_, fun i r hi => ?_⟩, ?_⟩
  · rw [cdL_app, if_pos hz, List.length_append, h1]
    simp
  · rw [slF_app, if_pos hz, List.append_nil]
    exact h2
  · rw [cdL_app, if_pos hz] at hi
    rcases getE_app hi with ⟨g1, g2⟩ | ⟨g1, g2⟩
    · rw [aup_n _ _ (by omega)]
      exact h3 i c g2
    · rw [show (i : Int) = us by omega, aup_s]
      exact g2
  · rw [slF_app, if_pos hz, List.append_nil] at hi
    exact h4 i r hi
  · rw [List.length_append]
    simp only [List.length_cons, List.length_nil]
    omega
theorem IE_slip {s : PS} {ns us z : Int} {sl en cd : Int → Int} (h : IE s ns us sl en cd) (hz : z ≤ -10) (hn : ns < 10) (hl : s.2.1 = 0 → (s.2.2.length : Int) + 1 ≤ s.1) : IE (emi z s) (ns + 1) us (aup sl ns (slV z)) (aup en ns us) cd := by
  refine ⟨⟨h.1.1, by have := h.1.2; omega⟩, fun q => ?_⟩
  rw [emi_1.2.1] at q
  obtain ⟨⟨h1, h2, h3, h4⟩, h5⟩ := h.2 q
  have hl2 := hl q
  rw [emi_2 q, emi_1.1]
  refine ⟨⟨?_, ?_, fun i c hi => ?_, fun i r hi => ?_⟩, ?_⟩
  · rw [cdL_app, if_neg (by omega), List.append_nil]
    exact h1
  · rw [slF_app, if_neg (by omega), List.length_append, h2]
    simp
  · rw [cdL_app, if_neg (by omega), List.append_nil] at hi
    exact h3 i c hi
  · rw [slF_app, if_neg (by omega)] at hi
    rcases getE_app hi with ⟨g1, g2⟩ | ⟨g1, g2⟩
    · rw [aup_n _ _ (by omega), aup_n _ _ (by omega)]
      exact h4 i r g2
    · rw [show (i : Int) = ns by omega, aup_s, aup_s, ← g2]
      exact ⟨rfl, by show us = 0 + _; omega⟩
  · rw [List.length_append]
    simp only [List.length_cons, List.length_nil]
    omega
theorem IE_slipw {s : PS} {ns us a b : Int} {sl en cd : Int → Int} (h : IE s ns us sl en cd) (hn : ns < 10) (hw : ¬ s.2.1 = 0) : IE s (ns + 1) us (aup sl ns a) (aup en ns b) cd := ⟨⟨h.1.1, by have := h.1.2; omega⟩, fun q => absurd q hw⟩
theorem IE_codew {s : PS} {ns us a : Int} {sl en cd : Int → Int} (h : IE s ns us sl en cd) (hw : ¬ s.2.1 = 0) : IE s ns (if us < 100 then us + 1 else us) sl en (if us < 100 then aup cd us a else cd) := ⟨⟨by have := h.1.1; split <;> omega, h.1.2⟩, fun q => absurd q hw⟩
/-- slack of one: the place is ahead of the steps -/
theorem sl_of {e : Int} {s s1 : PS} (hn : PN e s1 s) (h1 : s1.2.1 = 0 → (s1.2.2.length : Int) + 1 ≤ s1.1) (h2 : s.2.1 = 0 → s1.2.1 = 0) (he : e ≤ 100) : s.2.1 = 0 → (s.2.2.length : Int) + 1 ≤ s.1 ∧ s.1 ≤ 100 := fun z => by
  have a := h1 (h2 z)
  have b := hn.2.2
  have c := hn.1.2.1
  omega
/-- what is wrong stays wrong -/
theorem fac_w0 {t : Int → Int} {e : Int} {d : Nat} {s : PS} (h : ¬ s.2.1 = 0) : fac t e d s = s := by
  cases d <;> (unfold fac; exact if_neg h)
theorem lpP_wx {t : Int → Int} {e c z : Int} {F : PS → PS} {n : Nat} {s : PS} (h : ¬ s.2.1 = 0) : lpP t e c z F n s = s := by
  cases n with
  | zero => rfl
  | succ n => exact if_neg (fun q => h q.1)
theorem soP_w0 {t : Int → Int} {e : Int} {d : Nat} {s : PS} (h : ¬ s.2.1 = 0) : soP t e (fac t e d) s = s := by
  unfold soP evP
  rw [fac_w0 h, lpP_wx h, lpP_wx h]
theorem mst_w0 {t : Int → Int} {e c : Int} {s : PS} (hB : PB e s) (h : ¬ s.2.1 = 0) : mstP t e c s = s := (if_neg (fun q => h q.1)).trans (bad_of hB h)
theorem fig_w0 {t : Int → Int} {e : Int} {s : PS} (hB : PB e s) (h : ¬ s.2.1 = 0) : fig t e s = (0, s) := by
  rw [fig_n (fun q => h q.1), bad_of hB h]
theorem to1_w0 {t : Int → Int} {e : Int} {i : Nat} {s : PS} (hB : PB e s) (h : ¬ s.2.1 = 0) : to1 t e i s = (0, s) := by
  unfold to1
  rw [if_neg (fun q => h q.1), bad_of hB h]
theorem emi_w0 {z : Int} {s : PS} (h : ¬ s.2.1 = 0) : emi z s = s := if_neg h
/-- the test of a factor, as the class reads it -/
def tsS (t : Int → Int) (e : Int) (s : PS) : PS := (fig t e (to1 t e 8 (to1 t e 7 s).2).2).2
def tsZ (t : Int → Int) (e : Int) (s : PS) : Int := (to1 t e 7 s).1 + 8 * (to1 t e 8 (to1 t e 7 s).2).1 + 32 * (fig t e (to1 t e 8 (to1 t e 7 s).2).2).1
theorem to1_b {t : Int → Int} {e : Int} {i : Nat} {s : PS} (hi : i < 13) : 0 ≤ (to1 t e i s).1 ∧ (to1 t e i s).1 < lenS i := by
  have hl := len_b hi
  unfold to1
  split
  · rename_i q
    have := (fdx_b (h := hr t e s) hi (lenS i).toNat 0 (by omega)).2 q.2
    exact ⟨this.1, this.2.1⟩
  · exact ⟨Int.le_refl _, by show (0 : Int) < lenS i; omega⟩
theorem tsp_cl {t : Int → Int} {e : Int} {s : PS} (hB : PB e s) (h0 : s.2.1 = 0) : tsp t e s = emi (tsZ t e s) (tsS t e s) := by
  have hm7 := Mv_to1 (t := t) (e := e) (i := 7) (by decide) hB
  by_cases c1 : fdx 7 (hr t e s) 0 (lenS 7).toNat = -1
  · have ea : am t e 7 s = (-1, s) := by
      unfold am
      rw [c1, if_pos rfl]
    have e1 : orB (am t e 7 s) = bad s := by
      rw [ea]
      exact if_pos rfl
    have e2 : (to1 t e 7 s).2 = bad s := by
      unfold to1
      rw [if_neg (fun q => q.2 c1)]
    have hw : ¬ (bad s).2.1 = 0 := by show ¬ (1 : Int) = 0; decide
    have hBb := (bad_k hB).1
    have e3 : tsB t e (bad s) = (0, bad s) := if_neg hw
    have e4 : orB ((0 : Int), bad s) = bad s := if_neg (by show ¬ (0 : Int) = -1; decide)
    unfold tsp tsS
    rw [e1, e2, e3, e4, to1_w0 hBb hw, fig_w0 hBb hw, emi_w0 hw, emi_w0 hw]
  · have e1 : am t e 7 s = (fdx 7 (hr t e s) 0 (lenS 7).toNat, adv s) := by
      unfold am
      rw [if_neg c1]
    have e2 : to1 t e 7 s = (fdx 7 (hr t e s) 0 (lenS 7).toNat, adv s) := by
      unfold to1
      rw [if_pos ⟨h0, c1⟩]
    have e1b : orB (fdx 7 (hr t e s) 0 (lenS 7).toNat, adv s) = adv s := if_neg c1
    have hBa : PB e (adv s) := by have := hm7.1; rw [e2] at this; exact this
    have ha0 : (adv s).2.1 = 0 := h0
    have e3 : tsB t e (adv s) = am t e 8 (adv s) := if_pos ha0
    by_cases c2 : fdx 8 (hr t e (adv s)) 0 (lenS 8).toNat = -1
    · have f1 : am t e 8 (adv s) = (-1, adv s) := by
        unfold am
        rw [if_pos c2, c2]
      have f1b : orB ((-1 : Int), adv s) = bad (adv s) := if_pos rfl
      have f2 : (to1 t e 8 (adv s)).2 = bad (adv s) := by
        unfold to1
        rw [if_neg (fun q => q.2 c2)]
      have hw : ¬ (bad (adv s)).2.1 = 0 := by show ¬ (1 : Int) = 0; decide
      have hBb := (bad_k hBa).1
      unfold tsp tsS
      rw [e1, e1b, e2, e3, f1, f1b, f2, fig_w0 hBb hw, emi_w0 hw, emi_w0 hw]
    · have f1 : am t e 8 (adv s) = (fdx 8 (hr t e (adv s)) 0 (lenS 8).toNat, adv (adv s)) := by
        unfold am
        rw [if_neg c2]
      have f1b : orB (fdx 8 (hr t e (adv s)) 0 (lenS 8).toNat, adv (adv s)) = adv (adv s) := if_neg c2
      have f2 : to1 t e 8 (adv s) = (fdx 8 (hr t e (adv s)) 0 (lenS 8).toNat, adv (adv s)) := by
        unfold to1
        rw [if_pos ⟨ha0, c2⟩]
      unfold tsp tsS tsZ
      rw [e1, e1b, e2, e3, f1, f1b]
      dsimp only
      rw [f2]
theorem tsS_w0 {t : Int → Int} {e : Int} {s : PS} (hB : PB e s) (h : ¬ s.2.1 = 0) : tsS t e s = s := by
  unfold tsS
  rw [to1_w0 hB h]
  dsimp only
  rw [to1_w0 hB h]
  dsimp only
  rw [fig_w0 hB h]
theorem fdx_nb {h : Int} (hh : h = 33 ∨ h = 40) : fdx 7 h 0 (lenS 7).toNat = -1 := by
  rcases hh with rfl | rfl <;> decide
/-- a factor that begins with no ! and no ( -/
theorem fac_cl {t : Int → Int} {e : Int} {d : Nat} {s : PS} (hB : PB e s) (h : d = 0 ∨ ¬ (s.2.1 = 0 ∧ (hr t e s = 33 ∨ hr t e s = 40))) : fac t e d s = emi (tsZ t e s) (tsS t e s) := by
  by_cases h0 : s.2.1 = 0
  · by_cases h1 : hr t e s = 33 ∨ hr t e s = 40
    · have hd : d = 0 := h.resolve_right (fun z => z ⟨h0, h1⟩)
      subst hd
      have e1 : fac t e 0 s = bad s := by
        unfold fac
        rw [if_pos h0, if_pos h1]
      have e2 : (to1 t e 7 s).2 = bad s := by
        unfold to1
        rw [if_neg (fun q => q.2 (fdx_nb h1))]
      have hw : ¬ (bad s).2.1 = 0 := by show ¬ (1 : Int) = 0; decide
      have hBb := (bad_k hB).1
      have e3 : tsS t e s = bad s := by
        unfold tsS
        rw [e2, to1_w0 hBb hw]
        dsimp only
        rw [fig_w0 hBb hw]
      rw [e1, e3, emi_w0 hw]
    · rw [← tsp_cl hB h0]
      cases d with
      | zero => unfold fac; rw [if_pos h0, if_neg h1]
      | succ d => rw [fac, if_pos h0, if_neg (fun z => h1 (Or.inl z)), if_neg (fun z => h1 (Or.inr z))]
  · rw [fac_w0 h0, tsS_w0 hB h0, emi_w0 h0]
theorem Mv_tsS {t : Int → Int} {e : Int} {s : PS} (hB : PB e s) : Mv e s (tsS t e s) := by
  have h1 := Mv_to1 (t := t) (e := e) (i := 7) (by decide) hB
  have h2 := Mv_to1 (t := t) (e := e) (i := 8) (by decide) h1.1
  exact Mv_tr h1 (Mv_tr h2 (Mv_fig h2.1))
theorem tsS_sl {t : Int → Int} {e : Int} {s : PS} (hB : PB e s) (he : e ≤ 100) (hl : s.2.1 = 0 → (s.2.2.length : Int) ≤ s.1) : (tsS t e s).2.1 = 0 → ((tsS t e s).2.2.length : Int) + 1 ≤ (tsS t e s).1 ∧ (tsS t e s).1 ≤ 100 := fun z => by
  have h1 := Mv_to1 (t := t) (e := e) (i := 7) (by decide) hB
  have h2 := Mv_to1 (t := t) (e := e) (i := 8) (by decide) h1.1
  have h3 := Mv_tsS (t := t) hB
  have hf := fig_s h2.1 z
  have a := hl (h3.2.1 z)
  rw [h3.2.2.1]
  have b := h1.2.2.2
  have c := h2.2.2.2
  have g := h3.1.2.1
  have hq : (fig t e (to1 t e 8 (to1 t e 7 s).2).2).2.1 = (tsS t e s).1 := rfl
  omega
theorem enc_ts {t : Int → Int} {e : Int} {s : PS} : encS (tsZ t e s) = ((to1 t e 7 s).1 * 3 + (to1 t e 8 (to1 t e 7 s).2).1) * 100 + (fig t e (to1 t e 8 (to1 t e 7 s).2).2).1 ∧ 0 ≤ tsZ t e s := by
  have h1 := to1_b (t := t) (e := e) (i := 7) (s := s) (by decide)
  have h2 := to1_b (t := t) (e := e) (i := 8) (s := (to1 t e 7 s).2) (by decide)
  have h3 := fig_b (t := t) (e := e) (s := (to1 t e 8 (to1 t e 7 s).2).2)
  have l7 : lenS 7 = 6 := by decide
  have l8 : lenS 8 = 3 := by decide
  rw [l7] at h1
  rw [l8] at h2
  unfold tsZ
  generalize (to1 t e 7 s).1 = a at h1
  generalize (to1 t e 8 (to1 t e 7 s).2).1 = b at h2
  generalize (fig t e (to1 t e 8 (to1 t e 7 s).2).2).1 = c at h3
  refine ⟨?_, by omega⟩
  unfold encS
  rw [if_pos (by omega), show (a + 8 * b + 32 * c) % 8 = a by omega, show (a + 8 * b + 32 * c) / 8 % 4 = b by omega, show (a + 8 * b + 32 * c) / 32 = c by omega]
/-- a word whose first sign was taken -/
theorem spl_1st {t : Int → Int} {e : Int} {i j : Nat} {s : PS} {n : Nat} (h0 : s.2.1 = 0) (h1 : hr t e s = chS i 0) (hc : ∀ k : Nat, k < n → chS i ((k + 1 : Nat) : Int) = chS j (k : Int)) : ∀ m : Nat, m ≤ n → spl t e i (m + 1) s = spl t e j m (adv s)
  | 0, _ => by
    show mstP t e (chS i ((0 : Nat) : Int)) s = adv s
    exact if_pos ⟨h0, h1⟩
  | m + 1, hm => by
    have q := spl_1st h0 h1 hc m (by omega)
    show mstP t e (chS i ((m + 1 : Nat) : Int)) (spl t e i (m + 1) s) = mstP t e (chS j (m : Int)) (spl t e j m (adv s))
    rw [q, hc m (by omega)]
theorem spl_w0 {t : Int → Int} {e : Int} {i : Nat} (hi : i < 13) {s : PS} (hB : PB e s) (h : ¬ s.2.1 = 0) : ∀ m : Nat, spl t e i m s = s
  | 0 => rfl
  | m + 1 => by
    show mstP t e _ (spl t e i m s) = s
    rw [spl_w0 hi hB h m]
    exact mst_w0 hB h
theorem spl_l1 {t : Int → Int} {e : Int} {i : Nat} {s : PS} {c : Int} (hl : lenS i = 1) (hc : chS i 0 = c) : spl t e i (lenS i).toNat s = mstP t e c s := by
  rw [hl, ← hc]
  rfl
