/-! ===== clauses, as the class reads them ===== -/
def dgS (t : Int → Int) (e : Int) (s : PS) : PS := if s.2.1 = 0 ∧ 48 ≤ hr t e s ∧ hr t e s ≤ 57 then adv s else s
def dgV (t : Int → Int) (e : Int) (s : PS) : Int := if s.2.1 = 0 ∧ 48 ≤ hr t e s ∧ hr t e s ≤ 57 then hr t e s - 48 else -1
theorem ch0 : chS 0 0 = 119 ∧ chS 0 1 = 112 ∧ chS 0 2 = 115 ∧ chS 0 3 = 103 := by decide
theorem fdx0_e {h : Int} (h1 : ¬ h = 119) (h2 : ¬ h = 112) (h3 : ¬ h = 115) (h4 : ¬ h = 103) : fdx 0 h 0 (lenS 0).toNat = -1 := by
  have hl : (lenS 0).toNat = 4 := by decide
  have hc := ch0
  rw [hl]
  unfold fdx
  rw [if_neg (show ¬ h = chS 0 ((0 : Nat) : Int) by rw [show chS 0 ((0 : Nat) : Int) = 119 from hc.1]; exact h1)]
  unfold fdx
  rw [if_neg (show ¬ h = chS 0 ((0 + 1 : Nat) : Int) by rw [show chS 0 ((0 + 1 : Nat) : Int) = 112 from hc.2.1]; exact h2)]
  unfold fdx
  rw [if_neg (show ¬ h = chS 0 ((0 + 1 + 1 : Nat) : Int) by rw [show chS 0 ((0 + 1 + 1 : Nat) : Int) = 115 from hc.2.2.1]; exact h3)]
  unfold fdx
  rw [if_neg (show ¬ h = chS 0 ((0 + 1 + 1 + 1 : Nat) : Int) by rw [show chS 0 ((0 + 1 + 1 + 1 : Nat) : Int) = 103 from hc.2.2.2]; exact h4)]
  rfl
theorem to1_e {t : Int → Int} {e : Int} {s : PS} (h1 : ¬ hr t e s = 119) (h2 : ¬ hr t e s = 112) (h3 : ¬ hr t e s = 115) (h4 : ¬ hr t e s = 103) : to1 t e 0 s = (0, bad s) := by
  unfold to1
  rw [if_neg (fun q => q.2 (fdx0_e h1 h2 h3 h4))]
theorem to1_k {t : Int → Int} {e h k : Int} {s : PS} (h0 : s.2.1 = 0) (hh : hr t e s = h) (hk : fdx 0 h 0 (lenS 0).toNat = k) (h1 : k ≠ -1) : to1 t e 0 s = (k, adv s) := by
  unfold to1
  rw [hh, hk, if_pos ⟨h0, h1⟩]
theorem spl_9 {t : Int → Int} {e : Int} {s : PS} (h0 : s.2.1 = 0) (h1 : hr t e s = 119) : spl t e 9 (lenS 9).toNat s = spl t e 1 (lenS 1).toNat (adv s) :=
  spl_1st (i := 9) (j := 1) (n := 4) h0 (h1.trans (by decide)) (fun k hk => by rcases (show k = 0 ∨ k = 1 ∨ k = 2 ∨ k = 3 by omega) with rfl | rfl | rfl | rfl <;> decide) 4 (Nat.le_refl _)
theorem spl_10 {t : Int → Int} {e : Int} {s : PS} (h0 : s.2.1 = 0) (h1 : hr t e s = 112) : spl t e 10 (lenS 10).toNat s = spl t e 2 (lenS 2).toNat (adv s) :=
  spl_1st (i := 10) (j := 2) (n := 3) h0 (h1.trans (by decide)) (fun k hk => by rcases (show k = 0 ∨ k = 1 ∨ k = 2 by omega) with rfl | rfl | rfl <;> decide) 3 (Nat.le_refl _)
theorem spl_11 {t : Int → Int} {e : Int} {s : PS} (h0 : s.2.1 = 0) (h1 : hr t e s = 115) : spl t e 11 (lenS 11).toNat s = spl t e 3 (lenS 3).toNat (adv s) :=
  spl_1st (i := 11) (j := 3) (n := 4) h0 (h1.trans (by decide)) (fun k hk => by rcases (show k = 0 ∨ k = 1 ∨ k = 2 ∨ k = 3 by omega) with rfl | rfl | rfl | rfl <;> decide) 4 (Nat.le_refl _)
theorem spl_12 {t : Int → Int} {e : Int} {s : PS} (h0 : s.2.1 = 0) (h1 : hr t e s = 103) : spl t e 12 (lenS 12).toNat s = spl t e 4 (lenS 4).toNat (adv s) :=
  spl_1st (i := 12) (j := 4) (n := 4) h0 (h1.trans (by decide)) (fun k hk => by rcases (show k = 0 ∨ k = 1 ∨ k = 2 ∨ k = 3 by omega) with rfl | rfl | rfl | rfl <;> decide) 4 (Nat.le_refl _)
theorem cls_1 {t : Int → Int} {e w p : Int} {s : PS} (h : hr t e s = 119) (h0 : s.2.1 = 0) : cls t e (s, w, p) = ((fig t e (spl t e 1 (lenS 1).toNat (adv s))).2, if (fig t e (spl t e 1 (lenS 1).toNat (adv s))).2.2.1 = 0 then (fig t e (spl t e 1 (lenS 1).toNat (adv s))).1 else w, p) := by
  unfold cls thS
  dsimp only
  rw [if_pos h, spl_9 h0 h]
theorem cls_2 {t : Int → Int} {e w p : Int} {s : PS} (h : hr t e s = 112) (h0 : s.2.1 = 0) : cls t e (s, w, p) = ((fig t e (spl t e 2 (lenS 2).toNat (adv s))).2, w, if (fig t e (spl t e 2 (lenS 2).toNat (adv s))).2.2.1 = 0 then (fig t e (spl t e 2 (lenS 2).toNat (adv s))).1 else p) := by
  unfold cls thS
  dsimp only
  rw [if_neg (fun z => absurd (h.symm.trans z) (by decide)), if_pos h, spl_10 h0 h]
theorem cls_3 {t : Int → Int} {e w p : Int} {s : PS} (h : hr t e s = 115) : cls t e (s, w, p) = (muP t e (-10) 11 s, w, p) := by
  unfold cls
  dsimp only
  rw [if_neg (fun z => absurd (h.symm.trans z) (by decide)), if_neg (fun z => absurd (h.symm.trans z) (by decide)), if_pos h]
theorem cls_4 {t : Int → Int} {e w p : Int} {s : PS} (h : hr t e s = 103) : cls t e (s, w, p) = (muP t e (-200) 12 s, w, p) := by
  unfold cls
  dsimp only
  rw [if_neg (fun z => absurd (h.symm.trans z) (by decide)), if_neg (fun z => absurd (h.symm.trans z) (by decide)), if_neg (fun z => absurd (h.symm.trans z) (by decide)), if_pos h]
theorem cls_5 {t : Int → Int} {e w p : Int} {s : PS} (h1 : ¬ hr t e s = 119) (h2 : ¬ hr t e s = 112) (h3 : ¬ hr t e s = 115) (h4 : ¬ hr t e s = 103) : cls t e (s, w, p) = (bad s, w, p) := by
  unfold cls
  dsimp only
  rw [if_neg h1, if_neg h2, if_neg h3, if_neg h4]
/-- behind a slip or a glue: the place is ahead of the steps -/
theorem mu_sl {t : Int → Int} {e : Int} {i : Nat} {s : PS} (hi : i < 13) (hB : PB e s) (hl : s.2.1 = 0 → (s.2.2.length : Int) ≤ s.1) : (soP t e (fac t e 5) (mstP t e 32 (fig t e (spl t e i (lenS i).toNat s)).2)).2.1 = 0 → ((soP t e (fac t e 5) (mstP t e 32 (fig t e (spl t e i (lenS i).toNat s)).2)).2.2.length : Int) + 1 ≤ (soP t e (fac t e 5) (mstP t e 32 (fig t e (spl t e i (lenS i).toNat s)).2)).1 := fun w => by
  have h1 := Mv_spl (t := t) hi hB (lenS i).toNat (by have := len_b hi; omega)
  have h2 := Mv_fig (t := t) h1.1
  have h3 := Mv_mst (t := t) (c := 32) (by decide) h2.1
  have h4 := soP_k (t := t) (fac_k (t := t) 5) _ h3.1
  have w3 : (mstP t e 32 (fig t e (spl t e i (lenS i).toNat s)).2).2.1 = 0 := by
    by_cases q : (mstP t e 32 (fig t e (spl t e i (lenS i).toNat s)).2).2.1 = 0
    · exact q
    · rw [soP_w0 q] at w
      exact w
  have w2 := h3.2.1 w3
  have hf := fig_s h1.1 w2
  have a := hl (h1.2.1 (h2.2.1 w2))
  have b := h4.2.2
  rw [h3.2.2.1, h2.2.2.1, h1.2.2.1] at b
  have c := h1.2.2.2
  have d := h3.2.2.2
  omega
theorem slV_1 {n : Int} (h : 0 ≤ n ∧ n ≤ 99) : slV (-10 - n) = n := by
  unfold slV
  rw [if_pos (by omega)]
  omega
theorem slV_2 {n : Int} (h : 0 ≤ n ∧ n ≤ 99) : slV (-200 - n) = -n := by
  unfold slV
  rw [if_neg (by omega)]
  omega
theorem PB_cls {t : Int → Int} {e : Int} {c : CS} (h : PB e c.1) : PB e (cls t e c).1 := (cls_k c h).1
/-- how the reading ends -/
def enS (e : Int) (s : PS) : PS := if s.2.1 = 0 ∧ ¬ s.1 = e then bad s else s
theorem ro_ext {x : Cx} {a N : Nat} {f g : Int → Int} (h : Ro x (a, cn 0 N f)) (hg : ∀ j : Int, 0 ≤ j → j < N → f j = g j) : Ro x (a, cn 0 N g) := by
  refine ⟨?_, h.2⟩
  have h2 : (xs x).heap[a]? = some (arrV (xC x 0) N (fun j => Value.int (Int32.ofInt (f (j : Int))))) := h.1
  show (xs x).heap[a]? = some (arrV (xC x 0) N (fun j => Value.int (Int32.ofInt (g (j : Int)))))
  rw [h2]
  congr 1
  exact arrV_ext fun j hj => by rw [hg (j : Int) (by omega) (by omega)]
