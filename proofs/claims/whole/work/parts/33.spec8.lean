theorem mtP_b (a b : Int) : 0 ≤ mtP a b ∧ mtP a b ≤ 2 := by unfold mtP; (repeat' split) <;> omega
theorem mt_b {f M P : Int → Int} {p q B : Int} (h : ∀ j, 0 ≤ P j ∧ P j ≤ B) : ∀ j, 0 ≤ mt f M P p q j ∧ mt f M P p q j ≤ B + 2 := by
  intro j
  have h1 := mtP_b (mtW f M p q) (mtL f M p q)
  have h2 := mtP_b (mtL f M p q) (mtW f M p q)
  have h3 := h j
  have h4 := h p
  have h5 := h q
  unfold mt aup
  (repeat' split) <;> omega
theorem ttI_b {f M P : Int → Int} {p B : Int} (h : ∀ j, 0 ≤ P j ∧ P j ≤ B) : ∀ (m : Nat) (j : Int), 0 ≤ ttI f M p P m j ∧ ttI f M p P m j ≤ B + 2 * (m : Int)
  | 0, j => by have := h j; show 0 ≤ P j ∧ P j ≤ _; omega
  | m + 1, j => by
    have := mt_b (f := f) (M := M) (p := p) (q := p + 1 + (m : Int)) (ttI_b (f := f) (M := M) (p := p) h m) j
    show 0 ≤ mt _ _ _ _ _ _ ∧ mt _ _ _ _ _ _ ≤ _
    omega
theorem ttO_b {f M : Int → Int} {np : Int} (hn : 0 ≤ np ∧ np ≤ 6) : ∀ (m : Nat) (j : Int), 0 ≤ ttO f M np (fun _ => 0) m j ∧ ttO f M np (fun _ => 0) m j ≤ 12 * (m : Int)
  | 0, j => by show (0 : Int) ≤ 0 ∧ (0 : Int) ≤ _; omega
  | m + 1, j => by
    have := ttI_b (f := f) (M := M) (p := (m : Int)) (ttO_b (f := f) (M := M) hn m) (np - (m : Int) - 1).toNat j
    show 0 ≤ ttI _ _ _ _ _ _ ∧ ttI _ _ _ _ _ _ ≤ _
    omega
theorem mt_congr {f M M2 P : Int → Int} {p q : Int} (hp : M p = M2 p) (hq : M q = M2 q) : mt f M P p q = mt f M2 P p q := by
  unfold mt mtW mtL mtN
  rw [hp, hq]
theorem tbs_b {P : Int → Int} : ∀ m : Nat, 0 ≤ tbs P m ∧ tbs P m ≤ (m : Int)
  | 0 => by simp [tbs]
  | m + 1 => by
    have := tbs_b (P := P) m
    unfold tbs
    split <;> omega
theorem tbs_succ (P : Int → Int) (m : Nat) : tbs P (m + 1) = if P (tbs P m) < P ((m : Int) + 1) then (m : Int) + 1 else tbs P m := rfl
theorem ttI_succ (f M : Int → Int) (p : Int) (P : Int → Int) (m : Nat) : ttI f M p P (m + 1) = mt f M (ttI f M p P m) p (p + 1 + (m : Int)) := rfl
theorem ttO_succ (f M : Int → Int) (np : Int) (P : Int → Int) (m : Nat) : ttO f M np P (m + 1) = ttI f M (m : Int) (ttO f M np P m) (np - (m : Int) - 1).toNat := rfl
