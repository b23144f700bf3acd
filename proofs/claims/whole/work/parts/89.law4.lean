/-! ===== what a writing call leaves as it was; one player's cells ahead of all ===== -/
theorem qFeed_k {f : Int → Int} {s j : Int} (h4 : 0 ≤ f 4 ∧ f 4 ≤ 100) (h : j ≠ 4) (h2 : j < 121 ∨ 221 ≤ j) : (qFeed f s).2 j = f j := by
  unfold qFeed
  split
  · rfl
  · split
    · rfl
    · dsimp only
      rw [aup_n _ _ h, aup_n _ _ (by omega)]
theorem qSee_k {f : Int → Int} {p n fo c j : Int} (h2 : 0 ≤ f 2 ∧ f 2 ≤ 8) (h : j ≠ 2) (h3 : j < 73 ∨ 105 ≤ j) : (qSee f p n fo c).2 j = f j := by
  unfold qSee
  split
  · exact aup_n _ _ h
  · split
    · rfl
    · split
      · rfl
      · split
        · rfl
        · dsimp only
          rw [aup_n _ _ h, aup_n _ _ (by omega), aup_n _ _ (by omega), aup_n _ _ (by omega), aup_n _ _ (by omega)]
theorem qBook_k {f : Int → Int} {p m j : Int} (h2 : 0 ≤ f 3 ∧ f 3 ≤ 8) (h : j ≠ 3) (h3 : j < 105 ∨ 121 ≤ j) : (qBook f p m).2 j = f j := by
  unfold qBook
  split
  · exact aup_n _ _ h
  · split
    · rfl
    · split
      · rfl
      · split
        · rfl
        · dsimp only
          rw [aup_n _ _ h, aup_n _ _ (by omega), aup_n _ _ (by omega)]
theorem qSet_k {f : Int → Int} {p w n j : Int} (h1 : j ≠ 19 + p) (h2 : j ≠ 31 + p) (h3 : j ≠ 37 + p) : (qSet f p w n).2 j = f j := by
  unfold qSet
  by_cases c1 : (0 ≤ p ∧ p ≤ f 0 - 1) ∧ (0 ≤ w ∧ w ≤ 2)
  · rw [if_neg (fun z => z c1)]
    by_cases c2 : 0 ≤ n ∧ n ≤ (if w = 0 then 20 else if w = 1 then 9 else 99)
    · rw [if_neg (fun z => z c2)]
      dsimp only
      refine aup_n _ _ ?_
      unfold sAt
      split
      · exact h1
      · split
        · exact h2
        · exact h3
    · rw [if_pos c2]
  · rw [if_pos c1]
theorem qRow_k {f : Int → Int} {p k n j : Int} (h : j < 49 + 4 * p ∨ 53 + 4 * p ≤ j) : (qRow f p k n).2 j = f j := by
  unfold qRow
  split
  · rfl
  · split
    · rfl
    · split
      · dsimp only
        exact aup_n _ _ (by omega)
      · rfl
theorem qGo_k {f : Int → Int} {p n fo d j : Int} (h1 : j ≠ 6) (h2 : j ≠ 43 + p) (h3 : j ≠ 19 + p) (h4 : j ≠ 37 + p) : (qGo f p n fo d).2 j = f j := by
  by_cases hz : (0 ≤ p ∧ p ≤ f 0 - 1) ∧ (((1 ≤ n ∧ n ≤ 99) ∧ (0 ≤ fo ∧ fo ≤ 20)) ∧ (0 ≤ d ∧ d ≤ 9)) ∧ f 6 ≠ 9999
  · exact (qGo_v rfl hz.1 hz.2.1 hz.2.2).2.2.2.2.2 j h1 h2 h3 h4
  · rw [qGo_n hz]
theorem qPlayer_k {f : Int → Int} {k v s h u j : Int} (h0 : 0 ≤ f 0 ∧ f 0 ≤ 6) (h1 : j ≠ 0) (h2 : j < 7 ∨ 73 ≤ j) : (qPlayer f k v s h u).2 j = f j := by
  by_cases c : (0 ≤ k ∧ k ≤ 6) ∧ ((0 ≤ v ∧ v ≤ 9) ∧ (0 ≤ s ∧ s ≤ 20) ∧ (1 ≤ h ∧ h ≤ 9) ∧ (0 ≤ u ∧ u ≤ 9999)) ∧ f 0 ≠ 6
  · have q := (qPlayer_v c.1 c.2.1 (show 0 ≤ f 0 ∧ f 0 < 6 by omega)).2.2.2.2.2.2.2.2.2.2
    exact q j h1 (by omega) (by omega) (by omega) (by omega) (by omega) (by omega) (by omega) (by omega)
  · rw [(qPlayer_n c).1]
theorem qInn_k {f : Int → Int} {j : Int} (h0 : 0 ≤ f 1) (h : j < 221) (h1 : j ≠ 1) (h4 : j ≠ 4) (h5 : j ≠ 5) : (qInn f).2 j = f j := by
  by_cases c1 : f 1 = 5
  · rw [qInn_0 c1]
  · by_cases c2 : inP f
    · rw [qInn_p c1 c2]
      dsimp only
      rw [aup_n _ _ h5, aup_n _ _ h1]
      exact innF_lo h0 h h4
    · rw [qInn_m c1 c2]
      exact innF_lo h0 h h4
def zpR (f : Int → Int) (tu : Int → Nat) (p : Int) : aW := if f (7 + p) = 6 then [(tu p, cn 0 4 (tnF f p))] else []
theorem zpW_R {ta : Nat} {f : Int → Int} {pl tu : Int → Nat} {p : Int} : zpW ta f pl tu p = (pl p, zpO ta f p (tu p)) :: zpR f tu p := rfl
theorem zpR_cf {f F : Int → Int} {tu : Int → Nat} {p : Int} (h1 : F (7 + p) = f (7 + p)) (h2 : tnF F p = tnF f p) : zpR F tu p = zpR f tu p := by
  unfold zpR
  rw [h1, h2]
theorem perm_pull {CB A W B Y : aW} {c : Nat × aC} : (CB ++ ((A ++ ((c :: W) ++ B)) ++ Y)).Perm ((c :: CB) ++ ((A ++ (W ++ B)) ++ Y)) := by
  have e1 : CB ++ ((A ++ ((c :: W) ++ B)) ++ Y) = (CB ++ A) ++ (c :: (W ++ (B ++ Y))) := by simp [List.append_assoc]
  have e2 : (c :: CB) ++ ((A ++ (W ++ B)) ++ Y) = c :: ((CB ++ A) ++ (W ++ (B ++ Y))) := by simp [List.append_assoc]
  rw [e1, e2]
  exact List.perm_middle
theorem perm_nl {wr E nl Z il X : aW} : (wr ++ (E ++ nl) ++ (Z ++ (il ++ X))).Perm ((wr ++ E) ++ (Z ++ ((il ++ nl) ++ X))) := by
  rw [List.append_assoc, List.append_assoc, List.append_assoc, List.append_assoc]
  refine List.Perm.append_left wr (List.Perm.append_left E ?_)
  exact (List.perm_append_comm_assoc nl Z _).trans (List.Perm.append_left Z (List.perm_append_comm_assoc nl il X))
theorem perm_np {wr E nl Z Y : aW} : (wr ++ (E ++ nl) ++ (Z ++ Y)).Perm ((wr ++ E) ++ ((Z ++ nl) ++ Y)) := by
  rw [List.append_assoc, List.append_assoc, List.append_assoc, List.append_assoc]
  exact List.Perm.append_left wr (List.Perm.append_left E (List.perm_append_comm_assoc nl Z Y))
/-- one player's row of the whole is written -/
theorem zpS_pl {ta : Nat} {f : Int → Int} {pl tu : Int → Nat} {p : Int} (hS : SOK f) (hp : 0 ≤ p ∧ p ≤ f 0 - 1) : ∃ A B : aW, zpA ta f pl tu = A ++ (((pl p, zpO ta f p (tu p)) :: zpR f tu p) ++ B) ∧ ∀ F : Int → Int, F 0 = f 0 → (∀ j : Int, 7 ≤ j → j < 73 → j ≠ 19 + p → j ≠ 31 + p → j ≠ 37 + p → j ≠ 43 + p → (j < 49 + 4 * p ∨ 53 + 4 * p ≤ j) → F j = f j) → zpA ta F pl tu = A ++ (((pl p, zpO ta F p (tu p)) :: zpR F tu p) ++ B) := by
  have hg := hS.1.1
  obtain ⟨A, B, h⟩ := zpS_sp (ta := ta) (f := f) (pl := pl) (tu := tu) (n := (f 0).toNat) hp.1 (by omega)
  refine ⟨A, B, h f (fun _ _ _ _ => rfl), fun F e0 he => ?_⟩
  have q := h F (fun i i0 i1 hi => zpW_cf (he _ (by omega) (by omega) (by omega) (by omega) (by omega) (by omega) (by omega)) (zpL_cf (he _ (by omega) (by omega) (by omega) (by omega) (by omega) (by omega) (by omega)) (he _ (by omega) (by omega) (by omega) (by omega) (by omega) (by omega) (by omega)) (he _ (by omega) (by omega) (by omega) (by omega) (by omega) (by omega) (by omega)) (he _ (by omega) (by omega) (by omega) (by omega) (by omega) (by omega) (by omega)) (he _ (by omega) (by omega) (by omega) (by omega) (by omega) (by omega) (by omega)) (he _ (by omega) (by omega) (by omega) (by omega) (by omega) (by omega) (by omega)) (he _ (by omega) (by omega) (by omega) (by omega) (by omega) (by omega) (by omega))) (tnF_cg fun j j0 j1 => he _ (by omega) (by omega) (by omega) (by omega) (by omega) (by omega) (by omega)))
  show zpS ta F pl tu (F 0).toNat = _
  rw [e0]
  exact q
theorem zpA_new {ta : Nat} {f F : Int → Int} {pl tu : Int → Nat} {a b : Nat} (h0 : 0 ≤ f 0) (e0 : F 0 = f 0 + 1) (he : ∀ p : Int, 0 ≤ p → p < f 0 → F (7 + p) = f (7 + p) ∧ zpO ta F p = zpO ta f p ∧ tnF F p = tnF f p) : zpA ta F (nuf pl (f 0) a) (nuf tu (f 0) b) = zpA ta f pl tu ++ zpW ta F (fun _ => a) (fun _ => b) (f 0) := by
  show zpS ta F (nuf pl (f 0) a) (nuf tu (f 0) b) (F 0).toNat = zpS ta f pl tu (f 0).toNat ++ _
  rw [e0, zpS_succ h0]
  refine congrArg (· ++ _) (zpS_cf fun p p0 p1 => ?_)
  obtain ⟨h1, h2, h3⟩ := he p p0 (by omega)
  unfold zpW
  rw [h1, h3]
  exact congrArg (fun z => (pl p, z) :: _) (congrFun h2 (tu p))
