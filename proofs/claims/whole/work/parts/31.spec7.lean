/-! ===== acts, orders, titles ===== -/
def kXor (a b : Int) : Int := (Int32.ofInt a ^^^ Int32.ofInt b).toInt
theorem kXor_I (a b : Int) : Int32.ofInt a ^^^ Int32.ofInt b = Int32.ofInt (kXor a b) := (Int32.ofInt_toInt _).symm
def aStr (k num x : Int) : Int := if k = 1 ∨ k = 4 then x * 3 + num else if k = 5 then kXor (x + num) num else x + num
def aPC (k num v x : Int) : Int := aStr k num x - v
def aCt (k num v x : Int) : Int := if k = 2 ∨ k = 5 then -(aPC k num v x) else if k = 6 then aPC k num v x + v else aPC k num v x
def aPT (k num v x : Int) : Int := aCt k num v x * 2
def aTl (k num v x : Int) : Int := if k = 3 ∨ k = 6 then kXor (aPT k num v x) 7 else if k = 4 then aPT k num v (x - 1) + aStr k num 2 else aPT k num v x
def rb (e : (Int → Int) × Int) (b : Int) : (Int → Int) × Int := (if e.2 < 20 then aup e.1 e.2 b else e.1, e.2 + 1)
def bS (k : Int) : List Int := if k = 1 ∨ k = 4 then [11, 1] else if k = 5 then [51, 1] else [1]
def bC (k : Int) : List Int := if k = 2 ∨ k = 5 then 21 :: 2 :: bS k else if k = 6 then 61 :: 2 :: bS k else 2 :: bS k
def bT (k : Int) : List Int := if k = 3 ∨ k = 6 then 31 :: 3 :: bC k else if k = 4 then 41 :: 3 :: (bC k ++ bS k) else 3 :: bC k
theorem bS_len (k : Int) : (bS k).length ≤ 2 := by unfold bS; (repeat' split) <;> decide
theorem bC_len (k : Int) : (bC k).length ≤ 4 := by
  have := bS_len k
  unfold bC
  (repeat' split) <;> (simp only [List.length_cons]; omega)
theorem bT_len (k : Int) : (bT k).length ≤ 8 := by
  have h1 := bS_len k
  have h2 := bC_len k
  unfold bT
  (repeat' split) <;> (simp only [List.length_cons, List.length_append]; omega)
theorem rb_len : ∀ (l : List Int) (e : (Int → Int) × Int), (l.foldl rb e).2 = e.2 + (l.length : Int)
  | [], e => by simp
  | b :: l, e => by
    rw [List.foldl_cons, rb_len l (rb e b), List.length_cons]
    show e.2 + 1 + _ = _
    omega
/-- an act goes on: the bodies are so many more, the rest of the object stays -/
def AG (bd : Int → Int) (v : Nat → Int) (l : List Int) (bd2 : Int → Int) (v2 : Nat → Int) : Prop := (bd2, v2 21) = l.foldl rb (bd, v 21) ∧ v2 3 = v 3 ∧ v2 22 = v 22 ∧ v2 23 = v 23 ∧ v2 24 = v 24
theorem AG_len {bd bd2 : Int → Int} {v v2 : Nat → Int} {l : List Int} (h : AG bd v l bd2 v2) : v2 21 = v 21 + (l.length : Int) := by
  have e := congrArg Prod.snd h.1
  rw [rb_len] at e
  exact e
theorem AG_app {bd bd1 bd2 : Int → Int} {v v1 v2 : Nat → Int} {l l2 : List Int} (h : AG bd v l bd1 v1) (g : AG bd1 v1 l2 bd2 v2) : AG bd v (l ++ l2) bd2 v2 := by
  refine ⟨?_, g.2.1.trans h.2.1, g.2.2.1.trans h.2.2.1, g.2.2.2.1.trans h.2.2.2.1, g.2.2.2.2.trans h.2.2.2.2⟩
  rw [List.foldl_append, ← h.1]
  exact g.1
def qAct (f : Int → Int) (p a x : Int) : Int := if ¬ ((0 ≤ p ∧ p ≤ f 0 - 1) ∧ (0 ≤ a ∧ a ≤ 2)) then 0 else if a = 0 then aStr (f (7 + p)) p x else if a = 1 then aCt (f (7 + p)) p (f (13 + p)) x else aTl (f (7 + p)) p (f (13 + p)) x
def lAct (f : Int → Int) (p a : Int) : List Int := if ¬ ((0 ≤ p ∧ p ≤ f 0 - 1) ∧ (0 ≤ a ∧ a ≤ 2)) then [] else if a = 0 then bS (f (7 + p)) else if a = 1 then bC (f (7 + p)) else bT (f (7 + p))
/-- how many are ahead of p by M -/
def ahd (M : Int → Int) (p : Int) : Nat → Int
  | 0 => 0
  | m + 1 => ahd M p m + (if M p < M (m : Int) ∨ (M (m : Int) = M p ∧ (m : Int) < p) then 1 else 0)
theorem ahd_succ (M : Int → Int) (p : Int) (m : Nat) : ahd M p (m + 1) = ahd M p m + (if M p < M (m : Int) ∨ (M (m : Int) = M p ∧ (m : Int) < p) then 1 else 0) := rfl
theorem ahd_b (M : Int → Int) (p : Int) : ∀ m : Nat, 0 ≤ ahd M p m ∧ ahd M p m ≤ (m : Int)
  | 0 => by simp [ahd]
  | m + 1 => by
    have := ahd_b M p m
    rw [ahd_succ]
    split <;> omega
theorem ahd_congr {M M2 : Int → Int} {p : Int} : ∀ m : Nat, (∀ j : Int, 0 ≤ j → j < (m : Int) → M j = M2 j) → M p = M2 p → ahd M p m = ahd M2 p m
  | 0, _, _ => rfl
  | m + 1, h, hp => by
    rw [ahd_succ, ahd_succ, ahd_congr m (fun j a b => h j a (by omega)) hp, h (m : Int) (by omega) (by omega), hp]
/-- the last of those at place k -/
def ordL (M : Int → Int) (np : Nat) (k : Int) : Nat → Int
  | 0 => 0
  | m + 1 => if ahd M (m : Int) np = k then (m : Int) else ordL M np k m
def qOrder (f : Int → Int) (k : Int) : Int := if ¬ (0 ≤ k ∧ k ≤ f 0 - 1) then -1 else ordL (fMost f) (f 0).toNat k (f 0).toNat
/-- two meet: their points -/
def mtN (M : Int → Int) (p q : Int) : Int := if (if M q < M p then M p else M q) < 1 then 1 else (if M q < M p then M p else M q)
def mtW (f M : Int → Int) (p q : Int) : Int := (rs (rsG f p q (mtN M p q)) 4).1
def mtL (f M : Int → Int) (p q : Int) : Int := 10000 - (rs (rsG f p q (mtN M p q)) 4).1 - (rs (rsG f p q (mtN M p q)) 4).2
def mtP (a b : Int) : Int := if b < a then 2 else if a = b then 1 else 0
def mt (f M P : Int → Int) (p q : Int) : Int → Int := aup (aup P p (P p + mtP (mtW f M p q) (mtL f M p q))) q (P q + mtP (mtL f M p q) (mtW f M p q))
def ttI (f M : Int → Int) (p : Int) (P : Int → Int) : Nat → Int → Int
  | 0 => P
  | m + 1 => mt f M (ttI f M p P m) p (p + 1 + (m : Int))
def ttO (f M : Int → Int) (np : Int) (P : Int → Int) : Nat → Int → Int
  | 0 => P
  | m + 1 => ttI f M (m : Int) (ttO f M np P m) (np - (m : Int) - 1).toNat
def tbs (P : Int → Int) : Nat → Int
  | 0 => 0
  | m + 1 => if P (tbs P m) < P ((m : Int) + 1) then (m : Int) + 1 else tbs P m
def qPts (f : Int → Int) : Int → Int := ttO f (fMost f) (f 0) (fun _ => 0) (f 0).toNat
def qTitle (f : Int → Int) (p : Int) : Int := if p ≠ -1 ∧ ¬ (0 ≤ p ∧ p ≤ f 0 - 1) then -1 else if p = -1 then (if f 0 = 0 then -5 else tbs (qPts f) (f 0 - 1).toNat) else qPts f p
