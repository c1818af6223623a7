/-! what the class's writes do to a copy's numbers -/
def wr (z : Int) : Int := (iI z).toInt
def aStrike (X : aS) (c : Int) : aS := if aSeen X c then aUp (aUp X 3 c 1) 0 1 (X 0 1 - 1) else X
/-- all from place p on have moved up by one -/
def aSh (X : aS) (p : Int) : aS := fun j z =>
  if j = 1 then (if p < z ∧ z ≤ X 0 0 then X 1 (z - 1) else X 1 z)
  else if j = 2 then (if 0 ≤ z ∧ z < 60 ∧ p ≤ X 2 z then X 2 z + 1 else X 2 z)
  else X j z
def aIns (X : aS) (c a : Int) : aS := aUp (aUp (aUp (aUp (aUp (aSh X a) 1 a c) 2 c a) 0 0 (X 0 0 + 1)) 0 1 (X 0 1 + 1)) 0 6 (X 0 6 + 1)
def aPut (T : aS) (w : Bool) (X : aS) (c : Int) : Int × Int := if w then aWoot T X c else aYata T X c
def aMk (X : aS) (k : Int) : aS := aUp (aUp X 4 k 2) 0 2 (X 0 2 + 1)
def aDo (T : aS) (w : Bool) (X : aS) (k : Int) : aS :=
  if aKind T k = 1 then aStrike (aMk X k) (aSubj T k)
  else aIns (aUp (aMk X k) 0 5 (wr (X 0 5 + (aPut T w (aMk X k) (aSubj T k)).2))) (aSubj T k) (aPut T w (aMk X k) (aSubj T k)).1
def aSettle (T : aS) (w : Bool) : Nat → aS → Int → aS × Int
  | 0, X, n => (X, n)
  | f + 1, X, n => if aReady T X = -1 then (X, n) else aSettle T w f (aDo T w (aUp X 0 3 (X 0 3 - 1)) (aReady T X)) (n + 1)
def aHear (T : aS) (w : Bool) (X : aS) (k : Int) : aS × Int :=
  if ¬ aHasM T k ∨ ¬ aSt X k = 0 then (X, 0)
  else if ¬ aCan T X k then (aUp (aUp X 4 k 1) 0 3 (X 0 3 + 1), 0)
  else aSettle T w 160 (aDo T w X k) 1
/-- the places fit the SEQUENCE -/
def seqOK (X : aS) : Prop := 0 ≤ X 0 0 ∧ X 0 0 ≤ 60 ∧ (∀ q, 0 ≤ q → q < X 0 0 → 0 ≤ X 1 q ∧ X 1 q < 60 ∧ X 2 (X 1 q) = q) ∧ ∀ c, 0 ≤ c → c < 60 → X 2 c = -2 ∨ (0 ≤ X 2 c ∧ X 2 c < X 0 0 ∧ X 1 (X 2 c) = c)
theorem aSh_top {X : aS} (h : seqOK X) : aSh X (X 0 0) = X := by
  funext j z
  unfold aSh
  by_cases h1 : j = 1
  · subst h1
    rw [if_pos rfl, if_neg (by omega)]
  · rw [if_neg h1]
    by_cases h2 : j = 2
    · subst h2
      rw [if_pos rfl]
      by_cases hz : 0 ≤ z ∧ z < 60
      · rcases h.2.2.2 z hz.1 hz.2 with q | q
        · rw [if_neg (by have := h.1; omega)]
        · rw [if_neg (by omega)]
      · rw [if_neg (fun w => hz ⟨w.1, w.2.1⟩)]
    · rw [if_neg h2]
theorem aSh_step {X : aS} (h : seqOK X) {p : Int} (h0 : 0 < p) (h1 : p ≤ X 0 0) : aUp (aUp (aSh X p) 1 p (X 1 (p - 1))) 2 (X 1 (p - 1)) p = aSh X (p - 1) := by
  obtain ⟨s0, s1, s2, s3⟩ := h
  obtain ⟨q1, q2, q3⟩ := s2 (p - 1) (by omega) (by omega)
  funext j z
  unfold aUp aSh
  by_cases hj1 : j = 1
  · subst hj1
    by_cases hz : z = p
    · subst hz
      simp
      intro w
      exfalso
      have := w (by omega)
      omega
    · have e1 : ¬ ((1 : Nat) = 2 ∧ z = X 1 (p - 1)) := fun w => absurd w.1 (by decide)
      have e2 : ¬ ((1 : Nat) = 1 ∧ z = p) := fun w => hz w.2
      rw [if_neg e1, if_neg e2, if_pos rfl, if_pos rfl]
      by_cases hc : p < z ∧ z ≤ X 0 0
      · rw [if_pos hc, if_pos (by omega)]
      · rw [if_neg hc, if_neg (by omega)]
  · by_cases hj2 : j = 2
    · subst hj2
      have e2 : ¬ ((2 : Nat) = 1 ∧ z = p) := fun w => absurd w.1 (by decide)
      have e3 : ¬ ((2 : Nat) = 1) := by decide
      by_cases hz : z = X 1 (p - 1)
      · rw [if_pos ⟨rfl, hz⟩, if_neg e3, if_pos rfl, hz, q3, if_pos (by omega)]
        omega
      · have e1 : ¬ ((2 : Nat) = 2 ∧ z = X 1 (p - 1)) := fun w => hz w.2
        rw [if_neg e1, if_neg e2, if_neg e3, if_pos rfl, if_neg e3, if_pos rfl]
        by_cases hr : 0 ≤ z ∧ z < 60
        · have hne : ¬ X 2 z = p - 1 := fun w => by
            rcases s3 z hr.1 hr.2 with v | v
            · omega
            · rw [w] at v; exact hz v.2.2.symm
          by_cases hc : p ≤ X 2 z
          · rw [if_pos ⟨hr.1, hr.2, hc⟩, if_pos ⟨hr.1, hr.2, by omega⟩]
          · rw [if_neg (fun w => hc w.2.2), if_neg (fun w => by have := w.2.2; omega)]
        · rw [if_neg (fun w => hr ⟨w.1, w.2.1⟩), if_neg (fun w => hr ⟨w.1, w.2.1⟩)]
    · have e1 : ¬ (j = 2 ∧ z = X 1 (p - 1)) := fun w => hj2 w.1
      have e2 : ¬ (j = 1 ∧ z = p) := fun w => hj1 w.1
      rw [if_neg e1, if_neg e2, if_neg hj1, if_neg hj2, if_neg hj1, if_neg hj2]
theorem aUp_ne {X : aS} {j a : Nat} {z v b : Int} (h : ¬ (a = j ∧ b = z)) : aUp X j z v a b = X a b := by unfold aUp; rw [if_neg h]
theorem aUp_eq {X : aS} {j : Nat} {z v : Int} : aUp X j z v j z = v := by unfold aUp; rw [if_pos ⟨rfl, rfl⟩]
theorem aAt_upj (X : aS) (j : Nat) (z v q : Int) (h0 : ¬ j = 0) (h1 : ¬ j = 1) : aAt (aUp X j z v) q = aAt X q := by
  unfold aAt
  rw [aUp_ne (fun w => h0 w.1.symm), aUp_ne (fun w => h1 w.1.symm)]
theorem aPl_upj (X : aS) (j : Nat) (z v q : Int) (h0 : ¬ j = 0) (h1 : ¬ j = 2) : aPl (aUp X j z v) q = aPl X q := by
  unfold aPl
  rw [aUp_ne (fun w => h0 w.1.symm), aUp_ne (fun w => h1 w.1.symm)]
