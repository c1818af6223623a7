/-! a text T and a copy X as numbers. T: 0: 0 CHARACTERS, 1 messages, 2 erases; 1 site, 2 mark, 3 letter, 4 left, 5 right, 6 kind, 7 maker, 8 subject, 9 made by a site. X: 0: 0 length, 1 seen, 2 done, 3 waiting; 1 sequence, 2 places, 3 erased, 4 states -/
abbrev aS : Type := Nat → Int → Int
def vT (M : sjM) (t : Nat) : aS := fun j z => if j < 10 then (M (9 + 10 * t + j) z).toInt else 0
def vX (M : sjM) (i : Nat) : aS := fun j z => if j < 5 then (M (29 + 5 * i + j) z).toInt else 0
def aUp (X : aS) (j : Nat) (z v : Int) : aS := fun a b => if a = j ∧ b = z then v else X a b
theorem vT_0 (M : sjM) (t : Nat) (z : Int) : vT M t 0 z = (M (9 + 10 * t) z).toInt := rfl
theorem vX_0 (M : sjM) (i : Nat) (z : Int) : vX M i 0 z = (M (29 + 5 * i) z).toInt := rfl
theorem vT_j (M : sjM) (t j : Nat) (z : Int) (h : j < 10) : vT M t j z = (M (9 + 10 * t + j) z).toInt := by unfold vT; rw [if_pos h]
theorem vX_j (M : sjM) (i j : Nat) (z : Int) (h : j < 5) : vX M i j z = (M (29 + 5 * i + j) z).toInt := by unfold vX; rw [if_pos h]
/-- what a store into a copy's cell does to the views -/
theorem vX_U (M : sjM) (i j : Nat) (z : Int) (x : Int32) (h : j < 5) : vX (sjU M (29 + 5 * i + j) z x) i = aUp (vX M i) j z x.toInt := by
  funext a b
  unfold vX aUp sjU
  by_cases ha : a < 5
  · by_cases hj : a = j
    · subst hj
      by_cases hb : b = z <;> simp [ha, hb]
    · have : ¬ (29 + 5 * i + a = 29 + 5 * i + j) := by omega
      simp [ha, hj, this]
  · have : ¬ a = j := by omega
    simp [ha, this]
theorem vX_U0 (M : sjM) (i : Nat) (z : Int) (x : Int32) : vX (sjU M (29 + 5 * i) z x) i = aUp (vX M i) 0 z x.toInt := vX_U M i 0 z x (by omega)
theorem vX_o (M M' : sjM) (i : Nat) (h : ∀ k, 29 + 5 * i ≤ k → k ≤ 29 + 5 * i + 4 → M' k = M k) : vX M' i = vX M i := by
  funext a b
  unfold vX
  by_cases ha : a < 5
  · rw [if_pos ha, if_pos ha, h _ (by omega) (by omega)]
  · rw [if_neg ha, if_neg ha]
theorem vT_o (M M' : sjM) (t : Nat) (h : ∀ k, 9 + 10 * t ≤ k → k ≤ 9 + 10 * t + 9 → M' k = M k) : vT M' t = vT M t := by
  funext a b
  unfold vT
  by_cases ha : a < 10
  · rw [if_pos ha, if_pos ha, h _ (by omega) (by omega)]
  · rw [if_neg ha, if_neg ha]
/-- nothing but copy i's five cells has changed -/
def onC (M M' : sjM) (i : Nat) : Prop := ∀ k, ¬ (29 + 5 * i ≤ k ∧ k ≤ 29 + 5 * i + 4) → M' k = M k
theorem onC_rf (M : sjM) (i : Nat) : onC M M i := fun _ _ => rfl
theorem onC_tr {M M1 M2 : sjM} {i : Nat} (h1 : onC M M1 i) (h2 : onC M1 M2 i) : onC M M2 i := fun k h => (h2 k h).trans (h1 k h)
theorem onC_U (M : sjM) (i j : Nat) (z : Int) (x : Int32) (h : j < 5) : onC M (sjU M (29 + 5 * i + j) z x) i := fun k hk => sjU_o (by omega)
theorem onC_U0 (M : sjM) (i : Nat) (z : Int) (x : Int32) : onC M (sjU M (29 + 5 * i) z x) i := onC_U M i 0 z x (by omega)
theorem onC_T {M M' : sjM} {i : Nat} (h : onC M M' i) (t : Nat) (ht : t < 2) : vT M' t = vT M t := vT_o M M' t (fun k h1 h2 => h k (by omega))
theorem onC_X {M M' : sjM} {i i2 : Nat} (h : onC M M' i) (hn : i2 ≠ i) : vX M' i2 = vX M i2 := vX_o M M' i2 (fun k h1 h2 => h k (by omega))
theorem iI_wr (a b : Int) : iI ((iI a).toInt + b) = iI (a + b) := by rw [← iI_add, iI_of, iI_add]
theorem sjU_self (M : sjM) (k : Nat) (z : Int) : sjU M k z (M k z) = M := by
  funext a b
  unfold sjU
  by_cases h : a = k ∧ b = z
  · rw [if_pos h, h.1, h.2]
  · rw [if_neg h]
theorem sjU_U (M : sjM) (k : Nat) (z : Int) (x y : Int32) : sjU (sjU M k z x) k z y = sjU M k z y := by
  funext a b
  unfold sjU
  by_cases h : a = k ∧ b = z
  · rw [if_pos h, if_pos h]
  · rw [if_neg h, if_neg h, if_neg h]
abbrev aHasM (T : aS) (k : Int) : Prop := 0 ≤ k ∧ k < T 0 1 ∧ k < 160
abbrev aHasC (T : aS) (c : Int) : Prop := 0 ≤ c ∧ c < T 0 0 ∧ c < 60
def aKind (T : aS) (k : Int) : Int := if aHasM T k then T 6 k else -1
def aMaker (T : aS) (k : Int) : Int := if aHasM T k then T 7 k else -1
def aSubj (T : aS) (k : Int) : Int := if aHasM T k then T 8 k else -1
def aSite (T : aS) (c : Int) : Int := if aHasC T c then T 1 c else -1
def aMark (T : aS) (c : Int) : Int := if aHasC T c then T 2 c else if c = -1 then -1 else 9999
def aLetter (T : aS) (c : Int) : Int := if aHasC T c then T 3 c else -1
def aLeft (T : aS) (c : Int) : Int := if aHasC T c then T 4 c else -1
def aRight (T : aS) (c : Int) : Int := if aHasC T c then T 5 c else 60
def aPl (X : aS) (c : Int) : Int := if c < 0 then -1 else if c < 60 then X 2 c else X 0 0
def aAt (X : aS) (q : Int) : Int := if 0 ≤ q ∧ q < X 0 0 ∧ q < 60 then X 1 q else 60
abbrev aSeen (X : aS) (c : Int) : Prop := 0 ≤ c ∧ c < 60 ∧ ¬ X 2 c = -2 ∧ X 3 c = 0
def aSt (X : aS) (k : Int) : Int := if 0 ≤ k ∧ k < 160 then X 4 k else 0
abbrev aSpans (T X : aS) (o l r : Int) : Prop := aPl X (aLeft T o) ≤ l ∧ r ≤ aPl X (aRight T o)
abbrev aCan (T X : aS) (k : Int) : Prop := (aKind T k = 1 ∧ ¬ aPl X (aSubj T k) = -2) ∨ (¬ aKind T k = 1 ∧ ¬ aPl X (aLeft T (aSubj T k)) = -2 ∧ ¬ aPl X (aRight T (aSubj T k)) = -2)
/-- the least that waits and can be done, from k on -/
def aReadyF (T X : aS) : Nat → Int → Int
  | 0, _ => -1
  | n + 1, k => if aSt X k = 1 ∧ aCan T X k then k else aReadyF T X n (k + 1)
def aReady (T X : aS) : Int := if X 0 3 = 0 then -1 else aReadyF T X (T 0 1).toNat 0
def aSeenAtF (X : aS) (i : Int) : Nat → Int → Int → Int
  | 0, _, _ => 60
  | n + 1, q, a => if aSeen X (aAt X q) then (if a = i then aAt X q else aSeenAtF X i n (q + 1) (a + 1)) else aSeenAtF X i n (q + 1) a
def aSeenAt (X : aS) (i : Int) : Int := aSeenAtF X i (X 0 0).toNat 0 0
def aLFP (X : aS) (i : Int) : Int := if i ≤ 0 then -1 else aSeenAt X (i - 1)
def aRFP (X : aS) (w : Bool) (i : Int) : Int := if w then aSeenAt X i else aAt X (aPl X (aLFP X i) + 1)
/-- WOOT's ROW from q on: the last one that goes ahead, the one that comes behind, how many were asked -/
def aRow (T X : aS) (mk l r : Int) : Nat → Int → Int → Int × Int × Int
  | 0, _, a => (a, r, 0)
  | n + 1, q, a => if aSpans T X (aAt X q) l r then (if aMark T (aAt X q) < mk then ((aRow T X mk l r n (q + 1) q).1, (aRow T X mk l r n (q + 1) q).2.1, (aRow T X mk l r n (q + 1) q).2.2 + 1) else (a, q, 1)) else aRow T X mk l r n (q + 1) a
def aWootF (T X : aS) (mk : Int) : Nat → Int → Int → Int × Int
  | 0, _, r => (r, 0)
  | n + 1, l, r => if 1 < r - l then
      ((aWootF T X mk n (aRow T X mk l r (r - l - 1).toNat (l + 1) l).1 (aRow T X mk l r (r - l - 1).toNat (l + 1) l).2.1).1,
       (r - l - 1) + (aRow T X mk l r (r - l - 1).toNat (l + 1) l).2.2 + (aWootF T X mk n (aRow T X mk l r (r - l - 1).toNat (l + 1) l).1 (aRow T X mk l r (r - l - 1).toNat (l + 1) l).2.1).2)
    else (r, 0)
def aWoot (T X : aS) (c : Int) : Int × Int := aWootF T X (aMark T c) 60 (aPl X (aLeft T c)) (aPl X (aRight T c))
/-- YATA from place q on, the place so far being a: where it comes, how many were looked at -/
def aYataF (T X : aS) (c first : Int) : Nat → Int → Int → Int × Int
  | 0, _, a => (a, 0)
  | n + 1, q, a =>
    if aLeft T (aAt X q) = aLeft T c then
      (if aSite T (aAt X q) < aSite T c then ((aYataF T X c first n (q + 1) (q + 1)).1, (aYataF T X c first n (q + 1) (q + 1)).2 + 1)
       else if aRight T (aAt X q) = aRight T c then (a, 1)
       else ((aYataF T X c first n (q + 1) a).1, (aYataF T X c first n (q + 1) a).2 + 1))
    else if aPl X (aLeft T (aAt X q)) < first then (a, 1)
    else if aPl X (aLeft T (aAt X q)) < a then ((aYataF T X c first n (q + 1) (q + 1)).1, (aYataF T X c first n (q + 1) (q + 1)).2 + 1)
    else ((aYataF T X c first n (q + 1) a).1, (aYataF T X c first n (q + 1) a).2 + 1)
def aYata (T X : aS) (c : Int) : Int × Int := aYataF T X c (aPl X (aLeft T c) + 1) (aPl X (aRight T c) - (aPl X (aLeft T c) + 1)).toNat (aPl X (aLeft T c) + 1) (aPl X (aLeft T c) + 1)
/-- whether two copies are alike, from place q on -/
def aLikeF (X Y : aS) : Nat → Int → Prop
  | 0, _ => True
  | n + 1, q => aAt X q = aAt Y q ∧ (aSeen X (aAt X q) ↔ aSeen Y (aAt X q)) ∧ aLikeF X Y n (q + 1)
def aLike (X Y : aS) : Prop := X 0 0 = Y 0 0 ∧ aLikeF X Y (X 0 0).toNat 0
theorem rg_c {z : Int} (h : rng z) : rng z := h
theorem rg_kind (M : sjM) (t : Nat) (k : Int) : rng (aKind (vT M t) k) := by unfold aKind; split; exact rg _; exact ⟨by decide, by decide⟩
theorem rg_maker (M : sjM) (t : Nat) (k : Int) : rng (aMaker (vT M t) k) := by unfold aMaker; split; exact rg _; exact ⟨by decide, by decide⟩
theorem rg_subj (M : sjM) (t : Nat) (k : Int) : rng (aSubj (vT M t) k) := by unfold aSubj; split; exact rg _; exact ⟨by decide, by decide⟩
theorem rg_site (M : sjM) (t : Nat) (c : Int) : rng (aSite (vT M t) c) := by unfold aSite; split; exact rg _; exact ⟨by decide, by decide⟩
theorem rg_letter (M : sjM) (t : Nat) (c : Int) : rng (aLetter (vT M t) c) := by unfold aLetter; split; exact rg _; exact ⟨by decide, by decide⟩
theorem rg_left (M : sjM) (t : Nat) (c : Int) : rng (aLeft (vT M t) c) := by unfold aLeft; split; exact rg _; exact ⟨by decide, by decide⟩
theorem rg_right (M : sjM) (t : Nat) (c : Int) : rng (aRight (vT M t) c) := by unfold aRight; split; exact rg _; exact ⟨by decide, by decide⟩
theorem rg_mark (M : sjM) (t : Nat) (c : Int) : rng (aMark (vT M t) c) := by
  unfold aMark
  split
  · exact rg _
  · split <;> exact ⟨by decide, by decide⟩
theorem rg_pl (M : sjM) (i : Nat) (c : Int) : rng (aPl (vX M i) c) := by
  unfold aPl
  split
  · exact ⟨by decide, by decide⟩
  · split <;> exact rg _
theorem rg_at (M : sjM) (i : Nat) (q : Int) : rng (aAt (vX M i) q) := by unfold aAt; split; exact rg _; exact ⟨by decide, by decide⟩
theorem rg_st (M : sjM) (i : Nat) (k : Int) : rng (aSt (vX M i) k) := by unfold aSt; split; exact rg _; exact ⟨by decide, by decide⟩
theorem rg_seenAtF (M : sjM) (i : Nat) (z : Int) : ∀ (n : Nat) (q a : Int), rng (aSeenAtF (vX M i) z n q a)
  | 0, _, _ => by rw [aSeenAtF]; exact ⟨by decide, by decide⟩
  | n + 1, q, a => by
    rw [aSeenAtF]
    split
    · split
      · exact rg_at M i q
      · exact rg_seenAtF M i z n _ _
    · exact rg_seenAtF M i z n _ _
theorem rg_seenAt (M : sjM) (i : Nat) (z : Int) : rng (aSeenAt (vX M i) z) := rg_seenAtF M i z _ _ _
theorem rg_lfp (M : sjM) (i : Nat) (z : Int) : rng (aLFP (vX M i) z) := by unfold aLFP; split; exact ⟨by decide, by decide⟩; exact rg_seenAt M i _
theorem aAt_up0 (X : aS) (z v q : Int) (hz : ¬ z = 0) : aAt (aUp X 0 z v) q = aAt X q := by
  unfold aAt aUp; simp [Ne.symm hz, hz]
theorem aPl_up0 (X : aS) (z v q : Int) (hz : ¬ z = 0) : aPl (aUp X 0 z v) q = aPl X q := by
  unfold aPl aUp; simp [Ne.symm hz, hz]
theorem aSt_up0 (X : aS) (z v q : Int) : aSt (aUp X 0 z v) q = aSt X q := by
  unfold aSt aUp; simp
