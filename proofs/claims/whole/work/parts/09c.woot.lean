/-! WOOT: copies are sorted by their CHARACTERS' words -/
def kl (T : aS) (key : Int → List Nat) (a : Int) : List Nat := if aHasC T a then key a else []
def tg (T : aS) (c : Int) : Nat := 2 * (aMark T c).toNat + 1
def wOK (T : aS) (key : Int → List Nat) : Prop := (∀ c, aHasC T c → wO (kl T key (aLeft T c)) (kl T key (aRight T c)) ∧ key c = psi (kl T key (aLeft T c)) (kl T key (aRight T c)) (tg T c)) ∧ (∀ c, aHasC T c → wV (key c)) ∧ (∀ c, aHasC T c → 0 ≤ aMark T c) ∧ ∀ c o, aHasC T c → aHasC T o → aMark T c = aMark T o → c = o
def srtK (key : Int → List Nat) (X : aS) : Prop := ∀ a b, 0 ≤ a → a < b → b < X 0 0 → wl (key (X 1 a)) (key (X 1 b))
def lowK (key : Int → List Nat) (X : aS) (q : Int) : List Nat := if q < 0 then [] else key (X 1 q)
def uppK (key : Int → List Nat) (X : aS) (q : Int) : List Nat := if X 0 0 ≤ q then [] else key (X 1 q)
theorem wl_asym {a b : List Nat} (h : wl a b) (h2 : wl b a) : False := wl_irrefl _ (wl_trans _ _ _ h h2)
section WT
variable {T X : aS} {key : Int → List Nat} {c : Int}
theorem kl_B (hw : wOK T key) (a : Int) : wB (kl T key a) := by
  unfold kl
  split
  · rename_i h; exact Or.inr (hw.2.1 a h)
  · exact Or.inl rfl
theorem lowK_B (hw : wOK T key) (h : cpOK T X) {q : Int} (h1 : q < X 0 0) : wB (lowK key X q) := by
  unfold lowK
  split
  · exact Or.inl rfl
  · exact Or.inr (hw.2.1 _ (h.2.2.1 q (by omega) h1).1)
theorem uppK_B (hw : wOK T key) (h : cpOK T X) {q : Int} (h1 : 0 ≤ q) : wB (uppK key X q) := by
  unfold uppK
  split
  · exact Or.inl rfl
  · exact Or.inr (hw.2.1 _ (h.2.2.1 q h1 (by omega)).1)
theorem lu_O (hs : srtK key X) {a b : Int} (h : a < b) : wO (lowK key X a) (uppK key X b) := by
  unfold lowK uppK
  split
  · exact Or.inl rfl
  · split
    · exact Or.inr (Or.inl rfl)
    · exact Or.inr (Or.inr (hs a b (by omega) h (by omega)))
theorem kl_none {a : Int} (h : ¬ aHasC T a) : kl T key a = [] := by unfold kl; rw [if_neg h]
theorem kl_some {a : Int} (h : aHasC T a) : kl T key a = key a := by unfold kl; rw [if_pos h]
theorem key_between (hw : wOK T key) (hc : aHasC T c) : wL (kl T key (aLeft T c)) (key c) ∧ wU (key c) (kl T key (aRight T c)) := by
  obtain ⟨h1, h2⟩ := hw.1 c hc
  have := psi_A _ _ _ (tg T c) (Nat.le_refl _) (kl_B hw _) (kl_B hw _) h1 (by unfold tg; omega)
  rw [← h2] at this
  exact this.2
/-- in a sorted copy each one stands behind its LEFT and ahead of its RIGHT -/
theorem woot_free (hw : wOK T key) (hf : tRef T) (h : cpOK T X) (hs : srtK key X) {q : Int} (h0 : 0 ≤ q) (h1 : q < X 0 0) : aPl X (aLeft T (X 1 q)) < q ∧ q < aPl X (aRight T (X 1 q)) := by
  obtain ⟨o1, o2, o3, o4, o5⟩ := cp_at h h0 h1
  rw [at_in h0 h1 h.2.1] at o1 o2 o3 o4 o5
  obtain ⟨k1, k2⟩ := key_between hw o1
  constructor
  · rcases o4 with w | w | ⟨w0, w1, w2⟩
    · rw [w, pl_beg]; omega
    · have := (hf _ o1).1; omega
    · obtain ⟨c1, c2, c3, c4⟩ := cp_has h w0 w1 w2
      rw [pl_char w0 w1]
      rw [kl_some c1] at k1
      have k1' : wl (key (aLeft T (X 1 q))) (key (X 1 q)) := by
        rcases k1 with k1 | k1
        · exact absurd k1 (wV_ne (hw.2.1 _ c1))
        · exact k1
      rcases Int.lt_trichotomy (X 2 (aLeft T (X 1 q))) q with v | v | v
      · exact v
      · exfalso
        rw [v] at c4
        rw [← c4] at k1'
        exact wl_irrefl _ k1'
      · have := hs _ _ h0 v c3
        rw [c4] at this
        exact absurd this (fun q => wl_asym k1' q)
  · rcases o5 with w | w | ⟨w0, w1, w2⟩
    · have := (hf _ o1).2; omega
    · rw [w, pl_end]; omega
    · obtain ⟨c1, c2, c3, c4⟩ := cp_has h w0 w1 w2
      rw [pl_char w0 w1]
      rw [kl_some c1] at k2
      have k2' : wl (key (X 1 q)) (key (aRight T (X 1 q))) := by
        rcases k2 with k2 | k2
        · exact absurd k2 (wV_ne (hw.2.1 _ c1))
        · exact k2
      rcases Int.lt_trichotomy (X 2 (aRight T (X 1 q))) q with v | v | v
      · have := hs _ _ c2 v h1
        rw [c4] at this
        exact absurd this (fun q => wl_asym k2' q)
      · exfalso
        rw [v] at c4
        rw [← c4] at k2'
        exact wl_irrefl _ k2'
      · exact v
/-- what of a ROW is known by its MARK -/
theorem row_psi (hw : wOK T key) (hf : tRef T) (h : cpOK T X) (hs : srtK key X) {a b q : Int} (ha : -1 ≤ a) (hb : b ≤ X 0 0) (h1 : a < q) (h2 : q < b) (hr : aSpans T X (aAt X q) a b) : psi (lowK key X a) (uppK key X b) (tg T (aAt X q)) = key (aAt X q) := by
  obtain ⟨o1, o2, o3, o4, o5⟩ := cp_at h (q := q) (by omega) (by omega)
  obtain ⟨r1, r2⟩ := hr
  obtain ⟨k1, k2⟩ := hw.1 _ o1
  have hat : aAt X q = X 1 q := at_in (by omega) (by omega) h.2.1
  have e := psi_B _ _ _ (lowK key X a) (uppK key X b) (tg T (aAt X q)) (Nat.le_refl _) (kl_B hw (aLeft T (aAt X q))) (kl_B hw (aRight T (aAt X q))) (lowK_B hw h (by omega)) (uppK_B hw h (by omega)) k1 (by unfold tg; omega) ?_ ?_ ?_ ?_
  · rw [e, ← k2]
  · rcases o4 with w | w | ⟨w0, w1, w2⟩
    · exact Or.inl (kl_none (fun z => by have := z.1; omega))
    · have := (hf _ o1).1; omega
    · obtain ⟨c1, c2, c3, c4⟩ := cp_has h w0 w1 w2
      rw [pl_char w0 w1] at r1
      rw [kl_some c1]
      unfold lowK
      rw [if_neg (by omega)]
      rcases Int.lt_or_eq_of_le r1 with v | v
      · have := hs _ _ c2 v (by omega)
        rw [c4] at this
        exact Or.inr (Or.inr this)
      · exact Or.inr (Or.inl (by rw [← v, c4]))
  · rw [← k2]
    unfold lowK
    split
    · exact Or.inl rfl
    · rw [hat]; exact Or.inr (hs _ _ (by omega) h1 (by omega))
  · rw [← k2]
    unfold uppK
    split
    · exact Or.inl rfl
    · rw [hat]; exact Or.inr (hs _ _ (by omega) h2 (by omega))
  · rcases o5 with w | w | ⟨w0, w1, w2⟩
    · have := (hf _ o1).2; omega
    · exact Or.inl (kl_none (fun z => by have := z.2.2; omega))
    · obtain ⟨c1, c2, c3, c4⟩ := cp_has h w0 w1 w2
      rw [pl_char w0 w1] at r2
      rw [kl_some c1]
      unfold uppK
      rw [if_neg (by omega)]
      rcases Int.lt_or_eq_of_le r2 with v | v
      · have := hs _ _ (by omega) v c3
        rw [c4] at this
        exact Or.inr (Or.inr this)
      · exact Or.inr (Or.inl (by rw [v, c4]))
theorem aRow_spec (mk a b : Int) : ∀ (k : Nat) (q d : Int), q + k = b → a < q → a ≤ d → d < q → (d = a ∨ (a < d ∧ aSpans T X (aAt X d) a b ∧ aMark T (aAt X d) < mk)) →
    a ≤ (aRow T X mk a b k q d).1 ∧ (aRow T X mk a b k q d).1 < (aRow T X mk a b k q d).2.1 ∧ (aRow T X mk a b k q d).2.1 ≤ b ∧
    ((aRow T X mk a b k q d).1 = a ∨ (a < (aRow T X mk a b k q d).1 ∧ aSpans T X (aAt X (aRow T X mk a b k q d).1) a b ∧ aMark T (aAt X (aRow T X mk a b k q d).1) < mk)) ∧
    ((aRow T X mk a b k q d).2.1 = b ∨ ((aRow T X mk a b k q d).2.1 < b ∧ aSpans T X (aAt X (aRow T X mk a b k q d).2.1) a b ∧ ¬ aMark T (aAt X (aRow T X mk a b k q d).2.1) < mk)) ∧
    ((¬ d = a ∨ ∃ y, q ≤ y ∧ y < b ∧ aSpans T X (aAt X y) a b) → ¬ (aRow T X mk a b k q d).1 = a ∨ ¬ (aRow T X mk a b k q d).2.1 = b) ∧
    0 ≤ (aRow T X mk a b k q d).2.2 ∧ (aRow T X mk a b k q d).2.2 ≤ k := by
  intro k
  induction k with
  | zero =>
    intro q d h1 h2 h3 h4 h5
    rw [aRow]
    refine ⟨h3, by dsimp only; omega, by dsimp only; omega, h5, Or.inl rfl, fun w => ?_, by dsimp only; omega, by dsimp only; omega⟩
    rcases w with w | ⟨y, w1, w2, -⟩
    · exact Or.inl w
    · omega
  | succ k ih =>
    intro q d h1 h2 h3 h4 h5
    rw [aRow]
    by_cases hsp : aSpans T X (aAt X q) a b
    · rw [if_pos hsp]
      by_cases hm : aMark T (aAt X q) < mk
      · rw [if_pos hm]
        obtain ⟨i1, i2, i3, i4, i5, i6, i7, i8⟩ := ih (q + 1) q (by omega) (by omega) (by omega) (by omega) (Or.inr ⟨h2, hsp, hm⟩)
        exact ⟨i1, i2, i3, i4, i5, fun _ => i6 (Or.inl (by omega)), by dsimp only; omega, by dsimp only; omega⟩
      · rw [if_neg hm]
        exact ⟨h3, by dsimp only; omega, by dsimp only; omega, h5, Or.inr ⟨by dsimp only; omega, hsp, hm⟩, fun _ => Or.inr (by dsimp only; omega), by dsimp only; omega, by dsimp only; omega⟩
    · rw [if_neg hsp]
      obtain ⟨i1, i2, i3, i4, i5, i6, i7, i8⟩ := ih (q + 1) d (by omega) (by omega) h3 (by omega) h5
      refine ⟨i1, i2, i3, i4, i5, fun w => i6 ?_, i7, by omega⟩
      rcases w with w | ⟨y, w1, w2, w3⟩
      · exact Or.inl w
      · refine Or.inr ⟨y, ?_, w2, w3⟩
        rcases Int.lt_or_eq_of_le w1 with v | v
        · omega
        · rw [← v] at w3; exact absurd w3 hsp
/-- between two places that aren't side by side the eldest is in the ROW -/
theorem row_some (hw : wOK T key) (hf : tRef T) (h : cpOK T X) (hs : srtK key X) {a b : Int} (ha : -1 ≤ a) (hb : b ≤ X 0 0) (hab : 1 < b - a) : ∃ y, a + 1 ≤ y ∧ y < b ∧ aSpans T X (aAt X y) a b := by
  obtain ⟨k, ⟨y, y1, y2, y3⟩, hk⟩ := pk_least (fun k : Nat => ∃ y, a < y ∧ y < b ∧ X 1 y = k) ⟨(X 1 (a + 1)).toNat, a + 1, by omega, by omega, by
    have := (h.2.2.1 (a + 1) (by omega) (by omega)).1.1
    omega⟩
  refine ⟨y, by omega, y2, ?_⟩
  have hf' := woot_free hw hf h hs (q := y) (by omega) (by omega)
  obtain ⟨o1, o2, o3, o4, o5⟩ := cp_at h (q := y) (by omega) (by omega)
  rw [at_in (by omega) (by omega) h.2.1] at o1 o2 o3 o4 o5 ⊢
  have hr := hf _ o1
  constructor
  · rcases o4 with w | w | ⟨w0, w1, w2⟩
    · rw [w, pl_beg]; omega
    · omega
    · obtain ⟨c1, c2, c3, c4⟩ := cp_has h w0 w1 w2
      have h9 := hf'.1
      rw [pl_char w0 w1] at h9 ⊢
      rcases sj_lg a (X 2 (aLeft T (X 1 y))) with v | v
      · exfalso
        refine hk (aLeft T (X 1 y)).toNat ?_ ⟨_, v, by omega, by rw [c4]; omega⟩
        rcases hr.1 with u | u <;> omega
      · exact v
  · rcases o5 with w | w | ⟨w0, w1, w2⟩
    · omega
    · rw [w, pl_end]; omega
    · obtain ⟨c1, c2, c3, c4⟩ := cp_has h w0 w1 w2
      have h9 := hf'.2
      rw [pl_char w0 w1] at h9 ⊢
      rcases sj_lg (X 2 (aRight T (X 1 y))) b with v | v
      · exfalso
        refine hk (aRight T (X 1 y)).toNat ?_ ⟨_, by omega, v, by rw [c4]; omega⟩
        rcases hr.2 with u | u <;> omega
      · exact v
theorem tg_lt (hw : wOK T key) {o : Int} (hc : aHasC T c) (ho : aHasC T o) (hm : aMark T o < aMark T c) : tg T o < tg T c := by
  have h1 := hw.2.2.1 c hc
  have h2 := hw.2.2.1 o ho
  unfold tg
  omega
/-- one turn of WOOT's loop: what stays, what gets less -/
theorem woot_turn (hw : wOK T key) (hf : tRef T) (h : cpOK T X) (hs : srtK key X) (hc : aHasC T c) (hn : X 2 c = -2) {a b : Int} (ha : -1 ≤ a) (hb : b ≤ X 0 0) (hab : 1 < b - a) (hp : psi (lowK key X a) (uppK key X b) (tg T c) = key c) :
    -1 ≤ (aRow T X (aMark T c) a b (b - a - 1).toNat (a + 1) a).1 ∧ (aRow T X (aMark T c) a b (b - a - 1).toNat (a + 1) a).1 < (aRow T X (aMark T c) a b (b - a - 1).toNat (a + 1) a).2.1 ∧ (aRow T X (aMark T c) a b (b - a - 1).toNat (a + 1) a).2.1 ≤ X 0 0 ∧
    a ≤ (aRow T X (aMark T c) a b (b - a - 1).toNat (a + 1) a).1 ∧ (aRow T X (aMark T c) a b (b - a - 1).toNat (a + 1) a).2.1 ≤ b ∧
    (aRow T X (aMark T c) a b (b - a - 1).toNat (a + 1) a).2.1 - (aRow T X (aMark T c) a b (b - a - 1).toNat (a + 1) a).1 < b - a ∧
    psi (lowK key X (aRow T X (aMark T c) a b (b - a - 1).toNat (a + 1) a).1) (uppK key X (aRow T X (aMark T c) a b (b - a - 1).toNat (a + 1) a).2.1) (tg T c) = key c := by
  obtain ⟨i1, i2, i3, i4, i5, i6, i7, i8⟩ := aRow_spec (T := T) (X := X) (aMark T c) a b (b - a - 1).toNat (a + 1) a (by omega) (by omega) (by omega) (by omega) (Or.inl rfl)
  have hsome := i6 (Or.inr (row_some hw hf h hs ha hb hab))
  generalize aRow T X (aMark T c) a b (b - a - 1).toNat (a + 1) a = res at i1 i2 i3 i4 i5 i6 i7 i8 hsome ⊢
  have hO := lu_O hs (show a < b by omega)
  have hA := psi_A _ _ _ (tg T c) (Nat.le_refl _) (lowK_B hw h (show a < X 0 0 by omega)) (uppK_B hw h (show 0 ≤ b by omega)) hO (by unfold tg; omega)
  rw [hp] at hA
  -- the lower end
  have hlow : (lowK key X a = [] ∨ lowK key X a = lowK key X res.1 ∨ wl (lowK key X a) (lowK key X res.1)) ∧ wL (lowK key X res.1) (key c) := by
    rcases i4 with e | ⟨e1, e2, e3⟩
    · rw [e]; exact ⟨Or.inr (Or.inl rfl), hA.2.1⟩
    · obtain ⟨o1, o2, o3, o4, o5⟩ := cp_at h (q := res.1) (by omega) (by omega)
      have hat : aAt X res.1 = X 1 res.1 := at_in (by omega) (by omega) h.2.1
      have hk := row_psi hw hf h hs ha hb e1 (by omega) e2
      have hlt := psi_M _ _ _ _ _ (Nat.le_refl _) (lowK_B hw h (show a < X 0 0 by omega)) (uppK_B hw h (show 0 ≤ b by omega)) hO (show tg T (aAt X res.1) % 2 = 1 by unfold tg; omega) (show tg T c % 2 = 1 by unfold tg; omega) (tg_lt hw hc o1 e3)
      rw [hk, hp] at hlt
      have e9 : lowK key X res.1 = key (aAt X res.1) := by unfold lowK; rw [if_neg (by omega), hat]
      rw [e9]
      refine ⟨?_, Or.inr hlt⟩
      unfold lowK
      split
      · exact Or.inl rfl
      · rw [hat]; exact Or.inr (Or.inr (hs _ _ (by omega) e1 (by omega)))
  have hupp : (uppK key X b = [] ∨ uppK key X res.2.1 = uppK key X b ∨ wl (uppK key X res.2.1) (uppK key X b)) ∧ wU (key c) (uppK key X res.2.1) := by
    rcases i5 with e | ⟨e1, e2, e3⟩
    · rw [e]; exact ⟨Or.inr (Or.inl rfl), hA.2.2⟩
    · obtain ⟨o1, o2, o3, o4, o5⟩ := cp_at h (q := res.2.1) (by omega) (by omega)
      have hat : aAt X res.2.1 = X 1 res.2.1 := at_in (by omega) (by omega) h.2.1
      have hk := row_psi hw hf h hs ha hb (by omega) e1 e2
      have hne : ¬ aMark T (aAt X res.2.1) = aMark T c := fun w => by
        have := hw.2.2.2 _ _ o1 hc w
        rw [hat] at this
        have h9 := (h.2.2.1 res.2.1 (by omega) (by omega)).2
        rw [this, hn] at h9
        omega
      have hlt := psi_M _ _ _ _ _ (Nat.le_refl _) (lowK_B hw h (show a < X 0 0 by omega)) (uppK_B hw h (show 0 ≤ b by omega)) hO (show tg T c % 2 = 1 by unfold tg; omega) (show tg T (aAt X res.2.1) % 2 = 1 by unfold tg; omega) (tg_lt hw o1 hc (by omega))
      rw [hk, hp] at hlt
      have e9 : uppK key X res.2.1 = key (aAt X res.2.1) := by unfold uppK; rw [if_neg (by omega), hat]
      rw [e9]
      refine ⟨?_, Or.inr hlt⟩
      unfold uppK
      split
      · exact Or.inl rfl
      · rw [hat]; exact Or.inr (Or.inr (hs _ _ (by omega) e1 (by omega)))
  refine ⟨by omega, i2, by omega, i1, i3, by omega, ?_⟩
  rw [psi_B _ _ _ _ _ (tg T c) (Nat.le_refl _) (lowK_B hw h (show a < X 0 0 by omega)) (uppK_B hw h (show 0 ≤ b by omega)) (lowK_B hw h (show res.1 < X 0 0 by omega)) (uppK_B hw h (show 0 ≤ res.2.1 by omega)) hO (by unfold tg; omega) hlow.1 (by rw [hp]; exact hlow.2) (by rw [hp]; exact hupp.2) hupp.1, hp]
theorem woot_end (hw : wOK T key) (h : cpOK T X) (hs : srtK key X) {a b : Int} (ha : -1 ≤ a) (hb : b ≤ X 0 0) (hab : a < b) (h1 : b - a ≤ 1) (hp : psi (lowK key X a) (uppK key X b) (tg T c) = key c) : (∀ q, 0 ≤ q → q < b → wl (key (X 1 q)) (key c)) ∧ ∀ q, b ≤ q → q < X 0 0 → wl (key c) (key (X 1 q)) := by
  have hA := psi_A _ _ _ (tg T c) (Nat.le_refl _) (lowK_B hw h (show a < X 0 0 by omega)) (uppK_B hw h (show 0 ≤ b by omega)) (lu_O hs hab) (by unfold tg; omega)
  rw [hp] at hA
  constructor
  · intro q q0 q1
    have hl : wl (key (X 1 a)) (key c) := by
      rcases hA.2.1 with w | w
      · unfold lowK at w
        rw [if_neg (by omega)] at w
        exact absurd w (wV_ne (hw.2.1 _ (h.2.2.1 a (by omega) (by omega)).1))
      · unfold lowK at w
        rw [if_neg (by omega)] at w
        exact w
    rcases Int.lt_or_eq_of_le (show q ≤ a by omega) with w | w
    · exact wl_trans _ _ _ (hs _ _ q0 w (by omega)) hl
    · rw [w]; exact hl
  · intro q q0 q1
    have hl : wl (key c) (key (X 1 b)) := by
      rcases hA.2.2 with w | w
      · unfold uppK at w
        rw [if_neg (by omega)] at w
        exact absurd w (wV_ne (hw.2.1 _ (h.2.2.1 b (by omega) (by omega)).1))
      · unfold uppK at w
        rw [if_neg (by omega)] at w
        exact w
    rcases Int.lt_or_eq_of_le q0 with w | w
    · exact wl_trans _ _ _ hl (hs _ _ (by omega) w q1)
    · rw [← w]; exact hl
theorem wootF_place (hw : wOK T key) (hf : tRef T) (h : cpOK T X) (hs : srtK key X) (hc : aHasC T c) (hn : X 2 c = -2) : ∀ (n : Nat) (a b : Int), -1 ≤ a → a < b → b ≤ X 0 0 → b - a - 1 ≤ n → psi (lowK key X a) (uppK key X b) (tg T c) = key c →
    a < (aWootF T X (aMark T c) n a b).1 ∧ (aWootF T X (aMark T c) n a b).1 ≤ b ∧ (∀ q, 0 ≤ q → q < (aWootF T X (aMark T c) n a b).1 → wl (key (X 1 q)) (key c)) ∧ ∀ q, (aWootF T X (aMark T c) n a b).1 ≤ q → q < X 0 0 → wl (key c) (key (X 1 q)) := by
  intro n
  induction n with
  | zero =>
    intro a b h1 h2 h3 h4 h5
    rw [aWootF]
    exact ⟨h2, Int.le_refl _, woot_end hw h hs h1 h3 h2 (by omega) h5⟩
  | succ n ih =>
    intro a b h1 h2 h3 h4 h5
    rw [aWootF]
    by_cases hab : 1 < b - a
    · rw [if_pos hab]
      obtain ⟨t1, t2, t3, t4, t5, t6, t7⟩ := woot_turn hw hf h hs hc hn h1 h3 hab h5
      obtain ⟨i1, i2, i3, i4⟩ := ih _ _ t1 t2 t3 (by omega) t7
      exact ⟨by dsimp only; omega, by dsimp only; omega, i3, i4⟩
    · rw [if_neg hab]
      exact ⟨h2, Int.le_refl _, woot_end hw h hs h1 h3 h2 (by omega) h5⟩
end WT
/-- the start of WOOT's loop -/
theorem woot_start {T X : aS} {key : Int → List Nat} {c : Int} (hw : wOK T key) (hf : tRef T) (h : cpOK T X) (hs : srtK key X) (hc : aHasC T c) (hl : inX X (aLeft T c)) (hr : inX X (aRight T c)) :
    -1 ≤ aPl X (aLeft T c) ∧ aPl X (aLeft T c) < aPl X (aRight T c) ∧ aPl X (aRight T c) ≤ X 0 0 ∧ psi (lowK key X (aPl X (aLeft T c))) (uppK key X (aPl X (aRight T c))) (tg T c) = key c := by
  obtain ⟨k1, k2⟩ := hw.1 c hc
  have el : -1 ≤ aPl X (aLeft T c) ∧ aPl X (aLeft T c) < X 0 0 ∧ lowK key X (aPl X (aLeft T c)) = kl T key (aLeft T c) ∨ (X 0 0 = 0 ∧ aPl X (aLeft T c) = -1 ∧ lowK key X (aPl X (aLeft T c)) = kl T key (aLeft T c)) := by
    rcases hl with w | w | ⟨w0, w1, w2⟩
    · have e : kl T key (aLeft T c) = [] := kl_none (fun z => by have := z.1; omega)
      rw [e, w, pl_beg]
      have : lowK key X (-1) = [] := by unfold lowK; rw [if_pos (by omega)]
      rw [this]
      have := h.1
      exact Or.inl ⟨by omega, by omega, rfl⟩
    · have := (hf c hc).1; omega
    · obtain ⟨c1, c2, c3, c4⟩ := cp_has h w0 w1 w2
      rw [pl_char w0 w1, kl_some c1]
      refine Or.inl ⟨by omega, c3, ?_⟩
      unfold lowK
      rw [if_neg (by omega), c4]
  have er : 0 ≤ aPl X (aRight T c) ∧ aPl X (aRight T c) ≤ X 0 0 ∧ uppK key X (aPl X (aRight T c)) = kl T key (aRight T c) := by
    rcases hr with w | w | ⟨w0, w1, w2⟩
    · have := (hf c hc).2; omega
    · have e : kl T key (aRight T c) = [] := kl_none (fun z => by have := z.2.2; omega)
      rw [e, w, pl_end]
      have : uppK key X (X 0 0) = [] := by unfold uppK; rw [if_pos (Int.le_refl _)]
      rw [this]
      have := h.1
      exact ⟨by omega, by omega, rfl⟩
    · obtain ⟨c1, c2, c3, c4⟩ := cp_has h w0 w1 w2
      rw [pl_char w0 w1, kl_some c1]
      refine ⟨c2, by omega, ?_⟩
      unfold uppK
      rw [if_neg (by omega), c4]
  have e1 : -1 ≤ aPl X (aLeft T c) ∧ lowK key X (aPl X (aLeft T c)) = kl T key (aLeft T c) := by
    rcases el with w | w
    · exact ⟨w.1, w.2.2⟩
    · exact ⟨by omega, w.2.2⟩
  refine ⟨e1.1, ?_, er.2.1, by rw [e1.2, er.2.2]; exact k2.symm⟩
  -- LEFT stands ahead of RIGHT
  rcases hl with w | w | ⟨w0, w1, w2⟩
  · rw [w, pl_beg]; omega
  · have := (hf c hc).1; omega
  · obtain ⟨c1, c2, c3, c4⟩ := cp_has h w0 w1 w2
    rcases hr with v | v | ⟨v0, v1, v2⟩
    · have := (hf c hc).2; omega
    · rw [v, pl_end, pl_char w0 w1]; exact c3
    · obtain ⟨d1, d2, d3, d4⟩ := cp_has h v0 v1 v2
      rw [kl_some c1, kl_some d1] at k1
      have k : wl (key (aLeft T c)) (key (aRight T c)) := by
        rcases k1 with u | u | u
        · exact absurd u (wV_ne (hw.2.1 _ c1))
        · exact absurd u (wV_ne (hw.2.1 _ d1))
        · exact u
      rw [pl_char w0 w1, pl_char v0 v1]
      rcases Int.lt_trichotomy (X 2 (aLeft T c)) (X 2 (aRight T c)) with u | u | u
      · exact u
      · exfalso
        rw [u, d4] at c4
        rw [← c4] at k
        exact wl_irrefl _ k
      · have := hs _ _ d2 u c3
        rw [c4, d4] at this
        exact absurd this (fun q => wl_asym k q)
/-- WOOT puts a CHARACTER where its word stands -/
theorem woot_place {T X : aS} {key : Int → List Nat} {c : Int} (hw : wOK T key) (hf : tRef T) (h : cpOK T X) (hs : srtK key X) (hc : aHasC T c) (hn : X 2 c = -2) (hl : inX X (aLeft T c)) (hr : inX X (aRight T c)) :
    0 ≤ (aWoot T X c).1 ∧ (aWoot T X c).1 ≤ X 0 0 ∧ aPl X (aLeft T c) < (aWoot T X c).1 ∧ (aWoot T X c).1 ≤ aPl X (aRight T c) ∧ (∀ q, 0 ≤ q → q < (aWoot T X c).1 → wl (key (X 1 q)) (key c)) ∧ ∀ q, (aWoot T X c).1 ≤ q → q < X 0 0 → wl (key c) (key (X 1 q)) := by
  obtain ⟨s1, s2, s3, s4⟩ := woot_start hw hf h hs hc hl hr
  have h60 := h.2.1
  obtain ⟨i1, i2, i3, i4⟩ := wootF_place hw hf h hs hc hn 60 _ _ s1 s2 s3 (by omega) s4
  exact ⟨by show 0 ≤ (aWootF _ _ _ _ _ _).1; omega, by show (aWootF _ _ _ _ _ _).1 ≤ _; omega, i1, i2, i3, i4⟩
