/-! copies that are sorted by a rank -/
theorem sj_lg (a b : Int) : a < b ∨ b ≤ a := by omega
abbrev inX (X : aS) (a : Int) : Prop := a = -1 ∨ a = 60 ∨ (0 ≤ a ∧ a < 60 ∧ ¬ X 2 a = -2)
abbrev isR (T : aS) (a : Int) : Prop := a = -1 ∨ a = 60 ∨ aHasC T a
/-- the CHARACTERS' LEFT and RIGHT are elder -/
def tRef (T : aS) : Prop := ∀ c, aHasC T c → (aLeft T c = -1 ∨ (0 ≤ aLeft T c ∧ aLeft T c < c)) ∧ (aRight T c = 60 ∨ (0 ≤ aRight T c ∧ aRight T c < c))
/-- a copy's SEQUENCE and places fit; what is in it has its LEFT and RIGHT in it -/
def cpOK (T X : aS) : Prop := 0 ≤ X 0 0 ∧ X 0 0 ≤ 60 ∧ (∀ q, 0 ≤ q → q < X 0 0 → aHasC T (X 1 q) ∧ X 2 (X 1 q) = q) ∧ (∀ c, 0 ≤ c → c < 60 → X 2 c = -2 ∨ (0 ≤ X 2 c ∧ X 2 c < X 0 0 ∧ X 1 (X 2 c) = c)) ∧ (∀ c, 0 ≤ c → c < 60 → ¬ X 2 c = -2 → inX X (aLeft T c) ∧ inX X (aRight T c))
theorem tRef_l {T : aS} (h : tRef T) {c : Int} (hc : aHasC T c) : isR T (aLeft T c) := by
  rcases (h c hc).1 with q | q
  · exact Or.inl q
  · exact Or.inr (Or.inr ⟨q.1, by omega, by omega⟩)
theorem tRef_r {T : aS} (h : tRef T) {c : Int} (hc : aHasC T c) : isR T (aRight T c) := by
  rcases (h c hc).2 with q | q
  · exact Or.inr (Or.inl q)
  · exact Or.inr (Or.inr ⟨q.1, by omega, by omega⟩)
theorem at_in {X : aS} {q : Int} (h0 : 0 ≤ q) (h1 : q < X 0 0) (h2 : X 0 0 ≤ 60) : aAt X q = X 1 q := by
  unfold aAt; rw [if_pos ⟨h0, h1, by omega⟩]
theorem pl_char {X : aS} {c : Int} (h0 : 0 ≤ c) (h1 : c < 60) : aPl X c = X 2 c := by
  unfold aPl; rw [if_neg (by omega), if_pos h1]
theorem pl_beg {X : aS} : aPl X (-1) = -1 := by
  unfold aPl; rw [if_pos (by omega)]
theorem pl_end {X : aS} : aPl X 60 = X 0 0 := by
  unfold aPl; rw [if_neg (by omega), if_neg (by omega)]
theorem cp_has {T X : aS} (h : cpOK T X) {a : Int} (h0 : 0 ≤ a) (h1 : a < 60) (h2 : ¬ X 2 a = -2) : aHasC T a ∧ 0 ≤ X 2 a ∧ X 2 a < X 0 0 ∧ X 1 (X 2 a) = a := by
  obtain ⟨-, -, h3, h4, -⟩ := h
  rcases h4 a h0 h1 with q | ⟨q1, q2, q3⟩
  · exact absurd q h2
  · have := (h3 _ q1 q2).1
    rw [q3] at this
    exact ⟨this, q1, q2, q3⟩
theorem cp_isR {T X : aS} (h : cpOK T X) {a : Int} (ha : inX X a) : isR T a := by
  rcases ha with ha | ha | ⟨h0, h1, h2⟩
  · exact Or.inl ha
  · exact Or.inr (Or.inl ha)
  · exact Or.inr (Or.inr (cp_has h h0 h1 h2).1)
theorem cp_at {T X : aS} (h : cpOK T X) {q : Int} (h0 : 0 ≤ q) (h1 : q < X 0 0) : aHasC T (aAt X q) ∧ aPl X (aAt X q) = q ∧ inX X (aAt X q) ∧ inX X (aLeft T (aAt X q)) ∧ inX X (aRight T (aAt X q)) := by
  have h' := h
  obtain ⟨a1, a2, a3, a4, a5⟩ := h
  rw [at_in h0 h1 a2]
  obtain ⟨b1, b2⟩ := a3 q h0 h1
  have b3 : ¬ X 2 (X 1 q) = -2 := by rw [b2]; omega
  refine ⟨b1, by rw [pl_char b1.1 b1.2.2]; exact b2, Or.inr (Or.inr ⟨b1.1, b1.2.2, b3⟩), a5 _ b1.1 b1.2.2 b3⟩
def srt (ρ : Int → Int) (X : aS) : Prop := ∀ a b, 0 ≤ a → a < b → b < X 0 0 → ρ (X 1 a) < ρ (X 1 b)
def rnk (T : aS) (ρ : Int → Int) : Prop := (∀ a b, isR T a → isR T b → ρ a = ρ b → a = b) ∧ (∀ c, aHasC T c → ρ (-1) < ρ c ∧ ρ c < ρ 60) ∧ ρ (-1) < ρ 60
theorem pl_lt {T X : aS} {ρ : Int → Int} (hr : rnk T ρ) (h : cpOK T X) (hs : srt ρ X) {a b : Int} (ha : inX X a) (hb : inX X b) : ρ a < ρ b ↔ aPl X a < aPl X b := by
  obtain ⟨r1, r2, r3⟩ := hr
  have hl := h.1
  rcases ha with rfl | rfl | ⟨a0, a1, a2⟩ <;> rcases hb with rfl | rfl | ⟨b0, b1, b2⟩
  · simp
  · rw [pl_beg, pl_end]; constructor <;> intro <;> omega
  · obtain ⟨c1, c2, c3, c4⟩ := cp_has h b0 b1 b2
    rw [pl_beg, pl_char b0 b1]
    have := r2 b c1
    constructor <;> intro <;> omega
  · rw [pl_beg, pl_end]; constructor <;> intro <;> omega
  · simp
  · obtain ⟨c1, c2, c3, c4⟩ := cp_has h b0 b1 b2
    rw [pl_end, pl_char b0 b1]
    have := r2 b c1
    constructor <;> intro <;> omega
  · obtain ⟨c1, c2, c3, c4⟩ := cp_has h a0 a1 a2
    rw [pl_beg, pl_char a0 a1]
    have := r2 a c1
    constructor <;> intro <;> omega
  · obtain ⟨c1, c2, c3, c4⟩ := cp_has h a0 a1 a2
    rw [pl_end, pl_char a0 a1]
    have := r2 a c1
    constructor <;> intro <;> omega
  · obtain ⟨c1, c2, c3, c4⟩ := cp_has h a0 a1 a2
    obtain ⟨d1, d2, d3, d4⟩ := cp_has h b0 b1 b2
    rw [pl_char a0 a1, pl_char b0 b1]
    rcases Int.lt_trichotomy (X 2 a) (X 2 b) with q | q | q
    · have := hs _ _ c2 q d3
      rw [c4, d4] at this
      exact ⟨fun _ => q, fun _ => this⟩
    · have : a = b := by rw [← c4, ← d4, q]
      subst this
      constructor <;> intro <;> omega
    · have := hs _ _ d2 q c3
      rw [c4, d4] at this
      constructor <;> intro <;> omega
/-- where a rank stands in a sorted copy that doesn't hold it -/
theorem srt_place {T X : aS} {ρ : Int → Int} (hr : rnk T ρ) (h : cpOK T X) (hs : srt ρ X) {c : Int} (hc : aHasC T c) (hn : X 2 c = -2) : ∃ z, 0 ≤ z ∧ z ≤ X 0 0 ∧ (∀ q, 0 ≤ q → q < z → ρ (X 1 q) < ρ c) ∧ ∀ q, z ≤ q → q < X 0 0 → ρ c < ρ (X 1 q) := by
  obtain ⟨k, hk1, hk2⟩ := pk_least (fun k : Nat => X 0 0 ≤ (k : Int) ∨ ρ c < ρ (X 1 k)) ⟨(X 0 0).toNat, Or.inl (by omega)⟩
  have h0 := h.1
  have hkl : (k : Int) ≤ X 0 0 := by
    rcases sj_lg (X 0 0) k with q | q
    · exfalso
      refine hk2 (k - 1) (by omega) (Or.inl (by omega))
    · exact q
  refine ⟨k, by omega, hkl, fun q q0 q1 => ?_, fun q q0 q1 => ?_⟩
  · have h1 := hk2 q.toNat (by omega)
    have e : ((q.toNat : Nat) : Int) = q := Int.toNat_of_nonneg q0
    rw [e] at h1
    have h2 : ¬ ρ c < ρ (X 1 q) := fun w => h1 (Or.inr w)
    have h3 := h.2.2.1 q q0 (by omega)
    rcases Int.lt_or_eq_of_le (Int.not_lt.mp h2) with w | w
    · exact w
    · have := hr.1 _ _ (Or.inr (Or.inr h3.1)) (Or.inr (Or.inr hc)) w
      rw [this, hn] at h3
      omega
  · have h1 : ρ c < ρ (X 1 k) := by
      rcases hk1 with w | w
      · omega
      · exact w
    rcases Int.lt_or_eq_of_le q0 with w | w
    · have := hs k q (by omega) w q1
      omega
    · rw [← w]; exact h1
/-! YATA -/
def yOK (T : aS) (ρ : Int → Int) : Prop := rnk T ρ ∧
  (∀ c o, aHasC T c → aHasC T o → ρ (aLeft T c) < ρ o → ρ o < ρ c → ρ (aLeft T c) ≤ ρ (aLeft T o)) ∧
  (∀ c, aHasC T c → ρ (aLeft T c) < ρ c ∧ ρ c < ρ (aRight T c) ∧ (aRight T c = 60 ∨ ρ (aLeft T (aRight T c)) ≤ ρ (aLeft T c))) ∧
  ∀ c o, aHasC T c → aHasC T o → aLeft T c = aLeft T o → ρ c < ρ o → ρ (aRight T c) ≤ ρ o ∨ aSite T c < aSite T o
section YT
variable {T X : aS} {ρ : Int → Int} {c z : Int}
/-- behind its place nothing moves it -/
theorem yata_3 (hy : yOK T ρ) (hf : tRef T) (h : cpOK T X) (hs : srt ρ X) (hc : aHasC T c) (hn : X 2 c = -2) (hl : inX X (aLeft T c)) (hr : inX X (aRight T c)) (hz0 : 0 ≤ z) (hz : ∀ q, 0 ≤ q → q < z → ρ (X 1 q) < ρ c) (hz2 : ∀ q, z ≤ q → q < X 0 0 → ρ c < ρ (X 1 q)) :
    ∀ (k : Nat) (q : Int), z ≤ q → q + k = aPl X (aRight T c) → (aYataF T X c (aPl X (aLeft T c) + 1) k q z).1 = z := by
  intro k
  induction k with
  | zero => intro q _ _; rw [aYataF]
  | succ k ih =>
    intro q hq hk
    have hy' := hy
    obtain ⟨y0, y1, y2, y3⟩ := hy
    have hRl : aPl X (aRight T c) ≤ X 0 0 := by
      rcases hr with w | w | ⟨w0, w1, w2⟩
      · have := (hf c hc).2; omega
      · rw [w, pl_end]; omega
      · rw [pl_char w0 w1]; have := (cp_has h w0 w1 w2).2; omega
    obtain ⟨o1, o2, o3, o4, o5⟩ := cp_at h (q := q) (by omega) (by omega)
    have ho : aAt X q = X 1 q := at_in (by omega) (by omega) h.2.1
    have hco : ρ c < ρ (aAt X q) := by rw [ho]; exact hz2 q hq (by omega)
    have hoR : ρ (aAt X q) < ρ (aRight T c) := (pl_lt y0 h hs o3 hr).mpr (by rw [o2]; omega)
    rw [aYataF]
    by_cases hL : aLeft T (aAt X q) = aLeft T c
    · rw [if_pos hL]
      have hst : aSite T c < aSite T (aAt X q) := by
        rcases y3 c _ hc o1 hL.symm hco with w | w
        · omega
        · exact w
      rw [if_neg (by omega)]
      split
      · rfl
      · exact ih (q + 1) (by omega) (by omega)
    · rw [if_neg hL]
      split
      · rfl
      · rename_i hfst
        rw [if_neg ?_]
        · exact ih (q + 1) (by omega) (by omega)
        · intro hlt
          have hp : inX X (aLeft T (aAt X q)) := o4
          -- it stands ahead of c
          have h1 : ρ (aLeft T (aAt X q)) < ρ c := by
            rcases hp with w | w | ⟨w0, w1, w2⟩
            · rw [w]; exact (y0.2.1 c hc).1
            · have := (hf _ o1).1; omega
            · obtain ⟨c1, c2, c3, c4⟩ := cp_has h w0 w1 w2
              rw [pl_char w0 w1] at hlt
              have := hz _ c2 hlt
              rw [c4] at this
              exact this
          have h2 := y1 (aAt X q) c o1 hc h1 hco
          have h3 : ¬ aPl X (aLeft T c) < aPl X (aLeft T (aAt X q)) := fun w => by
            have := (pl_lt y0 h hs hl hp).mpr w
            omega
          omega
/-- from the last sibling ahead of it on, the place goes along -/
theorem yata_2 (hy : yOK T ρ) (hf : tRef T) (h : cpOK T X) (hs : srt ρ X) (hc : aHasC T c) (hn : X 2 c = -2) (hl : inX X (aLeft T c)) (hr : inX X (aRight T c)) (hz0 : 0 ≤ z) (hzl : z ≤ X 0 0) (hz : ∀ q, 0 ≤ q → q < z → ρ (X 1 q) < ρ c) (hz2 : ∀ q, z ≤ q → q < X 0 0 → ρ c < ρ (X 1 q)) (hzR : z ≤ aPl X (aRight T c)) {b : Int} (hb0 : aPl X (aLeft T c) + 1 ≤ b) (hb1 : b < z) (hbL : aLeft T (aAt X b) = aLeft T c) (hlast : ∀ q, b < q → q < z → ¬ aLeft T (aAt X q) = aLeft T c) (hL0 : -1 ≤ aPl X (aLeft T c)) :
    ∀ (k : Nat) (q : Int), b < q → q ≤ z → q + k = aPl X (aRight T c) → (aYataF T X c (aPl X (aLeft T c) + 1) k q q).1 = z := by
  intro k
  induction k with
  | zero => intro q h1 h2 h3; rw [aYataF]; show q = z; omega
  | succ k ih =>
    intro q h1 h2 h3
    by_cases hqz : q = z
    · subst hqz
      exact yata_3 hy hf h hs hc hn hl hr hz0 hz hz2 (k + 1) q (Int.le_refl _) h3
    · have hy' := hy
      obtain ⟨y0, y1, y2, y3⟩ := hy
      obtain ⟨o1, o2, o3, o4, o5⟩ := cp_at h (q := q) (by omega) (by omega)
      obtain ⟨b1, b2, b3, b4, b5⟩ := cp_at h (q := b) (by omega) (by omega)
      rw [aYataF, if_neg (hlast q h1 (by omega))]
      have hoc : ρ (aAt X q) < ρ c := by rw [at_in (by omega) (by omega) h.2.1]; exact hz q (by omega) (by omega)
      have hLo : ρ (aLeft T c) < ρ (aAt X q) := (pl_lt y0 h hs hl o3).mpr (by rw [o2]; omega)
      have hT := y1 c _ hc o1 hLo hoc
      have hge : aPl X (aLeft T c) ≤ aPl X (aLeft T (aAt X q)) := by
        rcases sj_lg (aPl X (aLeft T (aAt X q))) (aPl X (aLeft T c)) with w | w
        · have := (pl_lt y0 h hs o4 hl).mpr w; omega
        · exact w
      have hne : ¬ aPl X (aLeft T (aAt X q)) = aPl X (aLeft T c) := fun w => by
        refine hlast q h1 (by omega) (y0.1 _ _ (cp_isR h o4) (cp_isR h hl) ?_)
        rcases Int.lt_trichotomy (ρ (aLeft T (aAt X q))) (ρ (aLeft T c)) with v | v | v
        · have := (pl_lt y0 h hs o4 hl).mp v; omega
        · exact v
        · have := (pl_lt y0 h hs hl o4).mp v; omega
      have hlq : aPl X (aLeft T (aAt X q)) < q := by
        have := (pl_lt y0 h hs o4 o3).mp (y2 _ o1).1
        omega
      rw [if_neg (by omega), if_pos hlq]
      exact ih (q + 1) (by omega) (by omega) (by omega)
theorem yata_1 (hy : yOK T ρ) (hf : tRef T) (h : cpOK T X) (hs : srt ρ X) (hc : aHasC T c) (hn : X 2 c = -2) (hl : inX X (aLeft T c)) (hr : inX X (aRight T c)) (hz0 : 0 ≤ z) (hzl : z ≤ X 0 0) (hz : ∀ q, 0 ≤ q → q < z → ρ (X 1 q) < ρ c) (hz2 : ∀ q, z ≤ q → q < X 0 0 → ρ c < ρ (X 1 q)) (hzR : z ≤ aPl X (aRight T c)) {b : Int} (hb0 : aPl X (aLeft T c) + 1 ≤ b) (hb1 : b < z) (hbL : aLeft T (aAt X b) = aLeft T c) (hlast : ∀ q, b < q → q < z → ¬ aLeft T (aAt X q) = aLeft T c) (hL0 : -1 ≤ aPl X (aLeft T c)) :
    ∀ (k : Nat) (q a : Int), aPl X (aLeft T c) + 1 ≤ q → q ≤ b → q + k = aPl X (aRight T c) → (aYataF T X c (aPl X (aLeft T c) + 1) k q a).1 = z := by
  intro k
  induction k with
  | zero => intro q a h1 h2 h3; omega
  | succ k ih =>
    intro q a h1 h2 h3
    have hy' := hy
    obtain ⟨y0, y1, y2, y3⟩ := hy
    obtain ⟨o1, o2, o3, o4, o5⟩ := cp_at h (q := q) (by omega) (by omega)
    have hoc : ρ (aAt X q) < ρ c := by rw [at_in (by omega) (by omega) h.2.1]; exact hz q (by omega) (by omega)
    have hLo : ρ (aLeft T c) < ρ (aAt X q) := (pl_lt y0 h hs hl o3).mpr (by rw [o2]; omega)
    rw [aYataF]
    by_cases hqb : q = b
    · subst hqb
      rw [if_pos hbL]
      have hst : aSite T (aAt X q) < aSite T c := by
        rcases y3 _ c o1 hc hbL hoc with w | w
        · exfalso
          -- its RIGHT would be a later sibling ahead of c
          have hRne : ¬ aRight T (aAt X q) = c := fun e => by
            rw [e] at o5
            rcases o5 with v | v | v
            · have := hc.1; omega
            · have := hc.2.2; omega
            · exact v.2.2 hn
          have hRlt : ρ (aRight T (aAt X q)) < ρ c := by
            rcases Int.lt_or_eq_of_le w with v | v
            · exact v
            · exact absurd (y0.1 _ _ (cp_isR h o5) (Or.inr (Or.inr hc)) v) hRne
          have hR60 : ¬ aRight T (aAt X q) = 60 := fun e => by
            rw [e] at hRlt
            have := (y0.2.1 c hc).2
            omega
          have hRc : aHasC T (aRight T (aAt X q)) := by
            rcases cp_isR h o5 with v | v | v
            · have := (hf _ o1).2; omega
            · exact absurd v hR60
            · exact v
          have hRin : 0 ≤ aRight T (aAt X q) ∧ aRight T (aAt X q) < 60 ∧ ¬ X 2 (aRight T (aAt X q)) = -2 := by
            rcases o5 with v | v | v
            · have := hRc.1; omega
            · exact absurd v hR60
            · exact v
          obtain ⟨c1, c2, c3, c4⟩ := cp_has h hRin.1 hRin.2.1 hRin.2.2
          have e1 := (y2 _ o1).2.1
          have e2 := (y2 _ o1).2.2
          have e3 : ρ (aLeft T (aRight T (aAt X q))) ≤ ρ (aLeft T c) := by
            rcases e2 with v | v
            · exact absurd v hR60
            · rw [hbL] at v; exact v
          have e4 := y1 c _ hc hRc (by omega) hRlt
          have e5 : aLeft T (aRight T (aAt X q)) = aLeft T c := y0.1 _ _ (tRef_l hf hRc) (tRef_l hf hc) (by omega)
          have e6 : q < X 2 (aRight T (aAt X q)) := by
            have := (pl_lt y0 h hs o3 o5).mp e1
            rw [o2, pl_char hRin.1 hRin.2.1] at this
            exact this
          have e7 : X 2 (aRight T (aAt X q)) < z := by
            rcases sj_lg (X 2 (aRight T (aAt X q))) z with v | v
            · exact v
            · have := hz2 _ v c3
              rw [c4] at this
              omega
          have e8 := hlast _ e6 e7
          rw [at_in c2 c3 h.2.1, c4] at e8
          exact e8 e5
        · exact w
      rw [if_pos hst]
      exact yata_2 hy' hf h hs hc hn hl hr hz0 hzl hz hz2 hzR hb0 hb1 hbL hlast hL0 k (q + 1) (by omega) (by omega) (by omega)
    · by_cases hL : aLeft T (aAt X q) = aLeft T c
      · rw [if_pos hL]
        split
        · exact ih (q + 1) _ (by omega) (by omega) (by omega)
        · rename_i hst
          rw [if_neg ?_]
          · exact ih (q + 1) _ (by omega) (by omega) (by omega)
          · intro e
            rcases y3 _ c o1 hc hL hoc with w | w
            · have := (y2 c hc).2.1
              rw [e] at w
              omega
            · exact hst w
      · rw [if_neg hL]
        have hT := y1 c _ hc o1 hLo hoc
        have hge : aPl X (aLeft T c) ≤ aPl X (aLeft T (aAt X q)) := by
          rcases sj_lg (aPl X (aLeft T (aAt X q))) (aPl X (aLeft T c)) with w | w
          · have := (pl_lt y0 h hs o4 hl).mpr w; omega
          · exact w
        have hne : ¬ aPl X (aLeft T (aAt X q)) = aPl X (aLeft T c) := fun w => by
          refine hL (y0.1 _ _ (cp_isR h o4) (cp_isR h hl) ?_)
          rcases Int.lt_trichotomy (ρ (aLeft T (aAt X q))) (ρ (aLeft T c)) with v | v | v
          · have := (pl_lt y0 h hs o4 hl).mp v; omega
          · exact v
          · have := (pl_lt y0 h hs hl o4).mp v; omega
        rw [if_neg (by omega)]
        split
        · exact ih (q + 1) _ (by omega) (by omega) (by omega)
        · exact ih (q + 1) _ (by omega) (by omega) (by omega)
end YT
/-- YATA puts a CHARACTER where its rank stands -/
theorem yata_place {T X : aS} {ρ : Int → Int} {c : Int} (hy : yOK T ρ) (hf : tRef T) (h : cpOK T X) (hs : srt ρ X) (hc : aHasC T c) (hn : X 2 c = -2) (hl : inX X (aLeft T c)) (hr : inX X (aRight T c)) :
    0 ≤ (aYata T X c).1 ∧ (aYata T X c).1 ≤ X 0 0 ∧ aPl X (aLeft T c) < (aYata T X c).1 ∧ (aYata T X c).1 ≤ aPl X (aRight T c) ∧ (∀ q, 0 ≤ q → q < (aYata T X c).1 → ρ (X 1 q) < ρ c) ∧ ∀ q, (aYata T X c).1 ≤ q → q < X 0 0 → ρ c < ρ (X 1 q) := by
  obtain ⟨z, z0, z1, z2, z3⟩ := srt_place hy.1 h hs hc hn
  have y0 := hy.1
  have hLb : -1 ≤ aPl X (aLeft T c) ∧ aPl X (aLeft T c) < z := by
    rcases hl with w | w | ⟨w0, w1, w2⟩
    · rw [w, pl_beg]; omega
    · have := (hf c hc).1; omega
    · obtain ⟨c1, c2, c3, c4⟩ := cp_has h w0 w1 w2
      rw [pl_char w0 w1]
      refine ⟨by omega, ?_⟩
      rcases sj_lg (X 2 (aLeft T c)) z with v | v
      · exact v
      · have := z3 _ v c3
        rw [c4] at this
        have := (hy.2.2.1 c hc).1
        omega
  have hRb : z ≤ aPl X (aRight T c) ∧ aPl X (aRight T c) ≤ X 0 0 := by
    rcases hr with w | w | ⟨w0, w1, w2⟩
    · have := (hf c hc).2; omega
    · rw [w, pl_end]; omega
    · obtain ⟨c1, c2, c3, c4⟩ := cp_has h w0 w1 w2
      rw [pl_char w0 w1]
      refine ⟨?_, by omega⟩
      rcases sj_lg (X 2 (aRight T c)) z with v | v
      · have := z2 _ c2 v
        rw [c4] at this
        have := (hy.2.2.1 c hc).2.1
        omega
      · exact v
  have key : (aYata T X c).1 = z := by
    unfold aYata
    by_cases hE : aPl X (aLeft T c) + 1 = z
    · rw [hE]
      rw [← hE]
      rw [hE]
      have := yata_3 hy hf h hs hc hn hl hr z0 z2 z3 (aPl X (aRight T c) - z).toNat z (Int.le_refl _) (by omega)
      rw [hE] at this
      exact this
    · -- the last sibling ahead of it
      have hex : ∃ b, aPl X (aLeft T c) + 1 ≤ b ∧ b < z ∧ aLeft T (aAt X b) = aLeft T c ∧ ∀ q, b < q → q < z → ¬ aLeft T (aAt X q) = aLeft T c := by
        have hfirst : aLeft T (aAt X (aPl X (aLeft T c) + 1)) = aLeft T c := by
          obtain ⟨o1, o2, o3, o4, o5⟩ := cp_at h (q := aPl X (aLeft T c) + 1) (by omega) (by omega)
          have hoc : ρ (aAt X (aPl X (aLeft T c) + 1)) < ρ c := by rw [at_in (by omega) (by omega) h.2.1]; exact z2 _ (by omega) (by omega)
          have hLo : ρ (aLeft T c) < ρ (aAt X (aPl X (aLeft T c) + 1)) := (pl_lt y0 h hs hl o3).mpr (by rw [o2]; omega)
          have hT := hy.2.1 c _ hc o1 hLo hoc
          have hlo := (hy.2.2.1 _ o1).1
          refine y0.1 _ _ (cp_isR h o4) (cp_isR h hl) ?_
          rcases Int.lt_or_eq_of_le hT with v | v
          · have a1 := (pl_lt y0 h hs hl o4).mp v
            have a2 := (pl_lt y0 h hs o4 o3).mp hlo
            rw [o2] at a2
            omega
          · exact v.symm
        obtain ⟨k, hk1, hk2⟩ := pk_least (fun k : Nat => aPl X (aLeft T c) + 1 ≤ z - 1 - k ∧ aLeft T (aAt X (z - 1 - k)) = aLeft T c) ⟨(z - 1 - (aPl X (aLeft T c) + 1)).toNat, by
          rw [show z - 1 - (((z - 1 - (aPl X (aLeft T c) + 1)).toNat : Nat) : Int) = aPl X (aLeft T c) + 1 by omega]
          exact ⟨Int.le_refl _, hfirst⟩⟩
        refine ⟨z - 1 - k, hk1.1, by omega, hk1.2, fun q q0 q1 e => ?_⟩
        have := hk2 (z - 1 - q).toNat (by omega)
        rw [show z - 1 - (((z - 1 - q).toNat : Nat) : Int) = q by omega] at this
        exact this ⟨by omega, e⟩
      obtain ⟨b, b0, b1, b2, b3⟩ := hex
      exact yata_1 hy hf h hs hc hn hl hr z0 z1 z2 z3 hRb.1 b0 b1 b2 b3 hLb.1 _ _ _ (Int.le_refl _) b0 (by omega)
  rw [key]
  exact ⟨z0, z1, hLb.2, hRb.1, z2, z3⟩
