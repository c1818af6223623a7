/-! handing on -/
theorem less_N {S x : Nat} (hS : S < 4096) (hx : x < 12) : lessI (S : Int) (x : Int) = ((les S x : Nat) : Int) := by
  unfold lessI
  rw [iI_of, bit_I (x := (x : Int)) (by omega) (by omega), m1_I, xor_I, and_I, show ((x : Int)).toNat = x by omega]
  have h := les_le S x
  unfold les at h ⊢
  exact toInt_I (by omega)
theorem fand_N {F : Int → Int32} {S x m : Nat} (hS : S < 4096) (hF : F (x : Int) = iI (m : Int)) : fAnd F (x : Int) (S : Int) = 0 ↔ ∀ q, m.testBit q = true → S.testBit q = false := by
  unfold fAnd
  rw [iI_of, hF, and_I]
  have h : m &&& S ≤ S := Nat.and_le_right
  rw [toInt_I (by omega)]
  constructor
  · intro hz q hq
    have h0 : m &&& S = 0 := by omega
    have h1 : (m &&& S).testBit q = false := by rw [h0]; exact Nat.zero_testBit q
    rw [Nat.testBit_and, hq] at h1
    simpa using h1
  · intro hz
    have h0 : m &&& S = 0 := by
      apply Nat.eq_of_testBit_eq
      intro q
      rw [Nat.testBit_and, Nat.zero_testBit]
      by_cases hq : m.testBit q = true
      · rw [hz q hq]; simp
      · rw [bF hq]; rfl
    rw [h0]; rfl
/-- the followers' row: place x's must come ahead of those of its bits -/
def fmOK (F : Int → Int32) (n : Nat) (P : Nat → Nat → Prop) : Prop := ∀ x : Nat, x < n → ∃ m : Nat, m < 2 ^ n ∧ F (x : Int) = iI (m : Int) ∧ ∀ q, m.testBit q = true ↔ P x q
def hdE (pr : Nat → Nat → Prop) (n S x Z : Nat) : Prop := ∃ y, x ≤ y ∧ y < n ∧ S.testBit y = true ∧ (∀ q, pr y q → S.testBit q = false) ∧ Z = les S y
theorem hd_spec {F : Int → Int32} {n S : Nat} {pr : Nat → Nat → Prop} (hn : n ≤ 12) (hS : S < 4096) (hF : fmOK F n pr) : ∀ (f x : Nat) (R : Int → Int64), x + f = n → ∀ Z : Nat, aHdF F (S : Int) f (x : Int) R (Z : Int) = cif (hdE pr n S x Z) (R (Z : Int) + R (S : Int)) (R (Z : Int))
  | 0, x, R, h, Z => by
    rw [aHdF, cif_neg]
    rintro ⟨y, h1, h2, _⟩
    omega
  | f + 1, x, R, h, Z => by
    obtain ⟨m, m1, m2, m3⟩ := hF x (by omega)
    have hl := less_N (x := x) hS (by omega)
    have hfa := fand_N hS m2
    have hlle := les_le S x
    have hcond : (¬ lessI (S : Int) (x : Int) = S ∧ fAnd F (x : Int) (S : Int) = 0 ∧ 0 ≤ lessI (S : Int) (x : Int) ∧ lessI (S : Int) (x : Int) < 4096) ↔ (S.testBit x = true ∧ ∀ q, pr x q → S.testBit q = false) := by
      rw [hl, hfa]
      constructor
      · rintro ⟨a, b, _⟩
        refine ⟨?_, fun q hq => b q ((m3 q).mpr hq)⟩
        rcases hbx : S.testBit x with _ | _
        · exact absurd (by rw [(les_self hS).mpr hbx]) a
        · rfl
      · rintro ⟨a, b⟩
        refine ⟨fun w => ?_, fun q hq => b q ((m3 q).mp hq), by omega, by omega⟩
        have := (les_self hS (x := x)).mp (by omega)
        rw [a] at this; cases this
    rw [aHdF, show (x : Int) + 1 = ((x + 1 : Nat) : Int) by omega]
    by_cases hc : S.testBit x = true ∧ ∀ q, pr x q → S.testBit q = false
    · rw [if_pos (hcond.mpr hc), hd_spec hn hS hF f (x + 1) _ (by omega) Z, hl]
      have hne : ¬ les S x = S := fun w => by have := (les_self hS).mp w; rw [hc.1] at this; cases this
      have hwy : wysR R (S : Int) = R (S : Int) := by unfold wysR; rw [if_pos (by omega)]
      rw [hwy]
      show cif (hdE pr n S (x + 1) Z) ((if (Z : Int) = ((les S x : Nat) : Int) then _ else _) + (if (S : Int) = ((les S x : Nat) : Int) then _ else _)) (if (Z : Int) = ((les S x : Nat) : Int) then _ else _) = _
      rw [if_neg (show ¬ (S : Int) = ((les S x : Nat) : Int) by omega)]
      by_cases hz : Z = les S x
      · rw [if_pos (by omega), cif_pos (show hdE pr n S x Z from ⟨x, by omega, by omega, hc.1, hc.2, hz⟩), cif_neg, hz]
        rintro ⟨y, y1, y2, y3, y4, y5⟩
        have h1 := les_bit hS x y
        have h2 := les_bit hS y y
        rw [← hz, y3] at h1
        rw [← y5, y3] at h2
        rw [h1] at h2
        simp at h2
        omega
      · rw [if_neg (by omega)]
        by_cases he : hdE pr n S (x + 1) Z
        · obtain ⟨y, y1, y2⟩ := id he
          rw [cif_pos he, cif_pos (show hdE pr n S x Z from ⟨y, by omega, y2⟩)]
        · rw [cif_neg he, cif_neg]
          rintro ⟨y, y1, y2, y3, y4, y5⟩
          rcases Nat.lt_or_eq_of_le y1 with w | w
          · exact he ⟨y, by omega, y2, y3, y4, y5⟩
          · rw [← w] at y5; exact hz y5
    · rw [if_neg (fun w => hc (hcond.mp w)), hd_spec hn hS hF f (x + 1) _ (by omega) Z]
      by_cases he : hdE pr n S (x + 1) Z
      · obtain ⟨y, y1, y2⟩ := id he
        rw [cif_pos he, cif_pos (show hdE pr n S x Z from ⟨y, by omega, y2⟩)]
      · rw [cif_neg he, cif_neg]
        rintro ⟨y, y1, y2, y3, y4, y5⟩
        rcases Nat.lt_or_eq_of_le y1 with w | w
        · exact he ⟨y, by omega, y2, y3, y4, y5⟩
        · rw [← w] at y3 y4; exact hc ⟨y3, y4⟩
theorem recV_0 {n : Nat} {pr : Nat → Nat → Prop} {R : Nat → Int64} (h : ∀ S, S < 2 ^ n → R S = if S = 2 ^ n - 1 then 1 else 0) : recV n pr (2 ^ n - 1) R := by
  intro S hS
  rw [sm_zero n (fun x hx => ?_), Int64.add_zero]
  · exact h S hS
  · unfold tV
    rw [cif_neg]
    intro w
    have := or_lt hS hx
    have := w.2
    omega
theorem recV_step {n S : Nat} {pr : Nat → Nat → Prop} {R R' : Nat → Int64} (hn : n ≤ 12) (h0 : 0 < S) (hS : S < 2 ^ n) (hR : recV n pr S R) (h : ∀ Z, R' Z = cif (hdE pr n S 0 Z) (R Z + R S) (R Z)) : recV n pr (S - 1) R' := by
  have h12 := p12 hn
  have hbig : ∀ W, S ≤ W → R' W = R W := fun W hW => by
    rw [h W, cif_neg]
    rintro ⟨y, y1, y2, y3, y4, y5⟩
    have := les_le S y
    have h9 := (les_self (show S < 4096 by omega) (x := y)).mp (by omega)
    rw [y3] at h9; cases h9
  intro Z hZ
  have hterm : ∀ x, x < n → ¬ (okV pr Z x ∧ Z ||| 2 ^ x = S) → tV pr R S Z x = tV pr R' (S - 1) Z x := by
    intro x hx hne
    unfold tV
    by_cases hk : okV pr Z x
    · have hd : ¬ Z ||| 2 ^ x = S := fun w => hne ⟨hk, w⟩
      by_cases hlt : S < Z ||| 2 ^ x
      · rw [cif_pos ⟨hk, hlt⟩, cif_pos ⟨hk, by omega⟩, hbig _ (by omega)]
      · rw [cif_neg (fun w => hlt w.2), cif_neg (fun w => by have := w.2; omega)]
    · rw [cif_neg (fun w => hk w.1), cif_neg (fun w => hk w.1)]
  by_cases he : hdE pr n S 0 Z
  · rw [h Z, cif_pos he, hR Z hZ]
    obtain ⟨y, y1, y2, y3, y4, y5⟩ := he
    have hzy : Z.testBit y = false := by rw [y5, les_bit (by omega)]; simp
    have hor : Z ||| 2 ^ y = S := by rw [y5]; exact or_les (by omega) y3
    have hok : okV pr Z y := ⟨hzy, fun q hq => by rw [hor]; exact y4 q hq⟩
    have e1 : tV pr R S Z y = 0 := by unfold tV; rw [cif_neg (fun w => by have := w.2; omega)]
    have e2 : tV pr R' (S - 1) Z y = R S := by unfold tV; rw [cif_pos ⟨hok, by omega⟩, hor, hbig S (Nat.le_refl _)]
    rw [sm_one e1 n y2 (fun x hx hxy => hterm x hx (fun w => ?_)), e2, Int64.add_assoc]
    have h8 : Z.testBit x = true := by
      have h7 := or_bit Z x x
      rw [w.2] at h7
      rw [y5, les_bit (by omega), h7]
      simp [hxy]
    rw [w.1.1] at h8; cases h8
  · rw [h Z, cif_neg he, hR Z hZ, sm_congr n (fun x hx => hterm x hx (fun w => ?_))]
    apply he
    refine ⟨x, by omega, hx, ?_, fun q hq => ?_, ?_⟩
    · rw [← w.2, or_bit]; simp
    · rw [← w.2]; exact w.1.2 q hq
    · rw [← w.2]; exact (les_or (by have := or_lt hZ hx; omega) w.1.1).symm
/-! who must come ahead of whom -/
def prX (T X : aS) (a b : Nat) : Prop := (a : Int) < X 0 0 ∧ (b : Int) < X 0 0 ∧ (aPl X (aLeft T (X 1 (b : Int))) = (a : Int) ∨ aPl X (aRight T (X 1 (a : Int))) = (b : Int))
theorem prX_lt {T X : aS} (hf : gFree T X) {a b : Nat} (h : prX T X a b) : a < b ∧ b < (X 0 0).toNat := by
  obtain ⟨h1, h2, h3⟩ := h
  rcases h3 with w | w
  · have := (hf b (by omega) h2).1; omega
  · have := (hf a (by omega) h1).2; omega
/-- of the first p places -/
def prP (T X : aS) (p : Int) (a b : Nat) : Prop := (a : Int) < X 0 0 ∧ (b : Int) < X 0 0 ∧ (((b : Int) < p ∧ aPl X (aLeft T (X 1 (b : Int))) = (a : Int)) ∨ ((a : Int) < p ∧ aPl X (aRight T (X 1 (a : Int))) = (b : Int)))
theorem prP_all {T X : aS} {p : Int} (h : X 0 0 ≤ p) (a b : Nat) : prP T X p a b ↔ prX T X a b := by
  unfold prP prX
  constructor
  · rintro ⟨h1, h2, h3⟩
    refine ⟨h1, h2, ?_⟩
    rcases h3 with w | w
    · exact Or.inl w.2
    · exact Or.inr w.2
  · rintro ⟨h1, h2, h3⟩
    refine ⟨h1, h2, ?_⟩
    rcases h3 with w | w
    · exact Or.inl ⟨by omega, w⟩
    · exact Or.inr ⟨by omega, w⟩
theorem fm_of {F : Int → Int32} {n : Nat} {P Q : Nat → Nat → Prop} (h : fmOK F n P) (hq : ∀ a b, a < n → (P a b ↔ Q a b)) : fmOK F n Q := fun x hx => by
  obtain ⟨m, m1, m2, m3⟩ := h x hx
  exact ⟨m, m1, m2, fun q => (m3 q).trans (hq x q hx)⟩
theorem fm_0 {F : Int → Int32} {n : Nat} {P : Nat → Nat → Prop} (h : ∀ x : Nat, x < n → F (x : Int) = iI 0) (hP : ∀ a b, ¬ P a b) : fmOK F n P := fun x hx => ⟨0, Nat.two_pow_pos n, h x hx, fun q => by rw [Nat.zero_testBit]; constructor; intro w; cases w; intro w; exact absurd w (hP x q)⟩
/-- a bit more -/
theorem fm_or {F F' : Int → Int32} {n : Nat} {P : Nat → Nat → Prop} {a b : Nat} (hn : n ≤ 12) (h : fmOK F n P) (ha : a < n) (hb : b < n) (hF : ∀ z, F' z = if z = (a : Int) then F (a : Int) ||| bitI (b : Int) else F z) : fmOK F' n (fun x q => P x q ∨ (x = a ∧ q = b)) := by
  intro x hx
  obtain ⟨m, m1, m2, m3⟩ := h x hx
  by_cases hxa : x = a
  · refine ⟨m ||| 2 ^ b, or_lt m1 hb, ?_, fun q => ?_⟩
    · rw [hF, if_pos (by omega), ← hxa, m2, bit_I (x := (b : Int)) (by omega) (by omega), or_I, show ((b : Int)).toNat = b by omega]
    · rw [or_bit]
      constructor
      · intro w
        by_cases hqb : q = b
        · exact Or.inr ⟨hxa, hqb⟩
        · left; apply (m3 q).mp; simpa [hqb] using w
      · rintro (w | w)
        · rw [(m3 q).mpr w]; rfl
        · simp [w.2]
  · refine ⟨m, m1, by rw [hF, if_neg (by omega)]; exact m2, fun q => ?_⟩
    rw [m3 q]
    constructor
    · exact Or.inl
    · rintro (w | w)
      · exact w
      · exact absurd w.1 hxa
theorem fo_or {F : Int → Int32} {n : Nat} {P : Nat → Nat → Prop} {a b : Int} (hn : n ≤ 12) (h : fmOK F n P) : fmOK (aFo F a b (n : Int)) n (fun x q => P x q ∨ ((x : Int) = a ∧ (q : Int) = b ∧ x < n ∧ q < n)) := by
  unfold aFo
  by_cases hc : 0 ≤ a ∧ a < (n : Int) ∧ a < 12 ∧ 0 ≤ b ∧ b < (n : Int)
  · rw [if_pos hc]
    have h1 := fm_or (F' := fun z => if z = a then F a ||| bitI b else F z) (a := a.toNat) (b := b.toNat) hn h (by omega) (by omega) (fun z => by rw [show ((a.toNat : Nat) : Int) = a by omega, show ((b.toNat : Nat) : Int) = b by omega])
    refine fm_of h1 (fun x q hx => ?_)
    constructor
    · rintro (w | w)
      · exact Or.inl w
      · exact Or.inr ⟨by omega, by omega, by omega, by omega⟩
    · rintro (w | w)
      · exact Or.inl w
      · exact Or.inr ⟨by omega, by omega⟩
  · rw [if_neg hc]
    refine fm_of h (fun x q hx => ?_)
    constructor
    · exact Or.inl
    · rintro (w | w)
      · exact w
      · exact absurd ⟨by omega, by omega, by omega, by omega, by omega⟩ hc
theorem foF_spec {T X : aS} {n : Nat} (hn : n ≤ 12) (hX : X 0 0 = (n : Int)) (hcp : cpOK T X) : ∀ (f : Nat) (p : Int) (F : Int → Int32), 0 ≤ p → p + f = n → fmOK F n (prP T X p) → fmOK (aFoF T X (n : Int) f p F) n (prX T X)
  | 0, p, F, h0, h1, h => by
    rw [aFoF]
    exact fm_of h (fun a b _ => prP_all (by omega) a b)
  | f + 1, p, F, h0, h1, h => by
    rw [aFoF]
    refine foF_spec hn hX hcp f (p + 1) _ (by omega) (by omega) ?_
    rw [at_in h0 (by omega) hcp.2.1]
    refine fm_of (fo_or hn (fo_or hn h)) (fun a b ha => ?_)
    unfold prP
    constructor
    · rintro ((⟨w1, w2, w3⟩ | w) | w)
      · refine ⟨w1, w2, ?_⟩
        rcases w3 with v | v
        · exact Or.inl ⟨by omega, v.2⟩
        · exact Or.inr ⟨by omega, v.2⟩
      · refine ⟨by omega, by omega, Or.inl ⟨by omega, ?_⟩⟩
        rw [w.2.1]; exact w.1.symm
      · refine ⟨by omega, by omega, Or.inr ⟨by omega, ?_⟩⟩
        rw [w.1]; exact w.2.1.symm
    · rintro ⟨w1, w2, w3⟩
      rcases w3 with ⟨v1, v2⟩ | ⟨v1, v2⟩
      · by_cases hb : (b : Int) = p
        · left; right
          rw [hb] at v2
          exact ⟨v2.symm, hb, by omega, by omega⟩
        · left; left
          exact ⟨w1, w2, Or.inl ⟨by omega, v2⟩⟩
      · by_cases hb : (a : Int) = p
        · right
          rw [hb] at v2
          exact ⟨hb, v2.symm, by omega, by omega⟩
        · left; left
          exact ⟨w1, w2, Or.inr ⟨by omega, v2⟩⟩
