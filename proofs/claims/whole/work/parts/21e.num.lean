/-! the reference's sets -/
theorem bit0 {S j : Nat} (hS : S < 4096) (hj : j ≤ 12) : (iI (S : Int) >>> (iI (j : Int) &&& 31)) &&& iI 1 = iI ((S / 2 ^ j % 2 : Nat) : Int) := by
  rw [shr_I (x := (j : Int)) (by omega) (by omega) (by omega), show ((j : Int)).toNat = j by omega, show iI 1 = iI ((1 : Nat) : Int) from rfl, and_I, Nat.and_one_is_mod]
theorem sb0 (S j : Nat) : S / 2 ^ j % 2 = 0 ↔ S.testBit j = false := by
  have h : S.testBit j = decide (S / 2 ^ j % 2 = 1) := Nat.testBit_eq_decide_div_mod_eq
  rw [h]
  have := Nat.mod_two_eq_zero_or_one (S / 2 ^ j)
  constructor
  · intro w; rw [w]; rfl
  · intro w
    rcases this with v | v
    · exact v
    · rw [v] at w; cases w
theorem mn_I (m S : Nat) : iI (m : Int) &&& (iI (S : Int) ^^^ iI (-1)) = iI ((m &&& (S ^^^ 4294967295) : Nat) : Int) := by
  rw [m1_I, xor_I, and_I]
theorem mn_0 {m S : Nat} (hm : m < 4096) : m &&& (S ^^^ 4294967295) = 0 ↔ ∀ q, m.testBit q = true → S.testBit q = true := by
  have hb : ∀ q, (m &&& (S ^^^ 4294967295)).testBit q = (m.testBit q && !S.testBit q) := by
    intro q
    rw [Nat.testBit_and, Nat.testBit_xor, show (4294967295 : Nat) = 2 ^ 32 - 1 from rfl, Nat.testBit_two_pow_sub_one]
    by_cases hq : q < 32
    · simp [hq]
    · have : m.testBit q = false := Nat.testBit_lt_two_pow (Nat.lt_of_lt_of_le hm (Nat.le_trans (by decide : 4096 ≤ 2 ^ 32) (Nat.pow_le_pow_right (by omega) (by omega))))
      rw [this]; rfl
  constructor
  · intro h q hq
    have h1 := hb q
    rw [h, Nat.zero_testBit, hq] at h1
    simpa using h1.symm
  · intro h
    apply Nat.eq_of_testBit_eq
    intro q
    rw [hb, Nat.zero_testBit]
    by_cases hq : m.testBit q = true
    · rw [h q hq]; simp
    · rw [bF hq]; rfl
theorem mn_lt {m S : Nat} (hm : m < 4096) : m &&& (S ^^^ 4294967295) < 4096 := Nat.lt_of_le_of_lt Nat.and_le_left hm
/-- the followers of place p are put down -/
theorem prP_s {T X : aS} {p : Int} (a b : Nat) : prP T X (p + 1) a b ↔ (prP T X p a b ∨ ((b : Int) = p ∧ (a : Int) < X 0 0 ∧ (b : Int) < X 0 0 ∧ aPl X (aLeft T (X 1 p)) = (a : Int))) ∨ ((a : Int) = p ∧ (a : Int) < X 0 0 ∧ (b : Int) < X 0 0 ∧ aPl X (aRight T (X 1 p)) = (b : Int)) := by
  unfold prP
  constructor
  · rintro ⟨w1, w2, w3⟩
    rcases w3 with ⟨v1, v2⟩ | ⟨v1, v2⟩
    · by_cases hb : (b : Int) = p
      · left; right; rw [hb] at v2; exact ⟨hb, w1, w2, v2⟩
      · left; left; exact ⟨w1, w2, Or.inl ⟨by omega, v2⟩⟩
    · by_cases hb : (a : Int) = p
      · right; rw [hb] at v2; exact ⟨hb, w1, w2, v2⟩
      · left; left; exact ⟨w1, w2, Or.inr ⟨by omega, v2⟩⟩
  · rintro ((⟨w1, w2, w3⟩ | ⟨w1, w2, w3, w4⟩) | ⟨w1, w2, w3, w4⟩)
    · refine ⟨w1, w2, ?_⟩
      rcases w3 with v | v
      · exact Or.inl ⟨by omega, v.2⟩
      · exact Or.inr ⟨by omega, v.2⟩
    · exact ⟨w2, w3, Or.inl ⟨by omega, by rw [w1]; exact w4⟩⟩
    · exact ⟨w2, w3, Or.inr ⟨by omega, by rw [w1]; exact w4⟩⟩
theorem ah_l {T X : aS} {F F1 : Int → Int32} {n : Nat} {p : Int} (hn : n ≤ 12) (hx : X 0 0 = (n : Int)) (hp0 : 0 ≤ p) (hp1 : p < X 0 0) (h : fmOK F n (fun b a => prP T X p a b))
    (h1 : (aPl X (aLeft T (X 1 p)) = -1 ∧ F1 = F) ∨ ((0 ≤ aPl X (aLeft T (X 1 p)) ∧ aPl X (aLeft T (X 1 p)) < X 0 0) ∧ ∀ z, F1 z = if z = p then F p ||| bitI (aPl X (aLeft T (X 1 p))) else F z)) : fmOK F1 n (fun b a => prP T X p a b ∨ ((b : Int) = p ∧ (a : Int) < X 0 0 ∧ (b : Int) < X 0 0 ∧ aPl X (aLeft T (X 1 p)) = (a : Int))) := by
  rcases h1 with ⟨w1, rfl⟩ | ⟨w1, w2⟩
  · refine fm_of h (fun b a hb => ?_)
    constructor
    · exact Or.inl
    · rintro (v | v)
      · exact v
      · omega
  · have h2 := fm_or (F' := F1) (a := p.toNat) (b := (aPl X (aLeft T (X 1 p))).toNat) hn h (by omega) (by omega) (fun z => by rw [w2, show ((p.toNat : Nat) : Int) = p by omega, show (((aPl X (aLeft T (X 1 p))).toNat : Nat) : Int) = aPl X (aLeft T (X 1 p)) by omega])
    refine fm_of h2 (fun b a hb => ?_)
    constructor
    · rintro (v | v)
      · exact Or.inl v
      · exact Or.inr ⟨by omega, by omega, by omega, by omega⟩
    · rintro (v | v)
      · exact Or.inl v
      · exact Or.inr ⟨by omega, by omega⟩
theorem ah_r {T X : aS} {F F1 : Int → Int32} {n : Nat} {p : Int} (hn : n ≤ 12) (hx : X 0 0 = (n : Int)) (hp0 : 0 ≤ p) (hp1 : p < X 0 0) (h : fmOK F n (fun b a => prP T X p a b ∨ ((b : Int) = p ∧ (a : Int) < X 0 0 ∧ (b : Int) < X 0 0 ∧ aPl X (aLeft T (X 1 p)) = (a : Int))))
    (h1 : (aPl X (aRight T (X 1 p)) = X 0 0 ∧ F1 = F) ∨ ((0 ≤ aPl X (aRight T (X 1 p)) ∧ aPl X (aRight T (X 1 p)) < X 0 0) ∧ ∀ z, F1 z = if z = aPl X (aRight T (X 1 p)) then F (aPl X (aRight T (X 1 p))) ||| bitI p else F z)) : fmOK F1 n (fun b a => prP T X (p + 1) a b) := by
  rcases h1 with ⟨w1, rfl⟩ | ⟨w1, w2⟩
  · refine fm_of h (fun b a hb => ?_)
    rw [prP_s]
    constructor
    · exact Or.inl
    · rintro (v | v)
      · exact v
      · omega
  · have h2 := fm_or (F' := F1) (b := p.toNat) (a := (aPl X (aRight T (X 1 p))).toNat) hn h (by omega) (by omega) (fun z => by rw [w2, show ((p.toNat : Nat) : Int) = p by omega, show (((aPl X (aRight T (X 1 p))).toNat : Nat) : Int) = aPl X (aRight T (X 1 p)) by omega])
    refine fm_of h2 (fun b a hb => ?_)
    rw [prP_s]
    constructor
    · rintro (v | v)
      · exact Or.inl v
      · exact Or.inr ⟨by omega, by omega, by omega, by omega⟩
    · rintro (v | v)
      · exact Or.inl v
      · exact Or.inr ⟨by omega, by omega⟩
/-- the reference's ways, from set s on -/
def recUs (n : Nat) (pr : Nat → Nat → Prop) (s : Nat) (R : Nat → Int64) : Prop := R (2 ^ n - 1) = 1 ∧ ∀ S, s ≤ S → S < 2 ^ n - 1 → R S = sm (tU pr R S) n
theorem recUs_w {n s : Nat} {pr : Nat → Nat → Prop} {R R' : Nat → Int64} (hs : s + 1 < 2 ^ n) (h : recUs n pr (s + 1) R) (h1 : ∀ S, R' S = if S = s then sm (tU pr R s) n else R S) : recUs n pr s R' := by
  have ht : ∀ S, s ≤ S → S < 2 ^ n - 1 → ∀ x, x < n → tU pr R' S x = tU pr R S x := by
    intro S hS hS2 x hx
    unfold tU
    by_cases hk : okU pr S x
    · have := or_gt hk.1
      rw [cif_pos hk, cif_pos hk, h1, if_neg (by omega)]
    · rw [cif_neg hk, cif_neg hk]
  refine ⟨by rw [h1, if_neg (by omega)]; exact h.1, fun S hS hS2 => ?_⟩
  rw [sm_congr n (ht S hS hS2), h1]
  by_cases he : S = s
  · rw [if_pos he, he]
  · rw [if_neg he]; exact h.2 S (by omega) hS2
/-- the number -/
noncomputable def ruT (pr : Nat → Nat → Prop) (T X : aS) (R : Nat → Int64) (a x : Nat) : Int64 := cif (okU pr (2 ^ a - 1) x ∧ aMark T (X 1 (x : Int)) < aMark T (X 1 (a : Int))) (R ((2 ^ a - 1) ||| 2 ^ x)) 0
noncomputable def ruS (pr : Nat → Nat → Prop) (T X : aS) (R : Nat → Int64) (n : Nat) : Int64 := sm (fun a => sm (ruT pr T X R a) n) n
theorem pow_or (a : Nat) : (2 ^ a - 1) ||| 2 ^ a = 2 ^ (a + 1) - 1 := by
  apply Nat.eq_of_testBit_eq
  intro y
  rw [or_bit, Nat.testBit_two_pow_sub_one, Nat.testBit_two_pow_sub_one]
  by_cases hy : y = a
  · simp [hy]
  · by_cases h2 : y < a
    · have : y < a + 1 := by omega
      simp [h2, this]
    · have : ¬ y < a + 1 := by omega
      simp [hy, h2, this]
theorem num_eq {n : Nat} {pr : Nat → Nat → Prop} {T X : aS} {R V : Nat → Int64} (hn : n ≤ 12) (hpr : ∀ a b, pr a b → a < b ∧ b < n) (hU : recU n pr R) (hV : recV n pr 0 V) : V 0 = R 0 ∧ rkS T X V n = ruS pr T X R n := by
  have hw := fun S hS => ways_eq hn hpr hU hV (2 ^ n) S (by omega) hS
  refine ⟨?_, ?_⟩
  · rw [hw 0 (Nat.two_pow_pos n), cif_pos]
    intro a b _ hb
    rw [Nat.zero_testBit] at hb; cases hb
  · unfold rkS ruS
    refine sm_congr n (fun a ha => sm_congr n (fun x hx => ?_))
    unfold rkT ruT
    have hb : ∀ y, (2 ^ a - 1).testBit y = decide (y < a) := fun y => Nat.testBit_two_pow_sub_one a y
    by_cases hm : aMark T (X 1 (x : Int)) < aMark T (X 1 (a : Int))
    · by_cases hax : a < x
      · have hlt : (2 ^ a - 1) ||| 2 ^ x < 2 ^ n := or_lt (by have := Nat.pow_lt_pow_right (a := 2) (by omega) ha; have := Nat.two_pow_pos a; omega) hx
        rw [if_pos ⟨hax, hm⟩, hw _ hlt]
        by_cases hu : okU pr (2 ^ a - 1) x
        · have hdc : dcl pr ((2 ^ a - 1) ||| 2 ^ x) := by
            intro c b hcb hbb
            rw [or_bit, hb] at hbb ⊢
            by_cases hbx : b = x
            · rw [hbx] at hcb
              have h5 := hu.2 c hcb
              rw [hb] at h5
              rw [h5]; rfl
            · have h3 : b < a := by simpa [hbx] using hbb
              have h4 := hpr c b hcb
              have h6 : c < a := by omega
              simp [h6]
          rw [cif_pos hdc, cif_pos ⟨hu, hm⟩]
        · rw [cif_neg (p := okU pr (2 ^ a - 1) x ∧ aMark T (X 1 (x : Int)) < aMark T (X 1 (a : Int))) (fun w => hu w.1), cif_neg]
          intro w
          refine hu ⟨by rw [hb]; simp; omega, fun q hq => ?_⟩
          have h4 := w q x hq (by rw [or_bit]; simp)
          have h5 := hpr q x hq
          have h6 : ¬ q = x := by omega
          rw [or_bit] at h4
          simpa [h6] using h4
      · rw [if_neg (fun w => hax w.1), cif_neg]
        intro w
        by_cases he : x = a
        · rw [he] at hm; omega
        · have h7 := w.1.1
          rw [hb] at h7
          simp at h7
          omega
    · rw [if_neg (fun w => hm w.2), cif_neg (fun w => hm w.2)]
