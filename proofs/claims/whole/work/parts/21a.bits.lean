/-! sets of places as numbers: bits -/
theorem nI_i (n : Nat) : iI (n : Int) = nI n := (nI_iI n).symm
theorem and_I (a b : Nat) : iI (a : Int) &&& iI (b : Int) = iI ((a &&& b : Nat) : Int) := by
  rw [nI_i, nI_i, nI_i]
  apply Int32.toBitVec_inj.mp
  rw [Int32.toBitVec_and]
  show BitVec.ofNat 32 a &&& BitVec.ofNat 32 b = BitVec.ofNat 32 (a &&& b)
  exact (BitVec.ofNat_and).symm
theorem or_I (a b : Nat) : iI (a : Int) ||| iI (b : Int) = iI ((a ||| b : Nat) : Int) := by
  rw [nI_i, nI_i, nI_i]
  apply Int32.toBitVec_inj.mp
  rw [Int32.toBitVec_or]
  show BitVec.ofNat 32 a ||| BitVec.ofNat 32 b = BitVec.ofNat 32 (a ||| b)
  exact (BitVec.ofNat_or).symm
theorem xor_I (a b : Nat) : iI (a : Int) ^^^ iI (b : Int) = iI ((a ^^^ b : Nat) : Int) := by
  rw [nI_i, nI_i, nI_i]
  apply Int32.toBitVec_inj.mp
  rw [Int32.toBitVec_xor]
  show BitVec.ofNat 32 a ^^^ BitVec.ofNat 32 b = BitVec.ofNat 32 (a ^^^ b)
  exact (BitVec.ofNat_xor).symm
theorem m1_I : iI (-1) = iI ((4294967295 : Nat) : Int) := by decide
theorem n12 {x : Int} (h0 : 0 ≤ x) (h1 : x ≤ 12) : x = 0 ∨ x = 1 ∨ x = 2 ∨ x = 3 ∨ x = 4 ∨ x = 5 ∨ x = 6 ∨ x = 7 ∨ x = 8 ∨ x = 9 ∨ x = 10 ∨ x = 11 ∨ x = 12 := by omega
theorem bit_I {x : Int} (h0 : 0 ≤ x) (h1 : x ≤ 12) : bitI x = iI ((2 ^ x.toNat : Nat) : Int) := by
  rcases n12 h0 h1 with h | h | h | h | h | h | h | h | h | h | h | h | h <;> rw [h] <;> decide
theorem sm32 {x : Int} (h0 : 0 ≤ x) (h1 : x ≤ 12) : (((iI x) &&& 31).toBitVec.smod 32).toNat = x.toNat := by
  rcases n12 h0 h1 with h | h | h | h | h | h | h | h | h | h | h | h | h <;> rw [h] <;> decide
theorem shr_I {S : Nat} {x : Int} (hS : S < 2 ^ 31) (h0 : 0 ≤ x) (h1 : x ≤ 12) : iI (S : Int) >>> (iI x &&& 31) = iI ((S / 2 ^ x.toNat : Nat) : Int) := by
  rw [nI_i, nI_i]
  exact pk_shrN hS _ _ (sm32 h0 h1)
theorem toInt_I {n : Nat} (h : n < 2 ^ 31) : (iI (n : Int)).toInt = n := iI_toInt ⟨by omega, by omega⟩
/-- a set without one -/
def les (S x : Nat) : Nat := S &&& (2 ^ x ^^^ 4294967295)
theorem les_bit {S : Nat} (hS : S < 4096) (x y : Nat) : (les S x).testBit y = (S.testBit y && !decide (y = x)) := by
  unfold les
  rw [Nat.testBit_and, Nat.testBit_xor, Nat.testBit_two_pow, show (4294967295 : Nat) = 2 ^ 32 - 1 from rfl, Nat.testBit_two_pow_sub_one]
  by_cases hy : y < 32
  · by_cases hxy : x = y
    · subst hxy; simp [hy]
    · have : ¬ y = x := fun q => hxy q.symm
      simp [hy, hxy, this]
  · have : S.testBit y = false := Nat.testBit_lt_two_pow (Nat.lt_of_lt_of_le hS (Nat.le_trans (by decide : 4096 ≤ 2 ^ 32) (Nat.pow_le_pow_right (by omega) (by omega))))
    rw [this]; simp
theorem les_le (S x : Nat) : les S x ≤ S := Nat.and_le_left
theorem or_bit (S x y : Nat) : (S ||| 2 ^ x).testBit y = (S.testBit y || decide (y = x)) := by
  rw [Nat.testBit_or, Nat.testBit_two_pow]
  congr 1
  exact decide_eq_decide.mpr ⟨fun h => h.symm, fun h => h.symm⟩
theorem or_lt {S x n : Nat} (hS : S < 2 ^ n) (hx : x < n) : S ||| 2 ^ x < 2 ^ n := Nat.or_lt_two_pow hS (Nat.pow_lt_pow_right (by omega) hx)
theorem or_gt {S x : Nat} (h : S.testBit x = false) : S < S ||| 2 ^ x := by
  rcases Nat.lt_or_eq_of_le (Nat.left_le_or (n := S) (m := 2 ^ x)) with w | w
  · exact w
  · have := or_bit S x x
    rw [← w, h] at this
    simp at this
theorem or_les {S x : Nat} (hS : S < 4096) (h : S.testBit x = true) : les S x ||| 2 ^ x = S := by
  apply Nat.eq_of_testBit_eq
  intro y
  rw [or_bit, les_bit hS]
  by_cases hy : y = x
  · subst hy; simp [h]
  · simp [hy]
theorem les_or {Z x : Nat} (hZ : Z ||| 2 ^ x < 4096) (h : Z.testBit x = false) : les (Z ||| 2 ^ x) x = Z := by
  apply Nat.eq_of_testBit_eq
  intro y
  rw [les_bit hZ, or_bit]
  by_cases hy : y = x
  · subst hy; simp [h]
  · simp [hy]
theorem les_self {S x : Nat} (hS : S < 4096) : les S x = S ↔ S.testBit x = false := by
  constructor
  · intro h
    have := les_bit hS x x
    rw [h] at this
    simp at this
    exact this
  · intro h
    apply Nat.eq_of_testBit_eq
    intro y
    rw [les_bit hS]
    by_cases hy : y = x
    · subst hy; simp [h]
    · simp [hy]
theorem bit_lt {S n y : Nat} (hS : S < 2 ^ n) (h : S.testBit y = true) : y < n := by
  rcases Nat.lt_or_ge y n with w | w
  · exact w
  · rw [Nat.testBit_lt_two_pow (Nat.lt_of_lt_of_le hS (Nat.pow_le_pow_right (by omega) w))] at h
    cases h
theorem full_bit {n y : Nat} (h : y < n) : (2 ^ n - 1).testBit y = true := by rw [Nat.testBit_two_pow_sub_one]; simp [h]
theorem full_of {S n : Nat} (hS : S < 2 ^ n) (h : ∀ y, y < n → S.testBit y = true) : S = 2 ^ n - 1 := by
  apply Nat.eq_of_testBit_eq
  intro y
  rw [Nat.testBit_two_pow_sub_one]
  by_cases hy : y < n
  · simp [hy, h y hy]
  · have h9 : S.testBit y = false := Nat.testBit_lt_two_pow (Nat.lt_of_lt_of_le hS (Nat.pow_le_pow_right (by omega) (by omega)))
    simp [hy, h9]
theorem p12 {n : Nat} (h : n ≤ 12) : 2 ^ n ≤ 4096 := by
  have := Nat.pow_le_pow_right (n := 2) (by omega) h
  omega
/-- sums -/
def sm (f : Nat → Int64) : Nat → Int64
  | 0 => 0
  | n + 1 => sm f n + f n
theorem sm_congr {f g : Nat → Int64} : ∀ n : Nat, (∀ x, x < n → f x = g x) → sm f n = sm g n
  | 0, _ => rfl
  | n + 1, h => by rw [sm, sm, sm_congr n (fun x hx => h x (by omega)), h n (by omega)]
theorem sm_zero {f : Nat → Int64} : ∀ n : Nat, (∀ x, x < n → f x = 0) → sm f n = 0
  | 0, _ => rfl
  | n + 1, h => by rw [sm, sm_zero n (fun x hx => h x (by omega)), h n (by omega), Int64.add_zero]
theorem sm_one {f g : Nat → Int64} {y : Nat} (hf : f y = 0) : ∀ n : Nat, y < n → (∀ x, x < n → ¬ x = y → f x = g x) → sm g n = sm f n + g y
  | 0, h, _ => by omega
  | n + 1, h, ho => by
    rw [sm, sm]
    rcases Nat.lt_or_eq_of_le (show y ≤ n by omega) with w | w
    · rw [sm_one hf n w (fun x hx hn => ho x (by omega) hn), ho n (by omega) (by omega), Int64.add_assoc, Int64.add_comm (g y), ← Int64.add_assoc]
    · rw [w] at hf ⊢
      rw [hf, Int64.add_zero, sm_congr n (fun x hx => (ho x (by omega) (by omega)).symm)]
/-! how many ways: the reference's, the class's -/
def okU (pr : Nat → Nat → Prop) (S i : Nat) : Prop := S.testBit i = false ∧ ∀ q, pr q i → S.testBit q = true
def okV (pr : Nat → Nat → Prop) (S x : Nat) : Prop := S.testBit x = false ∧ ∀ q, pr x q → (S ||| 2 ^ x).testBit q = false
noncomputable def cif (p : Prop) (a b : Int64) : Int64 := @ite Int64 p (Classical.propDecidable p) a b
theorem cif_pos {p : Prop} {a b : Int64} (h : p) : cif p a b = a := @if_pos p (Classical.propDecidable p) h Int64 a b
theorem cif_neg {p : Prop} {a b : Int64} (h : ¬ p) : cif p a b = b := @if_neg p (Classical.propDecidable p) h Int64 a b
noncomputable def tU (pr : Nat → Nat → Prop) (R : Nat → Int64) (S i : Nat) : Int64 := cif (okU pr S i) (R (S ||| 2 ^ i)) 0
noncomputable def tV (pr : Nat → Nat → Prop) (R : Nat → Int64) (s S x : Nat) : Int64 := cif (okV pr S x ∧ s < S ||| 2 ^ x) (R (S ||| 2 ^ x)) 0
def recU (n : Nat) (pr : Nat → Nat → Prop) (R : Nat → Int64) : Prop := R (2 ^ n - 1) = 1 ∧ ∀ S, S < 2 ^ n - 1 → R S = sm (tU pr R S) n
/-- with all sets above s handed on -/
def recV (n : Nat) (pr : Nat → Nat → Prop) (s : Nat) (R : Nat → Int64) : Prop := ∀ S, S < 2 ^ n → R S = (if S = 2 ^ n - 1 then 1 else 0) + sm (tV pr R s S) n
def dcl (pr : Nat → Nat → Prop) (S : Nat) : Prop := ∀ a b, pr a b → S.testBit b = true → S.testBit a = true
theorem bF {b : Bool} (h : ¬ b = true) : b = false := by cases b; rfl; exact absurd rfl h
theorem ways_eq {n : Nat} {pr : Nat → Nat → Prop} {R V : Nat → Int64} (hn : n ≤ 12) (hpr : ∀ a b, pr a b → a < b ∧ b < n) (hU : recU n pr R) (hV : recV n pr 0 V) : ∀ (k S : Nat), 2 ^ n - S ≤ k → S < 2 ^ n → V S = cif (dcl pr S) (R S) 0 := by
  intro k
  induction k with
  | zero => intro S h1 h2; omega
  | succ k ih =>
    intro S hk hS
    have ihx : ∀ x, S.testBit x = false → x < n → V (S ||| 2 ^ x) = cif (dcl pr (S ||| 2 ^ x)) (R (S ||| 2 ^ x)) 0 := fun x hx hxn => by
      have := or_gt hx
      have := or_lt hS hxn
      exact ih _ (by omega) this
    rw [hV S hS]
    by_cases hf : S = 2 ^ n - 1
    · have hd : dcl pr S := fun a b hab _ => by rw [hf]; exact full_bit (by have := hpr a b hab; omega)
      have hz : sm (tV pr V 0 S) n = 0 := by
        refine sm_zero n (fun x hx => ?_)
        unfold tV
        rw [cif_neg]
        intro w
        have := w.1.1
        rw [hf, full_bit hx] at this
        cases this
      rw [if_pos hf, hz, cif_pos hd, Int64.add_zero, hf, hU.1]
    · rw [if_neg hf, Int64.zero_add]
      by_cases hd : dcl pr S
      · rw [cif_pos hd, hU.2 S (by omega)]
        refine sm_congr n (fun x hx => ?_)
        unfold tV tU
        by_cases hb : S.testBit x = true
        · rw [cif_neg (fun w => by have := w.1.1; rw [hb] at this; cases this), cif_neg (fun w => by have := w.1; rw [hb] at this; cases this)]
        · have hb := bF hb
          have hg := or_gt hb
          have hv : okV pr S x := ⟨hb, fun q hq => by
            rw [or_bit]
            have h1 := hpr x q hq
            have h2 : S.testBit q = false := bF (fun w => by have := hd x q hq w; rw [hb] at this; cases this)
            rw [h2]; simp; omega⟩
          rw [cif_pos ⟨hv, by omega⟩, ihx x hb hx]
          by_cases hu : okU pr S x
          · rw [cif_pos hu, cif_pos]
            intro a b hab hbb
            rw [or_bit] at hbb ⊢
            by_cases hbx : b = x
            · rw [hbx] at hab; rw [hu.2 a hab]; rfl
            · have h3 : S.testBit b = true := by simpa [hbx] using hbb
              rw [hd a b hab h3]; rfl
          · rw [cif_neg hu, cif_neg]
            intro w
            refine hu ⟨hb, fun q hq => ?_⟩
            have h4 := w q x hq (by rw [or_bit]; simp)
            rw [or_bit] at h4
            have h5 : ¬ q = x := by have := hpr q x hq; omega
            simpa [h5] using h4
      · rw [cif_neg hd]
        refine sm_zero n (fun x hx => ?_)
        unfold tV
        by_cases hv : okV pr S x ∧ 0 < S ||| 2 ^ x
        · rw [cif_pos hv, ihx x hv.1.1 hx, cif_neg]
          intro w
          apply hd
          intro a b hab hbb
          have h4 := w a b hab (by rw [or_bit, hbb]; rfl)
          rw [or_bit] at h4
          by_cases hax : a = x
          · have h6 := hv.1.2 b (by rw [← hax]; exact hab)
            rw [or_bit, hbb] at h6
            cases h6
          · simpa [hax] using h4
        · rw [cif_neg hv]
