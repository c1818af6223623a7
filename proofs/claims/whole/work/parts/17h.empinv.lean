theorem cn_0 {f : Int → Int} : ∀ n : Nat, (∀ q : Int, 0 ≤ q → q < n → f q = 0) → cn f n = 0
  | 0, _ => rfl
  | n + 1, h => by
    rw [cn, cn_0 n (fun q h1 h2 => h q h1 (by omega)), h n (by omega) (by omega)]
    rfl
theorem aEmp_0 (X : aS) (z : Int) (h0 : 0 ≤ z) (h1 : z ≤ 6) : aEmp X 0 z = 0 := by
  unfold aEmp
  rcases (show z = 0 ∨ z = 1 ∨ z = 2 ∨ z = 3 ∨ z = 4 ∨ z = 5 ∨ z = 6 by omega) with q | q | q | q | q | q | q <;> subst q <;> unfold aUp <;> simp
theorem aEmp_j (X : aS) (j : Nat) (z : Int) (h : ¬ j = 0) : aEmp X j z = aE2 X 160 j z := by
  unfold aEmp aUp
  simp [h]
theorem aEmp_2 (X : aS) (z : Int) (h0 : 0 ≤ z) (h1 : z < 60) : aEmp X 2 z = -2 := by
  rw [aEmp_j X 2 z (by decide)]
  unfold aE2 aE1
  rw [if_neg (by omega), if_pos (by omega)]
theorem aEmp_3 (X : aS) (z : Int) (h0 : 0 ≤ z) (h1 : z < 60) : aEmp X 3 z = 0 := by
  rw [aEmp_j X 3 z (by decide)]
  unfold aE2 aE1
  rw [if_neg (by omega), if_neg (by omega), if_pos (by omega)]
theorem aEmp_4 (X : aS) (z : Int) (h0 : 0 ≤ z) (h1 : z < 160) : aEmp X 4 z = 0 := by
  rw [aEmp_j X 4 z (by decide)]
  unfold aE2
  rw [if_pos (by omega)]
/-- an empty copy keeps all -/
theorem emp_inv {T : aS} (lt : Int → Int → Prop) (ht : tInv T) (X : aS) : cInv T lt (aEmp X) := by
  have e0 := aEmp_0 X 0 (by omega) (by omega)
  refine ⟨⟨by omega, by omega, fun q q0 q1 => by omega, fun c c0 c1 => Or.inl (aEmp_2 X c c0 c1), fun c c0 c1 hp => absurd (aEmp_2 X c c0 c1) hp⟩, fun a b a0 ab b1 => by omega, ⟨fun k k0 k1 => Or.inl (aEmp_4 X k k0 k1), fun k k0 k1 => aEmp_4 X k (by have := ht.2.2.1; omega) k1, fun k hk h6 => ?_, fun k hk h6 h4 => ?_, fun c c0 c1 => Or.inl (aEmp_3 X c c0 c1)⟩, ⟨?_, ?_, ?_, ?_, ?_⟩, ?_⟩
  · have hc := (ht.2.2.2.2.2.1 k hk).2
    rw [aEmp_4 X k hk.1 hk.2.2, aEmp_2 X _ hc.1 hc.2.2]
    constructor
    · intro q; omega
    · intro q; exact absurd rfl q
  · rw [aEmp_4 X k hk.1 hk.2.2] at h4
    omega
  · rw [e0, cn_0 60 (fun q q0 q1 => by unfold pres; rw [if_pos (aEmp_2 X q q0 (by omega))])]
  · rw [aEmp_0 X 1 (by omega) (by omega)]
    unfold nSeen
    rw [e0]
    rfl
  · rw [aEmp_0 X 2 (by omega) (by omega)]
    unfold nSt
    rw [cn_0 160 (fun q q0 q1 => by rw [aEmp_4 X q q0 (by omega)]; rfl)]
  · rw [aEmp_0 X 6 (by omega) (by omega)]; omega
  · rw [aEmp_0 X 6 (by omega) (by omega), e0]; omega
  · rw [aEmp_0 X 3 (by omega) (by omega)]
    unfold nSt
    rw [cn_0 160 (fun q q0 q1 => by rw [aEmp_4 X q q0 (by omega)]; rfl)]
theorem aLdF_le (X : aS) : ∀ (f : Nat) (k n : Int) (O : Int → Int), 0 ≤ n → n ≤ 160 → 0 ≤ (aLdF X f k n O).1 ∧ (aLdF X f k n O).1 ≤ 160
  | 0, _, n, _, h0, h1 => by rw [aLdF]; exact ⟨h0, h1⟩
  | f + 1, k, n, O, h0, h1 => by
    rw [aLdF]
    split
    · rename_i h; exact aLdF_le X f _ _ _ (by omega) (by have := h.2; omega)
    · exact aLdF_le X f _ _ _ h0 h1
/-- a copy built anew in the drawn order -/
def aShuF (T : aS) (w : Bool) : Nat → Int → Int → (Int → Int) → aS → aS
  | 0, _, _, _, Y => Y
  | f + 1, s, r, O, Y => aShuF T w f (s * (1103515245 : Int32).toInt + 12345) (r - 1) (aTk O ((up16 (s * (1103515245 : Int32).toInt + 12345) : Int) % r) r) (aHear T w Y (O ((up16 (s * (1103515245 : Int32).toInt + 12345) : Int) % r))).1
