/-! at the start both are empty -/
def zT : aS := fun _ _ => 0
def eX : aS := fun k z => if k = 2 ∧ 0 ≤ z ∧ z < 60 then -2 else 0
theorem emp_i : aEmp (vS (fun _ _ => 0)) = eX := by
  funext k z
  have hv : ∀ (j : Nat) (b : Int), vS (fun _ _ => 0) j b = 0 := fun j b => by unfold vS; split <;> rfl
  unfold eX
  by_cases h0 : k = 0
  · subst h0
    rw [if_neg (by omega)]
    by_cases hz : 0 ≤ z ∧ z ≤ 6
    · exact aEmp_0 _ z hz.1 hz.2
    · unfold aEmp
      rw [aUp_ne (by omega), aUp_ne (by omega), aUp_ne (by omega), aUp_ne (by omega), aUp_ne (by omega), aUp_ne (by omega), aUp_ne (by omega)]
      unfold aE2 aE1
      rw [if_neg (by omega), if_neg (by omega), if_neg (by omega), hv]
  · rw [aEmp_j _ k z h0]
    unfold aE2 aE1
    rw [hv]
    by_cases h2 : k = 2 ∧ 0 ≤ z ∧ z < 60
    · rw [if_neg (by omega), if_pos h2, if_pos h2]
    · rw [if_neg h2, if_neg h2]
      (repeat' split) <;> rfl
theorem tF_0 (t : Int) (h0 : 0 ≤ t) (h1 : t < 2) : tF cM0 t = zT := by
  funext j z
  show (if j < 10 then (cM0 (9 + 10 * t.toNat + j) z).toInt else 0) = 0
  split
  · unfold cM0
    rw [if_pos (by omega)]
    rfl
  · rfl
theorem xF_0 (i : Int) (h0 : 0 ≤ i) (h1 : i < 10) : xF cM0 i = eX := by
  funext j z
  show (if j < 5 then (cM0 (29 + 5 * i.toNat + j) z).toInt else 0) = eX j z
  unfold eX
  by_cases hj : j < 5
  · rw [if_pos hj]
    unfold cM0
    rw [if_neg (by omega), show (29 + 5 * i.toNat + j - 29) % 5 = j by omega]
    unfold emM
    by_cases h2 : j = 2 ∧ 0 ≤ z ∧ z < 60
    · rw [if_pos h2, if_pos h2]; rfl
    · rw [if_neg h2, if_neg h2]; rfl
  · rw [if_neg hj, if_neg (by omega)]
theorem zC (c : Int) : ¬ aHasC zT c := fun h => by have h1 := h.1; have h2 : c < 0 := h.2.1; omega
theorem zM (k : Int) : ¬ aHasM zT k := fun h => by have h1 := h.1; have h2 : k < 0 := h.2.1; omega
theorem gT_0 : gT zT := by
  refine ⟨⟨Int.le_refl _, by show (0 : Int) ≤ 60; omega, Int.le_refl _, by show (0 : Int) ≤ 160; omega, fun c hc => absurd hc (zC c), fun k hk => absurd hk (zM k), fun k k' hk => absurd hk (zM k)⟩, ⟨rfl, Int.le_refl _, by show (0 : Int) ≤ 100; omega⟩, fun s _ _ => ⟨Int.le_refl _, Int.le_refl _⟩, fun c hc => absurd hc (zC c), fun c o hc => absurd hc (zC c), fun c hc => absurd hc (zC c)⟩
def lt0 (t : Int) : Int → Int → Prop := if t = 0 then (fun a b => wl ((fun _ => []) a) ((fun _ => []) b)) else (fun a b => (fun z : Int => z) a < (fun z : Int => z) b)
theorem gO_0 (t : Int) : gO zT (decide (t = 0)) (lt0 t) := by
  by_cases ht : t = 0
  · refine Or.inl ⟨by simp [ht], fun _ => [], ⟨fun c hc => absurd hc (zC c), fun c hc => absurd hc (zC c), fun c hc => absurd hc (zC c), fun c o hc => absurd hc (zC c)⟩, ?_⟩
    unfold lt0
    rw [if_pos ht]
  · refine Or.inr ⟨by simp [ht], fun z => z, ⟨⟨fun a b _ _ h => h, fun c hc => absurd hc (zC c), by decide⟩, fun c o hc => absurd hc (zC c), fun c hc => absurd hc (zC c), fun c o hc => absurd hc (zC c)⟩, ?_⟩
    unfold lt0
    rw [if_neg ht]
theorem RR_start : RR cM0 (fun _ _ => 0) := by
  refine ⟨lt0, ⟨fun t h0 h1 => ?_, fun t s h0 h1 h2 h3 => ?_⟩, ⟨fun t h0 h1 => ?_, fun i h0 h1 => ?_⟩, rfl, ⟨Int.le_refl _, by decide⟩, fun z h0 h1 => ?_⟩
  · rw [tF_0 t h0 h1]
    exact ⟨gT_0, gO_0 t⟩
  · rw [tF_0 t h0 h1, xF_0 (5 * t + s) (by omega) (by omega), ← emp_i]
    exact ⟨emp_inv (lt0 t) gT_0.1 _, fun k hk => absurd hk (zM k), fun k hk => absurd hk (zM k)⟩
  · rw [tF_0 t h0 h1]
    exact ⟨⟨rfl, rfl, rfl⟩, fun c _ _ => ⟨rfl, rfl, rfl, rfl, rfl⟩, fun s _ _ => rfl, fun k _ _ => ⟨rfl, rfl, rfl⟩⟩
  · rw [xF_0 i h0 h1]
    refine ⟨⟨rfl, fun q q0 q1 => ?_, fun c c0 c1 => ⟨?_, rfl⟩, fun k _ _ => rfl⟩, rfl⟩
    · have h2 : q < 0 := q1
      omega
    · have h2 : eX 2 c = -2 := by unfold eX; rw [if_pos ⟨rfl, c0, c1⟩]
      rw [if_pos h2]
      rfl
  · have h2 : z < 0 := h1
    omega
