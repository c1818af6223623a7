/-! a new CHARACTER in the order -/
def newC (T T' : aS) (c L R s m : Int) : Prop := tExt T T' ∧ c = T 0 0 ∧ (0 ≤ c ∧ c < 60) ∧ (∀ x, aHasC T' x ↔ aHasC T x ∨ x = c) ∧ aLeft T' c = L ∧ aRight T' c = R ∧ aSite T' c = s ∧ aMark T' c = m
theorem new_no {T : aS} : ¬ aHasC T (T 0 0) := fun w => by have := w.2.1; omega
theorem isR_ne {T : aS} (hc : 0 ≤ T 0 0 ∧ T 0 0 < 60) {a : Int} (h : isR T a) : ¬ a = T 0 0 := by
  rcases h with w | w | w
  · omega
  · omega
  · intro q; rw [q] at w; exact new_no w
theorem new_w {T T' : aS} {key : Int → List Nat} {c L R s m : Int} (h : newC T T' c L R s m) (hw : wOK T key) (hf : tRef T) (hO : wO (kl T key L) (kl T key R)) (hL : isR T L) (hR : isR T R) (hm0 : 0 ≤ m) (hmn : ∀ o, aHasC T o → ¬ aMark T o = m) : ∃ key', wOK T' key' ∧ ∀ a, aHasC T a → key' a = key a := by
  obtain ⟨hx, rfl, hc, hh, e1, e2, e3, e4⟩ := h
  obtain ⟨w1, w2, w3, w4⟩ := hw
  let key' : Int → List Nat := fun a => if a = T 0 0 then psi (kl T key L) (kl T key R) (tg T' (T 0 0)) else key a
  have ko : ∀ a, aHasC T a → key' a = key a := by
    intro a ha
    show (if a = T 0 0 then _ else key a) = key a
    rw [if_neg]
    intro q
    rw [q] at ha
    exact new_no ha
  have kn : key' (T 0 0) = psi (kl T key L) (kl T key R) (tg T' (T 0 0)) := if_pos rfl
  have kk : ∀ a, isR T a → kl T' key' a = kl T key a := by
    intro a ha
    by_cases h1 : aHasC T a
    · rw [kl_some h1, kl_some ((hh a).mpr (Or.inl h1)), ko a h1]
    · rw [kl_none h1, kl_none]
      intro q
      rcases (hh a).mp q with v | v
      · exact h1 v
      · exact isR_ne hc ha v
  have ht : tg T' (T 0 0) % 2 = 1 := by unfold tg; omega
  have hA := psi_A _ (kl T key L) (kl T key R) (tg T' (T 0 0)) (Nat.le_refl _) (kl_B ⟨w1, w2, w3, w4⟩ L) (kl_B ⟨w1, w2, w3, w4⟩ R) hO ht
  refine ⟨key', ⟨fun x hx1 => ?_, fun x hx1 => ?_, fun x hx1 => ?_, fun x o hx1 ho1 he => ?_⟩, ko⟩
  · rcases (hh x).mp hx1 with v | v
    · have hl := tRef_l hf v
      have hr := tRef_r hf v
      rw [ext_left hx v, ext_right hx v, kk _ hl, kk _ hr, ko x v]
      have : tg T' x = tg T x := by unfold tg; rw [ext_mark hx v]
      rw [this]
      exact w1 x v
    · rw [v, e1, e2, kk _ hL, kk _ hR, kn]
      exact ⟨hO, rfl⟩
  · rcases (hh x).mp hx1 with v | v
    · rw [ko x v]; exact w2 x v
    · rw [v, kn]; exact hA.1
  · rcases (hh x).mp hx1 with v | v
    · rw [ext_mark hx v]; exact w3 x v
    · rw [v, e4]; exact hm0
  · rcases (hh x).mp hx1 with v | v
    · rcases (hh o).mp ho1 with u | u
      · rw [ext_mark hx v, ext_mark hx u] at he
        exact w4 x o v u he
      · rw [ext_mark hx v, u, e4] at he
        exact absurd he (hmn x v)
    · rcases (hh o).mp ho1 with u | u
      · rw [ext_mark hx u, v, e4] at he
        exact absurd he.symm (hmn o u)
      · rw [v, u]
/-- a new rank, odd among the doubled ones -/
theorem new_y0 {T T' : aS} {ρ : Int → Int} {c L R s m z : Int} (h : newC T T' c L R s m) (hy : yOK T ρ) (hf : tRef T) (hL : isR T L) (hR : isR T R)
    (hz : z % 2 = 1) (hz1 : 2 * ρ L < z) (hz2 : z < 2 * ρ R) (hLR : R = 60 ∨ ρ (aLeft T R) ≤ ρ L)
    (hP1 : ∀ o, aHasC T o → ρ L < ρ o → 2 * ρ o < z → ρ L ≤ ρ (aLeft T o))
    (hP2 : ∀ o, aHasC T o → 2 * ρ (aLeft T o) < z → z < 2 * ρ o → ρ (aLeft T o) ≤ ρ L)
    (hS1 : ∀ o, aHasC T o → aLeft T o = L → z < 2 * ρ o → ρ R ≤ ρ o ∨ s < aSite T o)
    (hS2 : ∀ o, aHasC T o → aLeft T o = L → 2 * ρ o < z → 2 * ρ (aRight T o) ≤ z ∨ aSite T o < s) :
    ∃ ρ', yOK T' ρ' ∧ ∀ a b, aHasC T a → aHasC T b → ρ a < ρ b → ρ' a < ρ' b := by
  obtain ⟨hx, rfl, hc, hh, e1, e2, e3, e4⟩ := h
  obtain ⟨⟨r1, r2, r3⟩, y1, y2, y3⟩ := hy
  let ρ' : Int → Int := fun a => if a = T 0 0 then z else 2 * ρ a
  have kn : ρ' (T 0 0) = z := if_pos rfl
  have kr : ∀ a, isR T a → ρ' a = 2 * ρ a := fun a ha => if_neg (isR_ne hc ha)
  have ko : ∀ a, aHasC T a → ρ' a = 2 * ρ a := fun a ha => kr a (Or.inr (Or.inr ha))
  have kB : ρ' (-1) = 2 * ρ (-1) := kr _ (Or.inl rfl)
  have kE : ρ' 60 = 2 * ρ 60 := kr _ (Or.inr (Or.inl rfl))
  have hLb : ρ (-1) ≤ ρ L := by
    rcases hL with v | v | v
    · rw [v]; exact Int.le_refl _
    · rw [v]; omega
    · have := r2 L v; omega
  have hRb : ρ R ≤ ρ 60 := by
    rcases hR with v | v | v
    · rw [v]; omega
    · rw [v]; exact Int.le_refl _
    · have := r2 R v; omega
  have hi : ∀ a, isR T' a → isR T a ∨ a = T 0 0 := by
    intro a ha
    rcases ha with v | v | v
    · exact Or.inl (Or.inl v)
    · exact Or.inl (Or.inr (Or.inl v))
    · rcases (hh a).mp v with u | u
      · exact Or.inl (Or.inr (Or.inr u))
      · exact Or.inr u
  refine ⟨ρ', ⟨⟨fun a b ha hb he => ?_, fun x hx1 => ?_, by rw [kB, kE]; omega⟩, fun x o hx1 ho1 h1 h2 => ?_, fun x hx1 => ?_, fun x o hx1 ho1 h1 h2 => ?_⟩, fun a b ha hb hab => by rw [ko a ha, ko b hb]; omega⟩
  · rcases hi a ha with v | v
    · rcases hi b hb with u | u
      · rw [kr a v, kr b u] at he
        exact r1 a b v u (by omega)
      · rw [kr a v, u, kn] at he
        omega
    · rcases hi b hb with u | u
      · rw [kr b u, v, kn] at he
        omega
      · rw [v, u]
  · rw [kB, kE]
    rcases (hh x).mp hx1 with v | v
    · rw [ko x v]; have := r2 x v; omega
    · rw [v, kn]; omega
  · rcases (hh x).mp hx1 with v | v
    · have hl := tRef_l hf v
      rw [ext_left hx v, kr _ hl] at h1 ⊢
      rw [ko x v] at h2
      rcases (hh o).mp ho1 with u | u
      · rw [ko o u] at h1 h2
        rw [ext_left hx u, kr _ (tRef_l hf u)]
        have := y1 x o v u (by omega) (by omega)
        omega
      · rw [u, kn] at h1 h2
        rw [u, e1, kr L hL]
        have := hP2 x v h1 h2
        omega
    · rw [v, kn] at h2
      rw [v, e1, kr L hL] at h1 ⊢
      rcases (hh o).mp ho1 with u | u
      · rw [ko o u] at h1 h2
        rw [ext_left hx u, kr _ (tRef_l hf u)]
        have := hP1 o u (by omega) h2
        omega
      · rw [u, kn] at h2
        omega
  · rcases (hh x).mp hx1 with v | v
    · have hl := tRef_l hf v
      have hr := tRef_r hf v
      rw [ext_left hx v, ext_right hx v, kr _ hl, kr _ hr, ko x v]
      obtain ⟨q1, q2, q3⟩ := y2 x v
      refine ⟨by omega, by omega, ?_⟩
      rcases q3 with u | u
      · exact Or.inl u
      · right
        have hr2 : aRight T x = 60 ∨ aHasC T (aRight T x) := by
          rcases hr with w | w | w
          · have := (hf x v).2; omega
          · exact Or.inl w
          · exact Or.inr w
        rcases hr2 with w | w
        · have hn : ∀ U : aS, aLeft U 60 = -1 := fun U => by unfold aLeft; rw [if_neg (by omega)]
          rw [w, hn] at u ⊢
          rw [kB]; omega
        · rw [ext_left hx w, kr _ (tRef_l hf w)]; omega
    · rw [v, e1, e2, kr L hL, kr R hR, kn]
      refine ⟨by omega, by omega, ?_⟩
      rcases hLR with u | u
      · exact Or.inl u
      · right
        rcases hR with w | w | w
        · have hn : ∀ U : aS, aLeft U (-1) = -1 := fun U => by unfold aLeft; rw [if_neg (by omega)]
          rw [w, hn] at u ⊢
          rw [kB]; omega
        · have hn : ∀ U : aS, aLeft U 60 = -1 := fun U => by unfold aLeft; rw [if_neg (by omega)]
          rw [w, hn] at u ⊢
          rw [kB]; omega
        · rw [ext_left hx w, kr _ (tRef_l hf w)]; omega
  · rcases (hh x).mp hx1 with v | v
    · have hr := tRef_r hf v
      rw [ko x v] at h2
      rw [ext_left hx v] at h1
      rw [ext_right hx v, kr _ hr, ext_site hx v]
      rcases (hh o).mp ho1 with u | u
      · rw [ext_left hx u] at h1
        rw [ko o u] at h2 ⊢
        rw [ext_site hx u]
        rcases y3 x o v u h1 (by omega) with w | w
        · left; omega
        · exact Or.inr w
      · rw [u, e1] at h1
        rw [u, kn] at h2 ⊢
        rw [e3]
        exact hS2 x v h1 h2
    · rw [v, e1] at h1
      rw [v, kn] at h2
      rw [v, e2, kr R hR, e3]
      rcases (hh o).mp ho1 with u | u
      · rw [ext_left hx u] at h1
        rw [ko o u] at h2 ⊢
        rw [ext_site hx u]
        rcases hS1 o u h1.symm h2 with w | w
        · left; omega
        · exact Or.inr w
      · rw [u, kn] at h2
        omega
