theorem new_y {T T' X : aS} {ρ : Int → Int} {c L R s m a : Int} (h : newC T T' c L R s m) (hy : yOK T ρ) (hf : tRef T) (hcp : cpOK T X) (hs : srt ρ X) (ha : -1 ≤ a) (hL : (a = -1 ∧ L = -1) ∨ (0 ≤ a ∧ L = X 1 a)) (ha1 : a < X 0 0) (hR : (a + 1 = X 0 0 ∧ R = 60) ∨ (a + 1 < X 0 0 ∧ R = X 1 (a + 1))) (hown : ∀ o, aHasC T o → aSite T o = s → ¬ X 2 o = -2) :
    ∃ ρ', yOK T' ρ' ∧ ∀ a b, aHasC T a → aHasC T b → ρ a < ρ b → ρ' a < ρ' b := by
  obtain ⟨⟨r1, r2, r3⟩, y1, y2, y3⟩ := id hy
  have h60 := hcp.2.1
  have iL : inX X L ∧ aPl X L = a := by
    rcases hL with ⟨v, u⟩ | ⟨v, u⟩
    · rw [u, v]; exact ⟨Or.inl rfl, pl_beg⟩
    · have := cp_at hcp v ha1
      rw [at_in v ha1 h60] at this
      rw [u]; exact ⟨this.2.2.1, this.2.1⟩
  have iR : inX X R ∧ aPl X R = a + 1 := by
    rcases hR with ⟨v, u⟩ | ⟨v, u⟩
    · rw [u, pl_end]; exact ⟨Or.inr (Or.inl rfl), v.symm⟩
    · have := cp_at hcp (show 0 ≤ a + 1 by omega) v
      rw [at_in (by omega) v h60] at this
      rw [u]; exact ⟨this.2.2.1, this.2.1⟩
  have rL := cp_isR hcp iL.1
  have rR := cp_isR hcp iR.1
  have hlr : ρ L < ρ R := (pl_lt ⟨r1, r2, r3⟩ hcp hs iL.1 iR.1).mpr (by omega)
  have hLR : R = 60 ∨ ρ (aLeft T R) ≤ ρ L := by
    rcases hR with ⟨v, u⟩ | ⟨v, u⟩
    · exact Or.inl u
    · right
      have hq := cp_at hcp (show 0 ≤ a + 1 by omega) v
      rw [at_in (by omega) v h60, ← u] at hq
      have h1 := (y2 R hq.1).1
      have h2 := (pl_lt ⟨r1, r2, r3⟩ hcp hs hq.2.2.2.1 iR.1).mp h1
      rcases sj_lg (ρ L) (ρ (aLeft T R)) with w | w
      · have := (pl_lt ⟨r1, r2, r3⟩ hcp hs iL.1 hq.2.2.2.1).mp w
        omega
      · exact w
  have hsib : ∀ o, aHasC T o → aLeft T o = L → ρ o < ρ R → ¬ aSite T o = s := by
    intro o ho hl hr he
    have hin : inX X o := Or.inr (Or.inr ⟨ho.1, ho.2.2, hown o ho he⟩)
    have h1 := (y2 o ho).1
    rw [hl] at h1
    have := (pl_lt ⟨r1, r2, r3⟩ hcp hs iL.1 hin).mp h1
    have := (pl_lt ⟨r1, r2, r3⟩ hcp hs hin iR.1).mp hr
    omega
  by_cases hb : ∃ b, 0 ≤ b ∧ b < ((60 : Nat) : Int) ∧ (aHasC T b ∧ aLeft T b = L ∧ aSite T b < s ∧ ρ b < ρ R)
  · obtain ⟨b, b0, b1, ⟨b2, b3, b4, b5⟩, b6⟩ := fin_max ρ _ 60 hb
    have hbL := (y2 b b2).1
    rw [b3] at hbL
    -- the least behind b whose LEFT is ahead of b
    have hv : ∃ v, isR T v ∧ ρ b < ρ v ∧ (v = 60 ∨ (aHasC T v ∧ ρ (aLeft T v) < ρ b)) ∧ ∀ o, aHasC T o → ρ b < ρ o → ρ (aLeft T o) < ρ b → ρ v ≤ ρ o := by
      by_cases hq : ∃ v, 0 ≤ v ∧ v < ((60 : Nat) : Int) ∧ (aHasC T v ∧ ρ b < ρ v ∧ ρ (aLeft T v) < ρ b)
      · obtain ⟨v, v0, v1, ⟨v2, v3, v4⟩, v5⟩ := fin_max (fun x => - ρ x) _ 60 hq
        refine ⟨v, Or.inr (Or.inr v2), v3, Or.inr ⟨v2, v4⟩, fun o o1 o2 o3 => ?_⟩
        have h9 := v5 o o1.1 (by have := o1.2.2; omega) ⟨o1, o2, o3⟩
        omega
      · refine ⟨60, Or.inr (Or.inl rfl), (r2 b b2).2, Or.inl rfl, fun o o1 o2 o3 => ?_⟩
        exact absurd ⟨o, o1.1, (by have := o1.2.2; omega), o1, o2, o3⟩ hq
    obtain ⟨v, v1, v2, v3, v4⟩ := hv
    have hvR : ρ v ≤ ρ R := by
      rcases rR with w | w | w
      · rcases hR with ⟨u, u2⟩ | ⟨u, u2⟩
        · omega
        · have := (hcp.2.2.1 _ (by omega) u).1.1; omega
      · rw [w]
        rcases v1 with q | q | q
        · rw [q]; omega
        · rw [q]; exact Int.le_refl _
        · have := r2 v q; omega
      · refine v4 R w b5 ?_
        rcases hLR with u | u
        · have := w.2.2; omega
        · omega
    refine new_y0 (z := 2 * ρ v - 1) h hy hf rL rR (by omega) (by omega) (by omega) hLR ?_ ?_ ?_ ?_
    · intro o ho o1 o2
      rcases sj_lg (ρ o) (ρ b) with w | w
      · have := y1 b o b2 ho (by rw [b3]; exact o1) w
        rw [b3] at this
        exact this
      · by_cases he : o = b
        · rw [he, b3]; exact Int.le_refl _
        · have hne : ¬ ρ b = ρ o := fun q => he (r1 o b (Or.inr (Or.inr ho)) (Or.inr (Or.inr b2)) q.symm)
          rcases sj_lg (ρ (aLeft T o)) (ρ b) with u | u
          · have := v4 o ho (by omega) u; omega
          · omega
    · intro o ho o1 o2
      have hbo : ρ b < ρ o := by omega
      rcases sj_lg (ρ (aLeft T o)) (ρ b) with u | u
      · have := y1 o b ho b2 u hbo
        rw [b3] at this
        exact this
      · exfalso
        rcases v3 with q | ⟨q1, q2⟩
        · rw [q] at o2
          have := r2 o ho
          omega
        · by_cases he : o = v
          · rw [he] at u; omega
          · have hne : ¬ ρ v = ρ o := fun q => he (r1 o v (Or.inr (Or.inr ho)) v1 q.symm)
            have := y1 o v ho q1 (by omega) (by omega)
            omega
    · intro o ho o1 o2
      rcases sj_lg (ρ o) (ρ R) with w | w
      · right
        have h1 := hsib o ho o1 w
        rcases Int.lt_or_le (aSite T o) s with u | u
        · have := b6 o ho.1 (by have := ho.2.2; omega) ⟨ho, o1, u, w⟩
          omega
        · omega
      · exact Or.inl w
    · intro o ho o1 o2
      rcases sj_lg (ρ b) (ρ o) with w | w
      · have := v4 o ho w (by rw [o1]; omega)
        omega
      · by_cases he : o = b
        · rw [he]; exact Or.inr b4
        · have hne : ¬ ρ b = ρ o := fun q => he (r1 o b (Or.inr (Or.inr ho)) (Or.inr (Or.inr b2)) q.symm)
          rcases y3 o b ho b2 (by rw [o1, b3]) (by omega) with u | u
          · left; omega
          · right; omega
  · refine new_y0 (z := 2 * ρ L + 1) h hy hf rL rR (by omega) (by omega) (by omega) hLR ?_ ?_ ?_ ?_
    · intro o ho o1 o2; omega
    · intro o ho o1 o2; omega
    · intro o ho o1 o2
      rcases sj_lg (ρ o) (ρ R) with w | w
      · right
        have h1 := hsib o ho o1 w
        rcases Int.lt_or_le (aSite T o) s with u | u
        · exact absurd ⟨o, ho.1, (by have := ho.2.2; omega), ho, o1, u, w⟩ hb
        · omega
      · exact Or.inl w
    · intro o ho o1 o2
      have := (y2 o ho).1
      rw [o1] at this
      omega
