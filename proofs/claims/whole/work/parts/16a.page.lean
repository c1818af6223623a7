theorem start_inv {T : aS} {lt : Int → Int → Prop} {X : aS} (h : cInv T lt X) : cInv T lt (aStart X) := by
  obtain ⟨hcp, hs, hst, hcnt, h3⟩ := h
  have e0 : ∀ b, ¬ b = 5 → ¬ b = 6 → aStart X 0 b = X 0 b := by
    intro b h5 h6
    unfold aStart
    rw [up0_0, if_neg h6, up0_0, if_neg h5]
  have e6 : aStart X 0 6 = 0 := by unfold aStart; rw [up0_0, if_pos rfl]
  have e1 : aStart X 1 = X 1 := by unfold aStart; rw [up0_1, up0_1]
  have e2 : aStart X 2 = X 2 := by unfold aStart; rw [up0_2, up0_2]
  have e3 : aStart X 3 = X 3 := by unfold aStart; rw [up0_3, up0_3]
  have e4 : aStart X 4 = X 4 := by unfold aStart; rw [up0_4, up0_4]
  obtain ⟨n1, n2, n3, n4, n5⟩ := hcnt
  refine ⟨cpOK_of hcp (e0 0 (by omega) (by omega)) e1 e2, srtL_of hs (e0 0 (by omega) (by omega)) e1, stOK_of hst e2 e3 e4, ⟨?_, ?_, ?_, ?_, ?_⟩, ?_⟩
  · rw [e0 0 (by omega) (by omega), n1]; refine cn_congr 60 (fun q _ _ => ?_); unfold pres; rw [e2]
  · rw [e0 1 (by omega) (by omega), n2]; unfold nSeen; rw [e0 0 (by omega) (by omega), e1, e3]
  · rw [e0 2 (by omega) (by omega), n3, nSt_of e4]
  · rw [e6]; omega
  · rw [e6, e0 0 (by omega) (by omega)]; exact hcp.1
  · rw [e0 3 (by omega) (by omega), h3, nSt_of e4]
theorem end_inv {T : aS} {lt : Int → Int → Prop} {X : aS} (h : cInv T lt X) : cInv T lt (aEnd X) := by
  unfold aEnd
  split
  · obtain ⟨hcp, hs, hst, hcnt, h3⟩ := h
    have e0 : ∀ b, ¬ b = 4 → aUp X 0 4 (X 0 5) 0 b = X 0 b := by intro b hb; rw [up0_0, if_neg hb]
    refine ⟨cpOK_of hcp (e0 0 (by omega)) (up0_1 _ _ _) (up0_2 _ _ _), srtL_of hs (e0 0 (by omega)) (up0_1 _ _ _), stOK_of hst (up0_2 _ _ _) (up0_3 _ _ _) (up0_4 _ _ _), cntOK_of hcnt (e0 0 (by omega)) (e0 1 (by omega)) (e0 2 (by omega)) (e0 6 (by omega)) (up0_1 _ _ _) (up0_2 _ _ _) (up0_3 _ _ _) (up0_4 _ _ _), ?_⟩
    rw [e0 3 (by omega), h3, nSt_of (up0_4 _ _ _)]
  · exact h
/-- what a page keeps: its texts and its ten copies -/
def pInv (M : sjM) (lt : Nat → Int → Int → Prop) : Prop := (∀ i, i < 10 → tInv (vT M (tI i)) ∧ oOK (vT M (tI i)) (decide (tI i = 0)) (lt (tI i)) ∧ cInv (vT M (tI i)) (lt (tI i)) (vX M i))
abbrev okTS (x y : Int) : Prop := 0 ≤ x ∧ x < 2 ∧ 0 ≤ y ∧ y < 5
set_option maxHeartbeats 4000000 in
set_option maxRecDepth 100000 in
theorem kX3_copyAt {l : Launch} {D : va_G} {cI cZ cJ cT cC : ClassId} {ad : Nat → Nat} {A : Nat → Prop} (hD : ∀ g : Nat → va_E, va_D A (sjW 89 ad g)) (x y : Int) (hx : rng x) (hy : rng y) (M : sjM) (L : sjL)  : Met l yX3_copyAt wsX3_copyAt { frames := 0, cells := 0, slots := 0, locals := 0 } (sjA D cI cZ cJ cT cC 89 ad (kC cI cZ cJ cT cC ad) [.ref (ad 0), .int (iI x), .int (iI y)] M L) (sjZ D 89 ad (kC cI cZ cJ cT cC ad) A (fun v M' L' => M = M' ∧ L = L' ∧ ((okTS x y ∧ v = some (.ref (ad (29 + 5 * (x * 5 + y).toNat)))) ∨ (¬ okTS x y ∧ v = some .null)))) 0 0 A := by
  refine g_met (cc := cX3_copyAt) (maxL := 4) (ret := (some (.object "SharedPage$Copy"))) (lv := [_, _, _, _]) (by decide) rfl hD kC_loc (List.forall_mem_cons.mpr ⟨rfl, List.forall_mem_cons.mpr ⟨rfl, List.forall_mem_cons.mpr ⟨rfl, fun _ h => absurd h List.not_mem_nil⟩⟩⟩) (Nat.le_of_ble_eq_true rfl) rfl ?_
  intro J G
  have f17 : Cond.fieldLink RX3 17 "SharedPage" "copies" "[LSharedPage$Copy;" ∈ wsX3_copyAt := by decide +kernel
  have hinX3 : ∀ w ∈ u_ws RX3 TX3 7, w ∈ wsX3_copyAt := fun w h => List.mem_cons_of_mem _ (List.mem_append_right _ h)
  refine g_iload_n (pc := 0) G dX3_copyAt_0 rfl ?_
  refine g_if_lt (pc := 1) G (by first | assumption | omega) 18 dX3_copyAt_1 (by decide) (fun h1 => ?_) (fun h1 => ?_)
  · -- 1 t
    refine g_null (pc := 18) G dX3_copyAt_18 ?_
    refine g_aret (pc := 19) G (Or.inl ⟨_, rfl⟩) (Or.inl rfl) dX3_copyAt_19 ?_
    exact ⟨rfl, rfl, Or.inr ⟨by omega, rfl⟩⟩
  · -- 1 f
    refine g_iload_n (pc := 4) G dX3_copyAt_4 rfl ?_
    refine g_iconst (pc := 5) G dX3_copyAt_5 ?_
    refine g_icmp_ge (pc := 6) G (by first | assumption | omega) (by first | assumption | omega) 18 dX3_copyAt_6 (by decide) (fun h6 => ?_) (fun h6 => ?_)
    · -- 6 t
      refine g_null (pc := 18) G dX3_copyAt_18 ?_
      refine g_aret (pc := 19) G (Or.inl ⟨_, rfl⟩) (Or.inl rfl) dX3_copyAt_19 ?_
      exact ⟨rfl, rfl, Or.inr ⟨by omega, rfl⟩⟩
    · -- 6 f
      refine g_iload_n (pc := 9) G dX3_copyAt_9 rfl ?_
      refine g_if_lt (pc := 10) G (by first | assumption | omega) 18 dX3_copyAt_10 (by decide) (fun h10 => ?_) (fun h10 => ?_)
      · -- 10 t
        refine g_null (pc := 18) G dX3_copyAt_18 ?_
        refine g_aret (pc := 19) G (Or.inl ⟨_, rfl⟩) (Or.inl rfl) dX3_copyAt_19 ?_
        exact ⟨rfl, rfl, Or.inr ⟨by omega, rfl⟩⟩
      · -- 10 f
        refine g_iload_n (pc := 13) G dX3_copyAt_13 rfl ?_
        refine g_iconst (pc := 14) G dX3_copyAt_14 ?_
        refine g_icmp_lt (pc := 15) G (by first | assumption | omega) (by first | assumption | omega) 20 dX3_copyAt_15 (by decide) (fun h15 => ?_) (fun h15 => ?_)
        · -- 15 t
          refine g_iload_n (pc := 20) G dX3_copyAt_20 rfl ?_
          refine g_iconst (pc := 21) G dX3_copyAt_21 ?_
          refine g_imul (pc := 22) G dX3_copyAt_22 ?_
          refine g_iload_n (pc := 23) G dX3_copyAt_23 rfl ?_
          refine g_iadd (pc := 24) G dX3_copyAt_24 ?_
          refine g_istore_n (pc := 25) (lv' := [_, _, _, _]) G dX3_copyAt_25 (by decide) rfl ?_
          refine g_iload_n (pc := 26) G dX3_copyAt_26 rfl ?_
          refine g_aload_n (pc := 27) G dX3_copyAt_27 rfl ?_
          refine g_getR (pc := 28) G hinX3 oPage rfl 1 (by decide) f17 rfl rfl dX3_copyAt_28 ?_
          refine g_alenR (pc := 31) G 4 rfl aCopies dX3_copyAt_31 ?_
          refine g_icmp_ge (pc := 32) G (by first | assumption | omega) (by first | assumption | omega) 44 dX3_copyAt_32 (by decide) (fun h32 => ?_) (fun h32 => ?_)
          · -- 32 t
            exfalso
            omega
          · -- 32 f
            refine g_aload_n (pc := 35) G dX3_copyAt_35 rfl ?_
            refine g_getR (pc := 36) G hinX3 oPage rfl 1 (by decide) f17 rfl rfl dX3_copyAt_36 ?_
            refine g_iload_n (pc := 39) G dX3_copyAt_39 rfl ?_
            refine g_aald (pc := 40) G 4 rfl aCopies (by omega) dX3_copyAt_40 ?_
            refine g_goto (pc := 41) G 45 dX3_copyAt_41 (by decide) ?_
            refine g_aret (pc := 45) G (Or.inl ⟨_, rfl⟩) (Or.inr ⟨_, rfl⟩) dX3_copyAt_45 ?_
            exact ⟨rfl, rfl, Or.inl ⟨⟨by omega, by omega, by omega, by omega⟩, rfl⟩⟩
        · -- 15 f
          refine g_null (pc := 18) G dX3_copyAt_18 ?_
          refine g_aret (pc := 19) G (Or.inl ⟨_, rfl⟩) (Or.inl rfl) dX3_copyAt_19 ?_
          exact ⟨rfl, rfl, Or.inr ⟨by omega, rfl⟩⟩
set_option maxHeartbeats 4000000 in
set_option maxRecDepth 100000 in
theorem kX3_textAt {l : Launch} {D : va_G} {cI cZ cJ cT cC : ClassId} {ad : Nat → Nat} {A : Nat → Prop} (hD : ∀ g : Nat → va_E, va_D A (sjW 89 ad g)) (x : Int) (hx : rng x) (M : sjM) (L : sjL)  : Met l yX3_textAt wsX3_textAt { frames := 0, cells := 0, slots := 0, locals := 0 } (sjA D cI cZ cJ cT cC 89 ad (kC cI cZ cJ cT cC ad) [.ref (ad 0), .int (iI x)] M L) (sjZ D 89 ad (kC cI cZ cJ cT cC ad) A (fun v M' L' => M = M' ∧ L = L' ∧ (((0 ≤ x ∧ x < 2) ∧ v = some (.ref (ad (9 + 10 * x.toNat)))) ∨ (¬ (0 ≤ x ∧ x < 2) ∧ v = some .null)))) 0 0 A := by
  refine g_met (cc := cX3_textAt) (maxL := 2) (ret := (some (.object "SharedPage$Text"))) (lv := [_, _]) (by decide) rfl hD kC_loc (List.forall_mem_cons.mpr ⟨rfl, List.forall_mem_cons.mpr ⟨rfl, fun _ h => absurd h List.not_mem_nil⟩⟩) (Nat.le_of_ble_eq_true rfl) rfl ?_
  intro J G
  have f11 : Cond.fieldLink RX3 11 "SharedPage" "texts" "[LSharedPage$Text;" ∈ wsX3_textAt := by decide +kernel
  have hinX3 : ∀ w ∈ u_ws RX3 TX3 7, w ∈ wsX3_textAt := fun w h => List.mem_cons_of_mem _ (List.mem_append_right _ h)
  refine g_iload_n (pc := 0) G dX3_textAt_0 rfl ?_
  refine g_if_lt (pc := 1) G (by first | assumption | omega) 22 dX3_textAt_1 (by decide) (fun h1 => ?_) (fun h1 => ?_)
  · -- 1 t
    refine g_null (pc := 22) G dX3_textAt_22 ?_
    refine g_aret (pc := 23) G (Or.inl ⟨_, rfl⟩) (Or.inl rfl) dX3_textAt_23 ?_
    exact ⟨rfl, rfl, Or.inr ⟨by omega, rfl⟩⟩
  · -- 1 f
    refine g_iload_n (pc := 4) G dX3_textAt_4 rfl ?_
    refine g_aload_n (pc := 5) G dX3_textAt_5 rfl ?_
    refine g_getR (pc := 6) G hinX3 oPage rfl 0 (by decide) f11 rfl rfl dX3_textAt_6 ?_
    refine g_alenR (pc := 9) G 3 rfl aTexts dX3_textAt_9 ?_
    refine g_icmp_ge (pc := 10) G (by first | assumption | omega) (by first | assumption | omega) 22 dX3_textAt_10 (by decide) (fun h10 => ?_) (fun h10 => ?_)
    · -- 10 t
      refine g_null (pc := 22) G dX3_textAt_22 ?_
      refine g_aret (pc := 23) G (Or.inl ⟨_, rfl⟩) (Or.inl rfl) dX3_textAt_23 ?_
      exact ⟨rfl, rfl, Or.inr ⟨by omega, rfl⟩⟩
    · -- 10 f
      refine g_aload_n (pc := 13) G dX3_textAt_13 rfl ?_
      refine g_getR (pc := 14) G hinX3 oPage rfl 0 (by decide) f11 rfl rfl dX3_textAt_14 ?_
      refine g_iload_n (pc := 17) G dX3_textAt_17 rfl ?_
      refine g_aald (pc := 18) G 3 rfl aTexts (by omega) dX3_textAt_18 ?_
      refine g_goto (pc := 19) G 23 dX3_textAt_19 (by decide) ?_
      refine g_aret (pc := 23) G (Or.inl ⟨_, rfl⟩) (Or.inr ⟨_, rfl⟩) dX3_textAt_23 ?_
      exact ⟨rfl, rfl, Or.inl ⟨⟨by omega, by omega⟩, rfl⟩⟩
set_option maxHeartbeats 4000000 in
set_option maxRecDepth 100000 in
theorem kX3_spareOf {l : Launch} {D : va_G} {cI cZ cJ cT cC : ClassId} {ad : Nat → Nat} {A : Nat → Prop} (hD : ∀ g : Nat → va_E, va_D A (sjW 89 ad g)) (x : Int) (hx : rng x) (M : sjM) (L : sjL)  : Met l yX3_spareOf wsX3_spareOf { frames := 0, cells := 0, slots := 0, locals := 0 } (sjA D cI cZ cJ cT cC 89 ad (kC cI cZ cJ cT cC ad) [.ref (ad 0), .int (iI x)] M L) (sjZ D 89 ad (kC cI cZ cJ cT cC ad) A (fun v M' L' => M = M' ∧ L = L' ∧ (((0 ≤ x ∧ x < 2) ∧ v = some (.ref (ad (29 + 5 * (10 + x.toNat))))) ∨ (¬ (0 ≤ x ∧ x < 2) ∧ v = some .null)))) 0 0 A := by
  refine g_met (cc := cX3_spareOf) (maxL := 2) (ret := (some (.object "SharedPage$Copy"))) (lv := [_, _]) (by decide) rfl hD kC_loc (List.forall_mem_cons.mpr ⟨rfl, List.forall_mem_cons.mpr ⟨rfl, fun _ h => absurd h List.not_mem_nil⟩⟩) (Nat.le_of_ble_eq_true rfl) rfl ?_
  intro J G
  have f21 : Cond.fieldLink RX3 21 "SharedPage" "spares" "[LSharedPage$Copy;" ∈ wsX3_spareOf := by decide +kernel
  have hinX3 : ∀ w ∈ u_ws RX3 TX3 7, w ∈ wsX3_spareOf := fun w h => List.mem_cons_of_mem _ (List.mem_append_right _ h)
  refine g_iload_n (pc := 0) G dX3_spareOf_0 rfl ?_
  refine g_if_lt (pc := 1) G (by first | assumption | omega) 22 dX3_spareOf_1 (by decide) (fun h1 => ?_) (fun h1 => ?_)
  · -- 1 t
    refine g_null (pc := 22) G dX3_spareOf_22 ?_
    refine g_aret (pc := 23) G (Or.inl ⟨_, rfl⟩) (Or.inl rfl) dX3_spareOf_23 ?_
    exact ⟨rfl, rfl, Or.inr ⟨by omega, rfl⟩⟩
  · -- 1 f
    refine g_iload_n (pc := 4) G dX3_spareOf_4 rfl ?_
    refine g_aload_n (pc := 5) G dX3_spareOf_5 rfl ?_
    refine g_getR (pc := 6) G hinX3 oPage rfl 2 (by decide) f21 rfl rfl dX3_spareOf_6 ?_
    refine g_alenR (pc := 9) G 4 rfl aSpares dX3_spareOf_9 ?_
    refine g_icmp_ge (pc := 10) G (by first | assumption | omega) (by first | assumption | omega) 22 dX3_spareOf_10 (by decide) (fun h10 => ?_) (fun h10 => ?_)
    · -- 10 t
      refine g_null (pc := 22) G dX3_spareOf_22 ?_
      refine g_aret (pc := 23) G (Or.inl ⟨_, rfl⟩) (Or.inl rfl) dX3_spareOf_23 ?_
      exact ⟨rfl, rfl, Or.inr ⟨by omega, rfl⟩⟩
    · -- 10 f
      refine g_aload_n (pc := 13) G dX3_spareOf_13 rfl ?_
      refine g_getR (pc := 14) G hinX3 oPage rfl 2 (by decide) f21 rfl rfl dX3_spareOf_14 ?_
      refine g_iload_n (pc := 17) G dX3_spareOf_17 rfl ?_
      refine g_aald (pc := 18) G 4 rfl aSpares (by omega) dX3_spareOf_18 ?_
      refine g_goto (pc := 19) G 23 dX3_spareOf_19 (by decide) ?_
      refine g_aret (pc := 23) G (Or.inl ⟨_, rfl⟩) (Or.inr ⟨_, rfl⟩) dX3_spareOf_23 ?_
      exact ⟨rfl, rfl, Or.inl ⟨⟨by omega, by omega⟩, rfl⟩⟩
set_option maxHeartbeats 4000000 in
set_option maxRecDepth 100000 in
theorem kX3_out {l : Launch} {D : va_G} {cI cZ cJ cT cC : ClassId} {ad : Nat → Nat} {A : Nat → Prop} (hD : ∀ g : Nat → va_E, va_D A (sjW 89 ad g)) (x : Int) (hx : rng x) (M : sjM) (L : sjL)  : Met l yX3_out wsX3_out { frames := 0, cells := 0, slots := 0, locals := 0 } (sjA D cI cZ cJ cT cC 89 ad (kC cI cZ cJ cT cC ad) [.ref (ad 0), .int (iI x)] M L) (sjZ D 89 ad (kC cI cZ cJ cT cC ad) A (fun v M' L' => M = M' ∧ L = L' ∧ v = some (.int (iI (if 0 ≤ x ∧ x < (M 0 0).toInt ∧ x < 60 then (M 8 x).toInt else -1))))) 0 0 A := by
  refine g_met (cc := cX3_out) (maxL := 2) (ret := (some .int)) (lv := [_, _]) (by decide) rfl hD kC_loc (List.forall_mem_cons.mpr ⟨rfl, List.forall_mem_cons.mpr ⟨rfl, fun _ h => absurd h List.not_mem_nil⟩⟩) (Nat.le_of_ble_eq_true rfl) rfl ?_
  intro J G
  have f41 : Cond.fieldLink RX3 41 "SharedPage" "written" "[I" ∈ wsX3_out := by decide +kernel
  have f44 : Cond.fieldLink RX3 44 "SharedPage" "writtenLength" "I" ∈ wsX3_out := by decide +kernel
  have hinX3 : ∀ w ∈ u_ws RX3 TX3 7, w ∈ wsX3_out := fun w h => List.mem_cons_of_mem _ (List.mem_append_right _ h)
  refine g_iload_n (pc := 0) G dX3_out_0 rfl ?_
  refine g_if_lt (pc := 1) G (by first | assumption | omega) 21 dX3_out_1 (by decide) (fun h1 => ?_) (fun h1 => ?_)
  · -- 1 t
    refine g_iconst (pc := 21) G dX3_out_21 ?_
    refine g_iret (pc := 22) G dX3_out_22 ?_
    refine ⟨rfl, rfl, ?_⟩
    split <;> first | rfl | omega
  · -- 1 f
    refine g_iload_n (pc := 4) G dX3_out_4 rfl ?_
    refine g_aload_n (pc := 5) G dX3_out_5 rfl ?_
    refine g_getI (pc := 6) G hinX3 oPage rfl 6 (by decide) f44 rfl rfl dX3_out_6 ?_
    refine g_icmp_ge (pc := 9) G (by first | assumption | omega) (rg _) 21 dX3_out_9 (by decide) (fun h9 => ?_) (fun h9 => ?_)
    · -- 9 t
      refine g_iconst (pc := 21) G dX3_out_21 ?_
      refine g_iret (pc := 22) G dX3_out_22 ?_
      refine ⟨rfl, rfl, ?_⟩
      split <;> first | rfl | omega
    · -- 9 f
      refine g_iload_n (pc := 12) G dX3_out_12 rfl ?_
      refine g_aload_n (pc := 13) G dX3_out_13 rfl ?_
      refine g_getR (pc := 14) G hinX3 oPage rfl 5 (by decide) f41 rfl rfl dX3_out_14 ?_
      refine g_alenI (pc := 17) G aWritten dX3_out_17 ?_
      refine g_icmp_lt (pc := 18) G (by first | assumption | omega) (by first | assumption | omega) 23 dX3_out_18 (by decide) (fun h18 => ?_) (fun h18 => ?_)
      · -- 18 t
        refine g_aload_n (pc := 23) G dX3_out_23 rfl ?_
        refine g_getR (pc := 24) G hinX3 oPage rfl 5 (by decide) f41 rfl rfl dX3_out_24 ?_
        refine g_iload_n (pc := 27) G dX3_out_27 rfl ?_
        refine g_iald (pc := 28) G aWritten (by omega) dX3_out_28 ?_
        refine g_iret (pc := 29) G dX3_out_29 ?_
        refine ⟨rfl, rfl, ?_⟩
        split <;> first | rfl | omega
      · -- 18 f
        refine g_iconst (pc := 21) G dX3_out_21 ?_
        refine g_iret (pc := 22) G dX3_out_22 ?_
        refine ⟨rfl, rfl, ?_⟩
        split <;> first | rfl | omega
