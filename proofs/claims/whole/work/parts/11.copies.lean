set_option maxHeartbeats 4000000 in
set_option maxRecDepth 100000 in
theorem kX0_spans {l : Launch} {D : va_G} {cI cZ cJ cT cC : ClassId} {ad : Nat → Nat} {A : Nat → Prop} (hD : ∀ g : Nat → va_E, va_D A (sjW 89 ad g)) (i : Nat) (hi : i < 12) (o a b : Int) (ho : rng o) (ha : rng a) (hb : rng b) (M : sjM) (L : sjL)  : Met l yX0_spans wsX0_spans { frames := 2, cells := 0, slots := 0, locals := 42 } (sjA D cI cZ cJ cT cC 89 ad (kC cI cZ cJ cT cC ad) [.ref (ad (29 + 5 * i)), .int (iI o), .int (iI a), .int (iI b)] M L) (sjZ D 89 ad (kC cI cZ cJ cT cC ad) A (fun v M' L' => M = M' ∧ L = L' ∧ v = some (.int (iI (if aSpans (vT M (tI i)) (vX M i) o a b then 1 else 0))))) 0 0 A := by
  refine g_met (cc := cX0_spans) (maxL := 4) (ret := (some .boolean)) (lv := [_, _, _, _]) (by decide) rfl hD kC_loc (List.forall_mem_cons.mpr ⟨rfl, List.forall_mem_cons.mpr ⟨rfl, List.forall_mem_cons.mpr ⟨rfl, List.forall_mem_cons.mpr ⟨rfl, fun _ h => absurd h List.not_mem_nil⟩⟩⟩⟩) (Nat.le_of_ble_eq_true rfl) rfl ?_
  intro J G
  have f9 : Cond.fieldLink RX0 9 "SharedPage$Copy" "text" "LSharedPage$Text;" ∈ wsX0_spans := by decide +kernel
  have hinX0 : ∀ w ∈ u_ws RX0 TX0 12, w ∈ wsX0_spans := fun w h => List.mem_cons_of_mem _ (List.mem_append_left _ (List.mem_append_right _ h))
  refine g_aload_n (pc := 0) G dX0_spans_0 rfl ?_
  refine g_aload_n (pc := 1) G dX0_spans_1 rfl ?_
  refine g_getR (pc := 2) G hinX0 (oCopy i hi) rfl 0 (by decide) f9 rfl rfl dX0_spans_2 ?_
  refine g_iload_n (pc := 5) G dX0_spans_5 rfl ?_
  refine g_call (pc := 6) (n := 1) (As := [_]) G (kX2_leftOf hD (tI i) (tI_lt i) (o) (ho) M L) gX0_spans_X2_leftOf (oText _ (tI_lt i)) rfl rfl hdX2_leftOf rfl rfl ⟨Nat.le_of_ble_eq_true rfl, Nat.le_of_ble_eq_true rfl⟩ rfl rfl (Nat.le_of_ble_eq_true rfl) dX0_spans_6 ?_
  rintro _ _ _ ⟨rfl, rfl, rfl⟩
  refine g_call (pc := 9) (n := 1) (As := [_]) G (kX0_placeOf hD i hi (_) (rg_left _ _ _) M L) gX0_spans_X0_placeOf (oCopy i hi) rfl rfl hdX0_placeOf rfl rfl ⟨Nat.le_of_ble_eq_true rfl, Nat.le_of_ble_eq_true rfl⟩ rfl rfl (Nat.le_of_ble_eq_true rfl) dX0_spans_9 ?_
  rintro _ _ _ ⟨rfl, rfl, rfl⟩
  refine g_iload_n (pc := 12) G dX0_spans_12 rfl ?_
  refine g_icmp_gt (pc := 13) G (rg_pl _ _ _) (by first | assumption | omega) 36 dX0_spans_13 (by decide) (fun h13 => ?_) (fun h13 => ?_)
  · -- 13 t
    refine g_iconst (pc := 36) G dX0_spans_36 ?_
    refine g_zret (pc := 37) G rfl dX0_spans_37 ?_
    refine ⟨rfl, rfl, ?_⟩
    split <;> first | rfl | (exfalso; omega)
  · -- 13 f
    refine g_aload_n (pc := 16) G dX0_spans_16 rfl ?_
    refine g_aload_n (pc := 17) G dX0_spans_17 rfl ?_
    refine g_getR (pc := 18) G hinX0 (oCopy i hi) rfl 0 (by decide) f9 rfl rfl dX0_spans_18 ?_
    refine g_iload_n (pc := 21) G dX0_spans_21 rfl ?_
    refine g_call (pc := 22) (n := 1) (As := [_]) G (kX2_rightOf hD (tI i) (tI_lt i) (o) (ho) M L) gX0_spans_X2_rightOf (oText _ (tI_lt i)) rfl rfl hdX2_rightOf rfl rfl ⟨Nat.le_of_ble_eq_true rfl, Nat.le_of_ble_eq_true rfl⟩ rfl rfl (Nat.le_of_ble_eq_true rfl) dX0_spans_22 ?_
    rintro _ _ _ ⟨rfl, rfl, rfl⟩
    refine g_call (pc := 25) (n := 1) (As := [_]) G (kX0_placeOf hD i hi (_) (rg_right _ _ _) M L) gX0_spans_X0_placeOf (oCopy i hi) rfl rfl hdX0_placeOf rfl rfl ⟨Nat.le_of_ble_eq_true rfl, Nat.le_of_ble_eq_true rfl⟩ rfl rfl (Nat.le_of_ble_eq_true rfl) dX0_spans_25 ?_
    rintro _ _ _ ⟨rfl, rfl, rfl⟩
    refine g_iload_n (pc := 28) G dX0_spans_28 rfl ?_
    refine g_icmp_lt (pc := 29) G (rg_pl _ _ _) (by first | assumption | omega) 36 dX0_spans_29 (by decide) (fun h29 => ?_) (fun h29 => ?_)
    · -- 29 t
      refine g_iconst (pc := 36) G dX0_spans_36 ?_
      refine g_zret (pc := 37) G rfl dX0_spans_37 ?_
      refine ⟨rfl, rfl, ?_⟩
      split <;> first | rfl | (exfalso; omega)
    · -- 29 f
      refine g_iconst (pc := 32) G dX0_spans_32 ?_
      refine g_goto (pc := 33) G 37 dX0_spans_33 (by decide) ?_
      refine g_zret (pc := 37) G rfl dX0_spans_37 ?_
      refine ⟨rfl, rfl, ?_⟩
      split <;> first | rfl | (exfalso; omega)
set_option maxHeartbeats 4000000 in
set_option maxRecDepth 100000 in
theorem kX0_canBeDone {l : Launch} {D : va_G} {cI cZ cJ cT cC : ClassId} {ad : Nat → Nat} {A : Nat → Prop} (hD : ∀ g : Nat → va_E, va_D A (sjW 89 ad g)) (i : Nat) (hi : i < 12) (k : Int) (hk : rng k) (M : sjM) (L : sjL)  : Met l yX0_canBeDone wsX0_canBeDone { frames := 2, cells := 0, slots := 0, locals := 42 } (sjA D cI cZ cJ cT cC 89 ad (kC cI cZ cJ cT cC ad) [.ref (ad (29 + 5 * i)), .int (iI k)] M L) (sjZ D 89 ad (kC cI cZ cJ cT cC ad) A (fun v M' L' => M = M' ∧ L = L' ∧ v = some (.int (iI (if aCan (vT M (tI i)) (vX M i) k then 1 else 0))))) 0 0 A := by
  refine g_met (cc := cX0_canBeDone) (maxL := 3) (ret := (some .boolean)) (lv := [_, _, _]) (by decide) rfl hD kC_loc (List.forall_mem_cons.mpr ⟨rfl, List.forall_mem_cons.mpr ⟨rfl, fun _ h => absurd h List.not_mem_nil⟩⟩) (Nat.le_of_ble_eq_true rfl) rfl ?_
  intro J G
  have f9 : Cond.fieldLink RX0 9 "SharedPage$Copy" "text" "LSharedPage$Text;" ∈ wsX0_canBeDone := by decide +kernel
  have hinX0 : ∀ w ∈ u_ws RX0 TX0 12, w ∈ wsX0_canBeDone := fun w h => List.mem_cons_of_mem _ (List.mem_append_left _ (List.mem_append_right _ h))
  refine g_aload_n (pc := 0) G dX0_canBeDone_0 rfl ?_
  refine g_getR (pc := 1) G hinX0 (oCopy i hi) rfl 0 (by decide) f9 rfl rfl dX0_canBeDone_1 ?_
  refine g_iload_n (pc := 4) G dX0_canBeDone_4 rfl ?_
  refine g_call (pc := 5) (n := 1) (As := [_]) G (kX2_subjectOf hD (tI i) (tI_lt i) (k) (hk) M L) gX0_canBeDone_X2_subjectOf (oText _ (tI_lt i)) rfl rfl hdX2_subjectOf rfl rfl ⟨Nat.le_of_ble_eq_true rfl, Nat.le_of_ble_eq_true rfl⟩ rfl rfl (Nat.le_of_ble_eq_true rfl) dX0_canBeDone_5 ?_
  rintro _ _ _ ⟨rfl, rfl, rfl⟩
  refine g_istore_n (pc := 8) (lv' := [_, _, _]) G dX0_canBeDone_8 (by decide) rfl ?_
  refine g_aload_n (pc := 9) G dX0_canBeDone_9 rfl ?_
  refine g_getR (pc := 10) G hinX0 (oCopy i hi) rfl 0 (by decide) f9 rfl rfl dX0_canBeDone_10 ?_
  refine g_iload_n (pc := 13) G dX0_canBeDone_13 rfl ?_
  refine g_call (pc := 14) (n := 1) (As := [_]) G (kX2_kindOf hD (tI i) (tI_lt i) (k) (hk) M L) gX0_canBeDone_X2_kindOf (oText _ (tI_lt i)) rfl rfl hdX2_kindOf rfl rfl ⟨Nat.le_of_ble_eq_true rfl, Nat.le_of_ble_eq_true rfl⟩ rfl rfl (Nat.le_of_ble_eq_true rfl) dX0_canBeDone_14 ?_
  rintro _ _ _ ⟨rfl, rfl, rfl⟩
  refine g_iconst (pc := 17) G dX0_canBeDone_17 ?_
  refine g_icmp_ne (pc := 18) G (rg_kind _ _ _) (by first | assumption | omega) 37 dX0_canBeDone_18 (by decide) (fun h18 => ?_) (fun h18 => ?_)
  · -- 18 t
    refine g_aload_n (pc := 37) G dX0_canBeDone_37 rfl ?_
    refine g_aload_n (pc := 38) G dX0_canBeDone_38 rfl ?_
    refine g_getR (pc := 39) G hinX0 (oCopy i hi) rfl 0 (by decide) f9 rfl rfl dX0_canBeDone_39 ?_
    refine g_iload_n (pc := 42) G dX0_canBeDone_42 rfl ?_
    refine g_call (pc := 43) (n := 1) (As := [_]) G (kX2_leftOf hD (tI i) (tI_lt i) (_) (rg_subj _ _ _) M L) gX0_canBeDone_X2_leftOf (oText _ (tI_lt i)) rfl rfl hdX2_leftOf rfl rfl ⟨Nat.le_of_ble_eq_true rfl, Nat.le_of_ble_eq_true rfl⟩ rfl rfl (Nat.le_of_ble_eq_true rfl) dX0_canBeDone_43 ?_
    rintro _ _ _ ⟨rfl, rfl, rfl⟩
    refine g_call (pc := 46) (n := 1) (As := [_]) G (kX0_placeOf hD i hi (_) (rg_left _ _ _) M L) gX0_canBeDone_X0_placeOf (oCopy i hi) rfl rfl hdX0_placeOf rfl rfl ⟨Nat.le_of_ble_eq_true rfl, Nat.le_of_ble_eq_true rfl⟩ rfl rfl (Nat.le_of_ble_eq_true rfl) dX0_canBeDone_46 ?_
    rintro _ _ _ ⟨rfl, rfl, rfl⟩
    refine g_bipush (pc := 49) G dX0_canBeDone_49 rfl ?_
    refine g_icmp_eq (pc := 51) G (rg_pl _ _ _) (by first | assumption | omega) 75 dX0_canBeDone_51 (by decide) (fun h51 => ?_) (fun h51 => ?_)
    · -- 51 t
      refine g_iconst (pc := 75) G dX0_canBeDone_75 ?_
      refine g_zret (pc := 76) G rfl dX0_canBeDone_76 ?_
      refine ⟨rfl, rfl, ?_⟩
      split <;> first | rfl | (exfalso; omega)
    · -- 51 f
      refine g_aload_n (pc := 54) G dX0_canBeDone_54 rfl ?_
      refine g_aload_n (pc := 55) G dX0_canBeDone_55 rfl ?_
      refine g_getR (pc := 56) G hinX0 (oCopy i hi) rfl 0 (by decide) f9 rfl rfl dX0_canBeDone_56 ?_
      refine g_iload_n (pc := 59) G dX0_canBeDone_59 rfl ?_
      refine g_call (pc := 60) (n := 1) (As := [_]) G (kX2_rightOf hD (tI i) (tI_lt i) (_) (rg_subj _ _ _) M L) gX0_canBeDone_X2_rightOf (oText _ (tI_lt i)) rfl rfl hdX2_rightOf rfl rfl ⟨Nat.le_of_ble_eq_true rfl, Nat.le_of_ble_eq_true rfl⟩ rfl rfl (Nat.le_of_ble_eq_true rfl) dX0_canBeDone_60 ?_
      rintro _ _ _ ⟨rfl, rfl, rfl⟩
      refine g_call (pc := 63) (n := 1) (As := [_]) G (kX0_placeOf hD i hi (_) (rg_right _ _ _) M L) gX0_canBeDone_X0_placeOf (oCopy i hi) rfl rfl hdX0_placeOf rfl rfl ⟨Nat.le_of_ble_eq_true rfl, Nat.le_of_ble_eq_true rfl⟩ rfl rfl (Nat.le_of_ble_eq_true rfl) dX0_canBeDone_63 ?_
      rintro _ _ _ ⟨rfl, rfl, rfl⟩
      refine g_bipush (pc := 66) G dX0_canBeDone_66 rfl ?_
      refine g_icmp_eq (pc := 68) G (rg_pl _ _ _) (by first | assumption | omega) 75 dX0_canBeDone_68 (by decide) (fun h68 => ?_) (fun h68 => ?_)
      · -- 68 t
        refine g_iconst (pc := 75) G dX0_canBeDone_75 ?_
        refine g_zret (pc := 76) G rfl dX0_canBeDone_76 ?_
        refine ⟨rfl, rfl, ?_⟩
        split <;> first | rfl | (exfalso; omega)
      · -- 68 f
        refine g_iconst (pc := 71) G dX0_canBeDone_71 ?_
        refine g_goto (pc := 72) G 76 dX0_canBeDone_72 (by decide) ?_
        refine g_zret (pc := 76) G rfl dX0_canBeDone_76 ?_
        refine ⟨rfl, rfl, ?_⟩
        split <;> first | rfl | (exfalso; omega)
  · -- 18 f
    refine g_aload_n (pc := 21) G dX0_canBeDone_21 rfl ?_
    refine g_iload_n (pc := 22) G dX0_canBeDone_22 rfl ?_
    refine g_call (pc := 23) (n := 1) (As := [_]) G (kX0_placeOf hD i hi (_) (rg_subj _ _ _) M L) gX0_canBeDone_X0_placeOf (oCopy i hi) rfl rfl hdX0_placeOf rfl rfl ⟨Nat.le_of_ble_eq_true rfl, Nat.le_of_ble_eq_true rfl⟩ rfl rfl (Nat.le_of_ble_eq_true rfl) dX0_canBeDone_23 ?_
    rintro _ _ _ ⟨rfl, rfl, rfl⟩
    refine g_bipush (pc := 26) G dX0_canBeDone_26 rfl ?_
    refine g_icmp_eq (pc := 28) G (rg_pl _ _ _) (by first | assumption | omega) 35 dX0_canBeDone_28 (by decide) (fun h28 => ?_) (fun h28 => ?_)
    · -- 28 t
      refine g_iconst (pc := 35) G dX0_canBeDone_35 ?_
      refine g_zret (pc := 36) G rfl dX0_canBeDone_36 ?_
      refine ⟨rfl, rfl, ?_⟩
      split <;> first | rfl | (exfalso; omega)
    · -- 28 f
      refine g_iconst (pc := 31) G dX0_canBeDone_31 ?_
      refine g_goto (pc := 32) G 36 dX0_canBeDone_32 (by decide) ?_
      refine g_zret (pc := 36) G rfl dX0_canBeDone_36 ?_
      refine ⟨rfl, rfl, ?_⟩
      split <;> first | rfl | (exfalso; omega)
set_option maxHeartbeats 4000000 in
set_option maxRecDepth 100000 in
theorem kX0_leastReady {l : Launch} {D : va_G} {cI cZ cJ cT cC : ClassId} {ad : Nat → Nat} {A : Nat → Prop} (hD : ∀ g : Nat → va_E, va_D A (sjW 89 ad g)) (i : Nat) (hi : i < 12) (M : sjM) (L : sjL)  : Met l yX0_leastReady wsX0_leastReady { frames := 3, cells := 0, slots := 0, locals := 64 } (sjA D cI cZ cJ cT cC 89 ad (kC cI cZ cJ cT cC ad) [.ref (ad (29 + 5 * i))] M L) (sjZ D 89 ad (kC cI cZ cJ cT cC ad) A (fun v M' L' => M = M' ∧ L = L' ∧ v = some (.int (iI (aReady (vT M (tI i)) (vX M i)))))) 0 0 A := by
  refine g_met (cc := cX0_leastReady) (maxL := 2) (ret := (some .int)) (lv := [_, _]) (by decide) rfl hD kC_loc (List.forall_mem_cons.mpr ⟨rfl, fun _ h => absurd h List.not_mem_nil⟩) (Nat.le_of_ble_eq_true rfl) rfl ?_
  intro J G
  have f9 : Cond.fieldLink RX0 9 "SharedPage$Copy" "text" "LSharedPage$Text;" ∈ wsX0_leastReady := by decide +kernel
  have f42 : Cond.fieldLink RX0 42 "SharedPage$Copy" "waiting" "I" ∈ wsX0_leastReady := by decide +kernel
  have f85 : Cond.fieldLink RX0 85 "SharedPage$Text" "messages" "I" ∈ wsX0_leastReady := by decide +kernel
  have hinX0 : ∀ w ∈ u_ws RX0 TX0 12, w ∈ wsX0_leastReady := fun w h => List.mem_cons_of_mem _ (List.mem_append_left _ (List.mem_append_right _ h))
  have hinX2 : ∀ w ∈ u_ws RX2 TX2 13, w ∈ wsX0_leastReady := fun w h => List.mem_cons_of_mem _ (List.mem_append_right _ h)
  have hms := rg (M (9 + 10 * tI i) 1)
  have loop : ∀ (n : Nat) (k : Int), 0 ≤ k → k ≤ 2147483647 → ((M (9 + 10 * tI i) 1).toInt - k).toNat < n → aReadyF (vT M (tI i)) (vX M i) ((M (9 + 10 * tI i) 1).toInt - k).toNat k = aReady (vT M (tI i)) (vX M i) → J 11 M L [some (.ref (ad (29 + 5 * i))), some (.int (iI k))] [] := by
    intro n
    induction n with
    | zero => intro k _ _ h; omega
    | succ n ih =>
      intro k hk0 hk1 hn hR
      refine g_iload_n (pc := 11) G dX0_leastReady_11 rfl ?_
      refine g_aload_n (pc := 12) G dX0_leastReady_12 rfl ?_
      refine g_getR (pc := 13) G hinX0 (oCopy i hi) rfl 0 (by decide) f9 rfl rfl dX0_leastReady_13 ?_
      refine g_getI (pc := 16) G hinX2 (oText _ (tI_lt i)) rfl 11 (by decide) f85 rfl rfl dX0_leastReady_16 ?_
      refine g_icmp_ge (pc := 19) G (by first | assumption | omega) (rg _) 47 dX0_leastReady_19 (by decide) (fun h19 => ?_) (fun h19 => ?_)
      · -- 19 t
        rw [show ((M (9 + 10 * tI i) 1).toInt - k).toNat = 0 by omega, aReadyF] at hR
        refine g_iconst G dX0_leastReady_47 ?_
        refine g_iret G dX0_leastReady_48 ?_
        exact ⟨rfl, rfl, by rw [← hR]⟩
      · -- 19 f
        rw [show ((M (9 + 10 * tI i) 1).toInt - k).toNat = ((M (9 + 10 * tI i) 1).toInt - (k + 1)).toNat + 1 by omega, aReadyF] at hR
        --go
        refine g_aload_n (pc := 22) G dX0_leastReady_22 rfl ?_
        refine g_iload_n (pc := 23) G dX0_leastReady_23 rfl ?_
        refine g_call (pc := 24) (n := 1) (As := [_]) G (kX0_stateOf hD i hi (k) (⟨by omega, by omega⟩) M L) gX0_leastReady_X0_stateOf (oCopy i hi) rfl rfl hdX0_stateOf rfl rfl ⟨Nat.le_of_ble_eq_true rfl, Nat.le_of_ble_eq_true rfl⟩ rfl rfl (Nat.le_of_ble_eq_true rfl) dX0_leastReady_24 ?_
        rintro _ _ _ ⟨rfl, rfl, rfl⟩
        refine g_iconst (pc := 27) G dX0_leastReady_27 ?_
        refine g_icmp_ne (pc := 28) G (rg_st _ _ _) (by first | assumption | omega) 41 dX0_leastReady_28 (by decide) (fun h28 => ?_) (fun h28 => ?_)
        · -- 28 t
          rw [if_neg (fun q => h28 q.1)] at hR
          --go
          refine g_iinc (pc := 41) (lv' := [_, _]) G dX0_leastReady_41 (by decide) rfl rfl ?_
          refine g_goto (pc := 44) G 11 dX0_leastReady_44 (by decide) ?_
          exact ih (k + 1) (by omega) (by omega) (by omega) hR
        · -- 28 f
          refine g_aload_n (pc := 31) G dX0_leastReady_31 rfl ?_
          refine g_iload_n (pc := 32) G dX0_leastReady_32 rfl ?_
          refine g_call (pc := 33) (n := 1) (As := [_]) G (kX0_canBeDone hD i hi k ⟨by omega, by omega⟩ M L) gX0_leastReady_X0_canBeDone (oCopy i hi) rfl rfl hdX0_canBeDone rfl rfl ⟨Nat.le_of_ble_eq_true rfl, Nat.le_of_ble_eq_true rfl⟩ rfl rfl (Nat.le_of_ble_eq_true rfl) dX0_leastReady_33 ?_
          rintro _ _ _ ⟨rfl, rfl, rfl⟩
          by_cases qc : aCan (vT M (tI i)) (vX M i) k
          · rw [if_pos qc]
            rw [if_pos ⟨h28, qc⟩] at hR
            refine g_if_eq (pc := 36) G (by omega) 41 dX0_leastReady_36 (by decide) (fun h => absurd h (by decide)) (fun _ => ?_)
            refine g_iload_n (pc := 39) G dX0_leastReady_39 rfl ?_
            refine g_iret (pc := 40) G dX0_leastReady_40 ?_
            exact ⟨rfl, rfl, by rw [← hR]⟩
          · rw [if_neg qc]
            rw [if_neg (fun q => qc q.2)] at hR
            refine g_if_eq (pc := 36) G (by omega) 41 dX0_leastReady_36 (by decide) (fun _ => ?_) (fun h => absurd h (by decide))
            refine g_iinc (pc := 41) (lv' := [_, _]) G dX0_leastReady_41 (by decide) rfl rfl ?_
            refine g_goto (pc := 44) G 11 dX0_leastReady_44 (by decide) ?_
            exact ih (k + 1) (by omega) (by omega) (by omega) hR
  refine g_aload_n (pc := 0) G dX0_leastReady_0 rfl ?_
  refine g_getI (pc := 1) G hinX0 (oCopy i hi) rfl 8 (by decide) f42 rfl rfl dX0_leastReady_1 ?_
  refine g_if_ne (pc := 4) G (rg _) 9 dX0_leastReady_4 (by decide) (fun h4 => ?_) (fun h4 => ?_)
  · -- 4 t
    refine g_iconst (pc := 9) G dX0_leastReady_9 ?_
    refine g_istore_n (pc := 10) (lv' := [_, _]) G dX0_leastReady_10 (by decide) rfl ?_
    exact loop _ 0 (by omega) (by omega) (Nat.lt_succ_self _) (by rw [aReady, vX_0, if_neg h4, Int.sub_zero]; rfl)
  · -- 4 f
    refine g_iconst (pc := 7) G dX0_leastReady_7 ?_
    refine g_iret (pc := 8) G dX0_leastReady_8 ?_
    exact ⟨rfl, rfl, by rw [aReady, vX_0, if_pos h4]⟩
set_option maxHeartbeats 4000000 in
set_option maxRecDepth 100000 in
theorem kX0_seenAt {l : Launch} {D : va_G} {cI cZ cJ cT cC : ClassId} {ad : Nat → Nat} {A : Nat → Prop} (hD : ∀ g : Nat → va_E, va_D A (sjW 89 ad g)) (i : Nat) (hi : i < 12) (z : Int) (hz : rng z) (M : sjM) (L : sjL)  : Met l yX0_seenAt wsX0_seenAt { frames := 1, cells := 0, slots := 0, locals := 21 } (sjA D cI cZ cJ cT cC 89 ad (kC cI cZ cJ cT cC ad) [.ref (ad (29 + 5 * i)), .int (iI z)] M L) (sjZ D 89 ad (kC cI cZ cJ cT cC ad) A (fun v M' L' => M = M' ∧ L = L' ∧ v = some (.int (iI (aSeenAt (vX M i) z))))) 0 0 A := by
  refine g_met (cc := cX0_seenAt) (maxL := 5) (ret := (some .int)) (lv := [_, _, _, _, _]) (by decide) rfl hD kC_loc (List.forall_mem_cons.mpr ⟨rfl, List.forall_mem_cons.mpr ⟨rfl, fun _ h => absurd h List.not_mem_nil⟩⟩) (Nat.le_of_ble_eq_true rfl) rfl ?_
  intro J G
  have f32 : Cond.fieldLink RX0 32 "SharedPage$Copy" "length" "I" ∈ wsX0_seenAt := by decide +kernel
  have hinX0 : ∀ w ∈ u_ws RX0 TX0 12, w ∈ wsX0_seenAt := fun w h => List.mem_cons_of_mem _ (List.mem_append_right _ h)
  have hms := rg (M (29 + 5 * i) 0)
  have loop : ∀ (n : Nat) (q a : Int) (x4 : Option Value), 0 ≤ a → a ≤ q → q ≤ 2147483647 → ((M (29 + 5 * i) 0).toInt - q).toNat < n → aSeenAtF (vX M i) z ((M (29 + 5 * i) 0).toInt - q).toNat q a = aSeenAt (vX M i) z → J 4 M L [some (.ref (ad (29 + 5 * i))), some (.int (iI z)), some (.int (iI a)), some (.int (iI q)), x4] [] := by
    intro n
    induction n with
    | zero => intro q a x4 _ _ _ h; omega
    | succ n ih =>
      intro q a x4 ha0 haq hq1 hn hR
      refine g_iload_n (pc := 4) G dX0_seenAt_4 rfl ?_
      refine g_aload_n (pc := 5) G dX0_seenAt_5 rfl ?_
      refine g_getI (pc := 6) G hinX0 (oCopy i hi) rfl 5 (by decide) f32 rfl rfl dX0_seenAt_6 ?_
      refine g_icmp_ge (pc := 9) G (by first | assumption | omega) (rg _) 45 dX0_seenAt_9 (by decide) (fun h9 => ?_) (fun h9 => ?_)
      · -- 9 t
        rw [show ((M (29 + 5 * i) 0).toInt - q).toNat = 0 by omega, aSeenAtF] at hR
        refine g_bipush G dX0_seenAt_45 rfl ?_
        refine g_iret G dX0_seenAt_47 ?_
        exact ⟨rfl, rfl, by rw [← hR]⟩
      · -- 9 f
        rw [show ((M (29 + 5 * i) 0).toInt - q).toNat = ((M (29 + 5 * i) 0).toInt - (q + 1)).toNat + 1 by omega, aSeenAtF] at hR
        --go
        refine g_aload_n (pc := 12) G dX0_seenAt_12 rfl ?_
        refine g_iload_n (pc := 13) G dX0_seenAt_13 rfl ?_
        refine g_call (pc := 14) (n := 1) (As := [_]) G (kX0_characterAt hD i hi (q) (⟨by omega, by omega⟩) M L) gX0_seenAt_X0_characterAt (oCopy i hi) rfl rfl hdX0_characterAt rfl rfl ⟨Nat.le_of_ble_eq_true rfl, Nat.le_of_ble_eq_true rfl⟩ rfl rfl (Nat.le_of_ble_eq_true rfl) dX0_seenAt_14 ?_
        rintro _ _ _ ⟨rfl, rfl, rfl⟩
        refine g_istore (pc := 17) (lv' := [_, _, _, _, _]) G dX0_seenAt_17 (by decide) rfl ?_
        refine g_aload_n (pc := 19) G dX0_seenAt_19 rfl ?_
        refine g_iload (pc := 20) G dX0_seenAt_20 rfl ?_
        refine g_call (pc := 22) (n := 1) (As := [_]) G (kX0_isSeen hD i hi _ (rg_at _ _ _) M L) gX0_seenAt_X0_isSeen (oCopy i hi) rfl rfl hdX0_isSeen rfl rfl ⟨Nat.le_of_ble_eq_true rfl, Nat.le_of_ble_eq_true rfl⟩ rfl rfl (Nat.le_of_ble_eq_true rfl) dX0_seenAt_22 ?_
        rintro _ _ _ ⟨rfl, rfl, rfl⟩
        by_cases qs : aSeen (vX M i) (aAt (vX M i) q)
        · rw [if_pos qs]
          rw [if_pos qs] at hR
          refine g_if_eq (pc := 25) G (by omega) 39 dX0_seenAt_25 (by decide) (fun h => absurd h (by decide)) (fun _ => ?_)
          refine g_iload_n (pc := 28) G dX0_seenAt_28 rfl ?_
          refine g_iload_n (pc := 29) G dX0_seenAt_29 rfl ?_
          refine g_icmp_ne (pc := 30) G (by first | assumption | omega) (by first | assumption | omega) 36 dX0_seenAt_30 (by decide) (fun h30 => ?_) (fun h30 => ?_)
          · -- 30 t
            rw [if_neg h30] at hR
            --go
            refine g_iinc (pc := 36) (lv' := [_, _, _, _, _]) G dX0_seenAt_36 (by decide) rfl rfl ?_
            refine g_iinc (pc := 39) (lv' := [_, _, _, _, _]) G dX0_seenAt_39 (by decide) rfl rfl ?_
            refine g_goto (pc := 42) G 4 dX0_seenAt_42 (by decide) ?_
            exact ih (q + 1) (a + 1) _ (by omega) (by omega) (by omega) (by omega) hR
          · -- 30 f
            rw [if_pos h30] at hR
            --go
            refine g_iload (pc := 33) G dX0_seenAt_33 rfl ?_
            refine g_iret (pc := 35) G dX0_seenAt_35 ?_
            exact ⟨rfl, rfl, by rw [← hR]⟩
        · rw [if_neg qs]
          rw [if_neg qs] at hR
          refine g_if_eq (pc := 25) G (by omega) 39 dX0_seenAt_25 (by decide) (fun _ => ?_) (fun h => absurd h (by decide))
          refine g_iinc (pc := 39) (lv' := [_, _, _, _, _]) G dX0_seenAt_39 (by decide) rfl rfl ?_
          refine g_goto (pc := 42) G 4 dX0_seenAt_42 (by decide) ?_
          exact ih (q + 1) a _ (by omega) (by omega) (by omega) (by omega) hR
  refine g_iconst (pc := 0) G dX0_seenAt_0 ?_
  refine g_istore_n (pc := 1) (lv' := [_, _, _, _, _]) G dX0_seenAt_1 (by decide) rfl ?_
  refine g_iconst (pc := 2) G dX0_seenAt_2 ?_
  refine g_istore_n (pc := 3) (lv' := [_, _, _, _, _]) G dX0_seenAt_3 (by decide) rfl ?_
  exact loop _ 0 0 _ (by omega) (by omega) (by omega) (Nat.lt_succ_self _) (by rw [aSeenAt, Int.sub_zero]; rfl)
set_option maxHeartbeats 4000000 in
set_option maxRecDepth 100000 in
theorem kX0_leftForPlace {l : Launch} {D : va_G} {cI cZ cJ cT cC : ClassId} {ad : Nat → Nat} {A : Nat → Prop} (hD : ∀ g : Nat → va_E, va_D A (sjW 89 ad g)) (i : Nat) (hi : i < 12) (z : Int) (hz : rng z) (M : sjM) (L : sjL)  : Met l yX0_leftForPlace wsX0_leftForPlace { frames := 2, cells := 0, slots := 0, locals := 45 } (sjA D cI cZ cJ cT cC 89 ad (kC cI cZ cJ cT cC ad) [.ref (ad (29 + 5 * i)), .int (iI z)] M L) (sjZ D 89 ad (kC cI cZ cJ cT cC ad) A (fun v M' L' => M = M' ∧ L = L' ∧ v = some (.int (iI (aLFP (vX M i) z))))) 0 0 A := by
  refine g_met (cc := cX0_leftForPlace) (maxL := 2) (ret := (some .int)) (lv := [_, _]) (by decide) rfl hD kC_loc (List.forall_mem_cons.mpr ⟨rfl, List.forall_mem_cons.mpr ⟨rfl, fun _ h => absurd h List.not_mem_nil⟩⟩) (Nat.le_of_ble_eq_true rfl) rfl ?_
  intro J G
  refine g_iload_n (pc := 0) G dX0_leftForPlace_0 rfl ?_
  refine g_if_gt (pc := 1) G (by first | assumption | omega) 8 dX0_leftForPlace_1 (by decide) (fun h1 => ?_) (fun h1 => ?_)
  · -- 1 t
    refine g_aload_n (pc := 8) G dX0_leftForPlace_8 rfl ?_
    refine g_iload_n (pc := 9) G dX0_leftForPlace_9 rfl ?_
    refine g_iconst (pc := 10) G dX0_leftForPlace_10 ?_
    refine g_isub (pc := 11) G dX0_leftForPlace_11 ?_
    refine g_call (pc := 12) (n := 1) (As := [_]) G (kX0_seenAt hD i hi (z - 1) (⟨by omega, by omega⟩) M L) gX0_leftForPlace_X0_seenAt (oCopy i hi) rfl rfl hdX0_seenAt rfl rfl ⟨Nat.le_of_ble_eq_true rfl, Nat.le_of_ble_eq_true rfl⟩ rfl rfl (Nat.le_of_ble_eq_true rfl) dX0_leftForPlace_12 ?_
    rintro _ _ _ ⟨rfl, rfl, rfl⟩
    refine g_iret (pc := 15) G dX0_leftForPlace_15 ?_
    refine ⟨rfl, rfl, ?_⟩
    rw [aLFP]
    split <;> first | rfl | (exfalso; omega)
  · -- 1 f
    refine g_iconst (pc := 4) G dX0_leftForPlace_4 ?_
    refine g_goto (pc := 5) G 15 dX0_leftForPlace_5 (by decide) ?_
    refine g_iret (pc := 15) G dX0_leftForPlace_15 ?_
    refine ⟨rfl, rfl, ?_⟩
    rw [aLFP]
    split <;> first | rfl | (exfalso; omega)
set_option maxHeartbeats 4000000 in
set_option maxRecDepth 100000 in
theorem kX0_rightForPlace {l : Launch} {D : va_G} {cI cZ cJ cT cC : ClassId} {ad : Nat → Nat} {A : Nat → Prop} (hD : ∀ g : Nat → va_E, va_D A (sjW 89 ad g)) (i : Nat) (hi : i < 12) (z : Int) (hz : rng z) (M : sjM) (L : sjL) (hp : aPl (vX M i) (aLFP (vX M i) z) ≤ 1000) : Met l yX0_rightForPlace wsX0_rightForPlace { frames := 3, cells := 0, slots := 0, locals := 66 } (sjA D cI cZ cJ cT cC 89 ad (kC cI cZ cJ cT cC ad) [.ref (ad (29 + 5 * i)), .int (iI z)] M L) (sjZ D 89 ad (kC cI cZ cJ cT cC ad) A (fun v M' L' => M = M' ∧ L = L' ∧ v = some (.int (iI (aRFP (vX M i) (decide (tI i = 0)) z))))) 0 0 A := by
  refine g_met (cc := cX0_rightForPlace) (maxL := 2) (ret := (some .int)) (lv := [_, _]) (by decide) rfl hD kC_loc (List.forall_mem_cons.mpr ⟨rfl, List.forall_mem_cons.mpr ⟨rfl, fun _ h => absurd h List.not_mem_nil⟩⟩) (Nat.le_of_ble_eq_true rfl) rfl ?_
  intro J G
  have f9 : Cond.fieldLink RX0 9 "SharedPage$Copy" "text" "LSharedPage$Text;" ∈ wsX0_rightForPlace := by decide +kernel
  have f106 : Cond.fieldLink RX0 106 "SharedPage$Text" "woot" "Z" ∈ wsX0_rightForPlace := by decide +kernel
  have hinX0 : ∀ w ∈ u_ws RX0 TX0 12, w ∈ wsX0_rightForPlace := fun w h => List.mem_cons_of_mem _ (List.mem_append_left _ (List.mem_append_right _ h))
  have hinX2 : ∀ w ∈ u_ws RX2 TX2 13, w ∈ wsX0_rightForPlace := fun w h => List.mem_cons_of_mem _ (List.mem_append_right _ h)
  refine g_aload_n (pc := 0) G dX0_rightForPlace_0 rfl ?_
  refine g_getR (pc := 1) G hinX0 (oCopy i hi) rfl 0 (by decide) f9 rfl rfl dX0_rightForPlace_1 ?_
  refine g_getI (pc := 4) G hinX2 (oText _ (tI_lt i)) rfl 0 (by decide) f106 rfl rfl dX0_rightForPlace_4 ?_
  refine g_if_eq (pc := 7) G (rg _) 18 dX0_rightForPlace_7 (by decide) (fun h7 => ?_) (fun h7 => ?_)
  · -- 7 t
    refine g_aload_n (pc := 18) G dX0_rightForPlace_18 rfl ?_
    refine g_aload_n (pc := 19) G dX0_rightForPlace_19 rfl ?_
    refine g_aload_n (pc := 20) G dX0_rightForPlace_20 rfl ?_
    refine g_iload_n (pc := 21) G dX0_rightForPlace_21 rfl ?_
    refine g_call (pc := 22) (n := 1) (As := [_]) G (kX0_leftForPlace hD i hi (z) (hz) M L) gX0_rightForPlace_X0_leftForPlace (oCopy i hi) rfl rfl hdX0_leftForPlace rfl rfl ⟨Nat.le_of_ble_eq_true rfl, Nat.le_of_ble_eq_true rfl⟩ rfl rfl (Nat.le_of_ble_eq_true rfl) dX0_rightForPlace_22 ?_
    rintro _ _ _ ⟨rfl, rfl, rfl⟩
    refine g_call (pc := 25) (n := 1) (As := [_]) G (kX0_placeOf hD i hi (_) (rg_lfp _ _ _) M L) gX0_rightForPlace_X0_placeOf (oCopy i hi) rfl rfl hdX0_placeOf rfl rfl ⟨Nat.le_of_ble_eq_true rfl, Nat.le_of_ble_eq_true rfl⟩ rfl rfl (Nat.le_of_ble_eq_true rfl) dX0_rightForPlace_25 ?_
    rintro _ _ _ ⟨rfl, rfl, rfl⟩
    refine g_iconst (pc := 28) G dX0_rightForPlace_28 ?_
    refine g_iadd (pc := 29) G dX0_rightForPlace_29 ?_
    refine g_call (pc := 30) (n := 1) (As := [_]) G (kX0_characterAt hD i hi (_) (⟨by have := rg_pl M i (aLFP (vX M i) z); omega, by omega⟩) M L) gX0_rightForPlace_X0_characterAt (oCopy i hi) rfl rfl hdX0_characterAt rfl rfl ⟨Nat.le_of_ble_eq_true rfl, Nat.le_of_ble_eq_true rfl⟩ rfl rfl (Nat.le_of_ble_eq_true rfl) dX0_rightForPlace_30 ?_
    rintro _ _ _ ⟨rfl, rfl, rfl⟩
    refine g_iret (pc := 33) G dX0_rightForPlace_33 ?_
    refine ⟨rfl, rfl, ?_⟩
    rw [aRFP]
    unfold wooti at h7
    by_cases q0 : tI i = 0
    · first | (rw [if_pos q0] at h7; exact absurd h7 (by decide)) | (rw [if_pos (decide_eq_true q0)])
    · first | (rw [if_neg q0] at h7; exact absurd rfl h7) | (rw [if_neg (by simp [q0])])
  · -- 7 f
    refine g_aload_n (pc := 10) G dX0_rightForPlace_10 rfl ?_
    refine g_iload_n (pc := 11) G dX0_rightForPlace_11 rfl ?_
    refine g_call (pc := 12) (n := 1) (As := [_]) G (kX0_seenAt hD i hi (z) (hz) M L) gX0_rightForPlace_X0_seenAt (oCopy i hi) rfl rfl hdX0_seenAt rfl rfl ⟨Nat.le_of_ble_eq_true rfl, Nat.le_of_ble_eq_true rfl⟩ rfl rfl (Nat.le_of_ble_eq_true rfl) dX0_rightForPlace_12 ?_
    rintro _ _ _ ⟨rfl, rfl, rfl⟩
    refine g_goto (pc := 15) G 33 dX0_rightForPlace_15 (by decide) ?_
    refine g_iret (pc := 33) G dX0_rightForPlace_33 ?_
    refine ⟨rfl, rfl, ?_⟩
    rw [aRFP]
    unfold wooti at h7
    by_cases q0 : tI i = 0
    · first | (rw [if_pos q0] at h7; exact absurd h7 (by decide)) | (rw [if_pos (decide_eq_true q0)])
    · first | (rw [if_neg q0] at h7; exact absurd rfl h7) | (rw [if_neg (by simp [q0])])
