set_option maxHeartbeats 4000000 in
set_option maxRecDepth 100000 in
theorem kX2_hasMessage {l : Launch} {D : va_G} {cI cZ cJ cT cC : ClassId} {ad : Nat → Nat} {A : Nat → Prop} (hD : ∀ g : Nat → va_E, va_D A (sjW 89 ad g)) (t : Nat) (ht : t < 2) (k : Int) (hk : rng k) (M : sjM) (L : sjL)  : Met l yX2_hasMessage wsX2_hasMessage { frames := 0, cells := 0, slots := 0, locals := 0 } (sjA D cI cZ cJ cT cC 89 ad (kC cI cZ cJ cT cC ad) [.ref (ad (9 + 10 * t)), .int (iI k)] M L) (sjZ D 89 ad (kC cI cZ cJ cT cC ad) A (fun v M' L' => M = M' ∧ L = L' ∧ v = some (.int (iI (if aHasM (vT M t) k then 1 else 0))))) 0 0 A := by
  refine g_met (cc := cX2_hasMessage) (maxL := 2) (ret := (some .boolean)) (lv := [_, _]) (by decide) rfl hD kC_loc (List.forall_mem_cons.mpr ⟨rfl, List.forall_mem_cons.mpr ⟨rfl, fun _ h => absurd h List.not_mem_nil⟩⟩) (Nat.le_of_ble_eq_true rfl) rfl ?_
  intro J G
  have f47 : Cond.fieldLink RX2 47 "SharedPage$Text" "messages" "I" ∈ wsX2_hasMessage := by decide +kernel
  have hinX2 : ∀ w ∈ u_ws RX2 TX2 13, w ∈ wsX2_hasMessage := fun w h => List.mem_cons_of_mem _ (List.mem_append_right _ h)
  refine g_iload_n (pc := 0) G dX2_hasMessage_0 rfl ?_
  refine g_if_lt (pc := 1) G (by first | assumption | omega) 23 dX2_hasMessage_1 (by decide) (fun h1 => ?_) (fun h1 => ?_)
  · -- 1 t
    refine g_iconst (pc := 23) G dX2_hasMessage_23 ?_
    refine g_zret (pc := 24) G rfl dX2_hasMessage_24 ?_
    refine ⟨rfl, rfl, ?_⟩
    show some (Value.int _) = some (Value.int (iI (if 0 ≤ k ∧ k < (M (9 + 10 * t) 1).toInt ∧ k < 160 then 1 else 0)))
    (repeat' split) <;> first | rfl | omega
  · -- 1 f
    refine g_iload_n (pc := 4) G dX2_hasMessage_4 rfl ?_
    refine g_aload_n (pc := 5) G dX2_hasMessage_5 rfl ?_
    refine g_getI (pc := 6) G hinX2 (oText t ht) rfl 11 (by decide) f47 rfl rfl dX2_hasMessage_6 ?_
    refine g_icmp_ge (pc := 9) G (by first | assumption | omega) (rg _) 23 dX2_hasMessage_9 (by decide) (fun h9 => ?_) (fun h9 => ?_)
    · -- 9 t
      refine g_iconst (pc := 23) G dX2_hasMessage_23 ?_
      refine g_zret (pc := 24) G rfl dX2_hasMessage_24 ?_
      refine ⟨rfl, rfl, ?_⟩
      show some (Value.int _) = some (Value.int (iI (if 0 ≤ k ∧ k < (M (9 + 10 * t) 1).toInt ∧ k < 160 then 1 else 0)))
      (repeat' split) <;> first | rfl | omega
    · -- 9 f
      refine g_iload_n (pc := 12) G dX2_hasMessage_12 rfl ?_
      refine g_sipush (pc := 13) G dX2_hasMessage_13 rfl ?_
      refine g_icmp_ge (pc := 16) G (by first | assumption | omega) (by first | assumption | omega) 23 dX2_hasMessage_16 (by decide) (fun h16 => ?_) (fun h16 => ?_)
      · -- 16 t
        refine g_iconst (pc := 23) G dX2_hasMessage_23 ?_
        refine g_zret (pc := 24) G rfl dX2_hasMessage_24 ?_
        refine ⟨rfl, rfl, ?_⟩
        show some (Value.int _) = some (Value.int (iI (if 0 ≤ k ∧ k < (M (9 + 10 * t) 1).toInt ∧ k < 160 then 1 else 0)))
        (repeat' split) <;> first | rfl | omega
      · -- 16 f
        refine g_iconst (pc := 19) G dX2_hasMessage_19 ?_
        refine g_goto (pc := 20) G 24 dX2_hasMessage_20 (by decide) ?_
        refine g_zret (pc := 24) G rfl dX2_hasMessage_24 ?_
        refine ⟨rfl, rfl, ?_⟩
        show some (Value.int _) = some (Value.int (iI (if 0 ≤ k ∧ k < (M (9 + 10 * t) 1).toInt ∧ k < 160 then 1 else 0)))
        (repeat' split) <;> first | rfl | omega
set_option maxHeartbeats 4000000 in
set_option maxRecDepth 100000 in
theorem kX2_hasCharacter {l : Launch} {D : va_G} {cI cZ cJ cT cC : ClassId} {ad : Nat → Nat} {A : Nat → Prop} (hD : ∀ g : Nat → va_E, va_D A (sjW 89 ad g)) (t : Nat) (ht : t < 2) (c : Int) (hc : rng c) (M : sjM) (L : sjL)  : Met l yX2_hasCharacter wsX2_hasCharacter { frames := 0, cells := 0, slots := 0, locals := 0 } (sjA D cI cZ cJ cT cC 89 ad (kC cI cZ cJ cT cC ad) [.ref (ad (9 + 10 * t)), .int (iI c)] M L) (sjZ D 89 ad (kC cI cZ cJ cT cC ad) A (fun v M' L' => M = M' ∧ L = L' ∧ v = some (.int (iI (if aHasC (vT M t) c then 1 else 0))))) 0 0 A := by
  refine g_met (cc := cX2_hasCharacter) (maxL := 2) (ret := (some .boolean)) (lv := [_, _]) (by decide) rfl hD kC_loc (List.forall_mem_cons.mpr ⟨rfl, List.forall_mem_cons.mpr ⟨rfl, fun _ h => absurd h List.not_mem_nil⟩⟩) (Nat.le_of_ble_eq_true rfl) rfl ?_
  intro J G
  have f43 : Cond.fieldLink RX2 43 "SharedPage$Text" "characters" "I" ∈ wsX2_hasCharacter := by decide +kernel
  have hinX2 : ∀ w ∈ u_ws RX2 TX2 13, w ∈ wsX2_hasCharacter := fun w h => List.mem_cons_of_mem _ (List.mem_append_right _ h)
  refine g_iload_n (pc := 0) G dX2_hasCharacter_0 rfl ?_
  refine g_if_lt (pc := 1) G (by first | assumption | omega) 22 dX2_hasCharacter_1 (by decide) (fun h1 => ?_) (fun h1 => ?_)
  · -- 1 t
    refine g_iconst (pc := 22) G dX2_hasCharacter_22 ?_
    refine g_zret (pc := 23) G rfl dX2_hasCharacter_23 ?_
    refine ⟨rfl, rfl, ?_⟩
    show some (Value.int _) = some (Value.int (iI (if 0 ≤ c ∧ c < (M (9 + 10 * t) 0).toInt ∧ c < 60 then 1 else 0)))
    (repeat' split) <;> first | rfl | omega
  · -- 1 f
    refine g_iload_n (pc := 4) G dX2_hasCharacter_4 rfl ?_
    refine g_aload_n (pc := 5) G dX2_hasCharacter_5 rfl ?_
    refine g_getI (pc := 6) G hinX2 (oText t ht) rfl 10 (by decide) f43 rfl rfl dX2_hasCharacter_6 ?_
    refine g_icmp_ge (pc := 9) G (by first | assumption | omega) (rg _) 22 dX2_hasCharacter_9 (by decide) (fun h9 => ?_) (fun h9 => ?_)
    · -- 9 t
      refine g_iconst (pc := 22) G dX2_hasCharacter_22 ?_
      refine g_zret (pc := 23) G rfl dX2_hasCharacter_23 ?_
      refine ⟨rfl, rfl, ?_⟩
      show some (Value.int _) = some (Value.int (iI (if 0 ≤ c ∧ c < (M (9 + 10 * t) 0).toInt ∧ c < 60 then 1 else 0)))
      (repeat' split) <;> first | rfl | omega
    · -- 9 f
      refine g_iload_n (pc := 12) G dX2_hasCharacter_12 rfl ?_
      refine g_bipush (pc := 13) G dX2_hasCharacter_13 rfl ?_
      refine g_icmp_ge (pc := 15) G (by first | assumption | omega) (by first | assumption | omega) 22 dX2_hasCharacter_15 (by decide) (fun h15 => ?_) (fun h15 => ?_)
      · -- 15 t
        refine g_iconst (pc := 22) G dX2_hasCharacter_22 ?_
        refine g_zret (pc := 23) G rfl dX2_hasCharacter_23 ?_
        refine ⟨rfl, rfl, ?_⟩
        show some (Value.int _) = some (Value.int (iI (if 0 ≤ c ∧ c < (M (9 + 10 * t) 0).toInt ∧ c < 60 then 1 else 0)))
        (repeat' split) <;> first | rfl | omega
      · -- 15 f
        refine g_iconst (pc := 18) G dX2_hasCharacter_18 ?_
        refine g_goto (pc := 19) G 23 dX2_hasCharacter_19 (by decide) ?_
        refine g_zret (pc := 23) G rfl dX2_hasCharacter_23 ?_
        refine ⟨rfl, rfl, ?_⟩
        show some (Value.int _) = some (Value.int (iI (if 0 ≤ c ∧ c < (M (9 + 10 * t) 0).toInt ∧ c < 60 then 1 else 0)))
        (repeat' split) <;> first | rfl | omega
set_option maxHeartbeats 4000000 in
set_option maxRecDepth 100000 in
theorem kX2_kindOf {l : Launch} {D : va_G} {cI cZ cJ cT cC : ClassId} {ad : Nat → Nat} {A : Nat → Prop} (hD : ∀ g : Nat → va_E, va_D A (sjW 89 ad g)) (t : Nat) (ht : t < 2) (k : Int) (hk : rng k) (M : sjM) (L : sjL)  : Met l yX2_kindOf wsX2_kindOf { frames := 1, cells := 0, slots := 0, locals := 21 } (sjA D cI cZ cJ cT cC 89 ad (kC cI cZ cJ cT cC ad) [.ref (ad (9 + 10 * t)), .int (iI k)] M L) (sjZ D 89 ad (kC cI cZ cJ cT cC ad) A (fun v M' L' => M = M' ∧ L = L' ∧ v = some (.int (iI (aKind (vT M t) k))))) 0 0 A := by
  refine g_met (cc := cX2_kindOf) (maxL := 2) (ret := (some .int)) (lv := [_, _]) (by decide) rfl hD kC_loc (List.forall_mem_cons.mpr ⟨rfl, List.forall_mem_cons.mpr ⟨rfl, fun _ h => absurd h List.not_mem_nil⟩⟩) (Nat.le_of_ble_eq_true rfl) rfl ?_
  intro J G
  have f31 : Cond.fieldLink RX2 31 "SharedPage$Text" "kinds" "[I" ∈ wsX2_kindOf := by decide +kernel
  have hinX2 : ∀ w ∈ u_ws RX2 TX2 13, w ∈ wsX2_kindOf := fun w h => List.mem_cons_of_mem _ (List.mem_append_right _ h)
  refine g_aload_n (pc := 0) G dX2_kindOf_0 rfl ?_
  refine g_iload_n (pc := 1) G dX2_kindOf_1 rfl ?_
  refine g_call (pc := 2) (n := 1) (As := [_]) G (kX2_hasMessage hD t ht k hk M L) gX2_kindOf_X2_hasMessage (oText t ht) rfl rfl hdX2_hasMessage rfl rfl ⟨Nat.le_of_ble_eq_true rfl, Nat.le_of_ble_eq_true rfl⟩ rfl rfl (Nat.le_of_ble_eq_true rfl) dX2_kindOf_2 ?_
  rintro _ _ _ ⟨rfl, rfl, rfl⟩
  by_cases qa : aHasM (vT M t) k
  · rw [if_pos qa]
    refine g_if_eq (pc := 5) G (by omega) 17 dX2_kindOf_5 (by decide) (fun h => absurd h (by decide)) (fun _ => ?_)
    
    refine g_aload_n (pc := 8) G dX2_kindOf_8 rfl ?_
    refine g_getR (pc := 9) G hinX2 (oText t ht) rfl 6 (by decide) f31 rfl rfl dX2_kindOf_9 ?_
    refine g_iload_n (pc := 12) G dX2_kindOf_12 rfl ?_
    refine g_iald (pc := 13) G (aText160 t 6 ht (by omega) (by omega)) (by have h1 := qa.1; have h2 := qa.2.2; omega) dX2_kindOf_13 ?_
    refine g_goto (pc := 14) G 18 dX2_kindOf_14 (by decide) ?_
    refine g_iret (pc := 18) G dX2_kindOf_18 ?_
    first | exact ⟨rfl, rfl, by rw [aKind, if_pos qa]; rfl⟩ | exact ⟨rfl, rfl, by rw [aKind, if_neg qa]⟩
  · rw [if_neg qa]
    refine g_if_eq (pc := 5) G (by omega) 17 dX2_kindOf_5 (by decide) (fun _ => ?_) (fun h => absurd h (by decide))
    refine g_iconst (pc := 17) G dX2_kindOf_17 ?_
    refine g_iret (pc := 18) G dX2_kindOf_18 ?_
    first | exact ⟨rfl, rfl, by rw [aKind, if_pos qa]; rfl⟩ | exact ⟨rfl, rfl, by rw [aKind, if_neg qa]⟩
set_option maxHeartbeats 4000000 in
set_option maxRecDepth 100000 in
theorem kX2_makerOf {l : Launch} {D : va_G} {cI cZ cJ cT cC : ClassId} {ad : Nat → Nat} {A : Nat → Prop} (hD : ∀ g : Nat → va_E, va_D A (sjW 89 ad g)) (t : Nat) (ht : t < 2) (k : Int) (hk : rng k) (M : sjM) (L : sjL)  : Met l yX2_makerOf wsX2_makerOf { frames := 1, cells := 0, slots := 0, locals := 21 } (sjA D cI cZ cJ cT cC 89 ad (kC cI cZ cJ cT cC ad) [.ref (ad (9 + 10 * t)), .int (iI k)] M L) (sjZ D 89 ad (kC cI cZ cJ cT cC ad) A (fun v M' L' => M = M' ∧ L = L' ∧ v = some (.int (iI (aMaker (vT M t) k))))) 0 0 A := by
  refine g_met (cc := cX2_makerOf) (maxL := 2) (ret := (some .int)) (lv := [_, _]) (by decide) rfl hD kC_loc (List.forall_mem_cons.mpr ⟨rfl, List.forall_mem_cons.mpr ⟨rfl, fun _ h => absurd h List.not_mem_nil⟩⟩) (Nat.le_of_ble_eq_true rfl) rfl ?_
  intro J G
  have f34 : Cond.fieldLink RX2 34 "SharedPage$Text" "makers" "[I" ∈ wsX2_makerOf := by decide +kernel
  have hinX2 : ∀ w ∈ u_ws RX2 TX2 13, w ∈ wsX2_makerOf := fun w h => List.mem_cons_of_mem _ (List.mem_append_right _ h)
  refine g_aload_n (pc := 0) G dX2_makerOf_0 rfl ?_
  refine g_iload_n (pc := 1) G dX2_makerOf_1 rfl ?_
  refine g_call (pc := 2) (n := 1) (As := [_]) G (kX2_hasMessage hD t ht k hk M L) gX2_makerOf_X2_hasMessage (oText t ht) rfl rfl hdX2_hasMessage rfl rfl ⟨Nat.le_of_ble_eq_true rfl, Nat.le_of_ble_eq_true rfl⟩ rfl rfl (Nat.le_of_ble_eq_true rfl) dX2_makerOf_2 ?_
  rintro _ _ _ ⟨rfl, rfl, rfl⟩
  by_cases qa : aHasM (vT M t) k
  · rw [if_pos qa]
    refine g_if_eq (pc := 5) G (by omega) 17 dX2_makerOf_5 (by decide) (fun h => absurd h (by decide)) (fun _ => ?_)
    
    refine g_aload_n (pc := 8) G dX2_makerOf_8 rfl ?_
    refine g_getR (pc := 9) G hinX2 (oText t ht) rfl 7 (by decide) f34 rfl rfl dX2_makerOf_9 ?_
    refine g_iload_n (pc := 12) G dX2_makerOf_12 rfl ?_
    refine g_iald (pc := 13) G (aText160 t 7 ht (by omega) (by omega)) (by have h1 := qa.1; have h2 := qa.2.2; omega) dX2_makerOf_13 ?_
    refine g_goto (pc := 14) G 18 dX2_makerOf_14 (by decide) ?_
    refine g_iret (pc := 18) G dX2_makerOf_18 ?_
    first | exact ⟨rfl, rfl, by rw [aMaker, if_pos qa]; rfl⟩ | exact ⟨rfl, rfl, by rw [aMaker, if_neg qa]⟩
  · rw [if_neg qa]
    refine g_if_eq (pc := 5) G (by omega) 17 dX2_makerOf_5 (by decide) (fun _ => ?_) (fun h => absurd h (by decide))
    refine g_iconst (pc := 17) G dX2_makerOf_17 ?_
    refine g_iret (pc := 18) G dX2_makerOf_18 ?_
    first | exact ⟨rfl, rfl, by rw [aMaker, if_pos qa]; rfl⟩ | exact ⟨rfl, rfl, by rw [aMaker, if_neg qa]⟩
set_option maxHeartbeats 4000000 in
set_option maxRecDepth 100000 in
theorem kX2_subjectOf {l : Launch} {D : va_G} {cI cZ cJ cT cC : ClassId} {ad : Nat → Nat} {A : Nat → Prop} (hD : ∀ g : Nat → va_E, va_D A (sjW 89 ad g)) (t : Nat) (ht : t < 2) (k : Int) (hk : rng k) (M : sjM) (L : sjL)  : Met l yX2_subjectOf wsX2_subjectOf { frames := 1, cells := 0, slots := 0, locals := 21 } (sjA D cI cZ cJ cT cC 89 ad (kC cI cZ cJ cT cC ad) [.ref (ad (9 + 10 * t)), .int (iI k)] M L) (sjZ D 89 ad (kC cI cZ cJ cT cC ad) A (fun v M' L' => M = M' ∧ L = L' ∧ v = some (.int (iI (aSubj (vT M t) k))))) 0 0 A := by
  refine g_met (cc := cX2_subjectOf) (maxL := 2) (ret := (some .int)) (lv := [_, _]) (by decide) rfl hD kC_loc (List.forall_mem_cons.mpr ⟨rfl, List.forall_mem_cons.mpr ⟨rfl, fun _ h => absurd h List.not_mem_nil⟩⟩) (Nat.le_of_ble_eq_true rfl) rfl ?_
  intro J G
  have f37 : Cond.fieldLink RX2 37 "SharedPage$Text" "subjects" "[I" ∈ wsX2_subjectOf := by decide +kernel
  have hinX2 : ∀ w ∈ u_ws RX2 TX2 13, w ∈ wsX2_subjectOf := fun w h => List.mem_cons_of_mem _ (List.mem_append_right _ h)
  refine g_aload_n (pc := 0) G dX2_subjectOf_0 rfl ?_
  refine g_iload_n (pc := 1) G dX2_subjectOf_1 rfl ?_
  refine g_call (pc := 2) (n := 1) (As := [_]) G (kX2_hasMessage hD t ht k hk M L) gX2_subjectOf_X2_hasMessage (oText t ht) rfl rfl hdX2_hasMessage rfl rfl ⟨Nat.le_of_ble_eq_true rfl, Nat.le_of_ble_eq_true rfl⟩ rfl rfl (Nat.le_of_ble_eq_true rfl) dX2_subjectOf_2 ?_
  rintro _ _ _ ⟨rfl, rfl, rfl⟩
  by_cases qa : aHasM (vT M t) k
  · rw [if_pos qa]
    refine g_if_eq (pc := 5) G (by omega) 17 dX2_subjectOf_5 (by decide) (fun h => absurd h (by decide)) (fun _ => ?_)
    
    refine g_aload_n (pc := 8) G dX2_subjectOf_8 rfl ?_
    refine g_getR (pc := 9) G hinX2 (oText t ht) rfl 8 (by decide) f37 rfl rfl dX2_subjectOf_9 ?_
    refine g_iload_n (pc := 12) G dX2_subjectOf_12 rfl ?_
    refine g_iald (pc := 13) G (aText160 t 8 ht (by omega) (by omega)) (by have h1 := qa.1; have h2 := qa.2.2; omega) dX2_subjectOf_13 ?_
    refine g_goto (pc := 14) G 18 dX2_subjectOf_14 (by decide) ?_
    refine g_iret (pc := 18) G dX2_subjectOf_18 ?_
    first | exact ⟨rfl, rfl, by rw [aSubj, if_pos qa]; rfl⟩ | exact ⟨rfl, rfl, by rw [aSubj, if_neg qa]⟩
  · rw [if_neg qa]
    refine g_if_eq (pc := 5) G (by omega) 17 dX2_subjectOf_5 (by decide) (fun _ => ?_) (fun h => absurd h (by decide))
    refine g_iconst (pc := 17) G dX2_subjectOf_17 ?_
    refine g_iret (pc := 18) G dX2_subjectOf_18 ?_
    first | exact ⟨rfl, rfl, by rw [aSubj, if_pos qa]; rfl⟩ | exact ⟨rfl, rfl, by rw [aSubj, if_neg qa]⟩
set_option maxHeartbeats 4000000 in
set_option maxRecDepth 100000 in
theorem kX2_siteOf {l : Launch} {D : va_G} {cI cZ cJ cT cC : ClassId} {ad : Nat → Nat} {A : Nat → Prop} (hD : ∀ g : Nat → va_E, va_D A (sjW 89 ad g)) (t : Nat) (ht : t < 2) (c : Int) (hc : rng c) (M : sjM) (L : sjL)  : Met l yX2_siteOf wsX2_siteOf { frames := 1, cells := 0, slots := 0, locals := 21 } (sjA D cI cZ cJ cT cC 89 ad (kC cI cZ cJ cT cC ad) [.ref (ad (9 + 10 * t)), .int (iI c)] M L) (sjZ D 89 ad (kC cI cZ cJ cT cC ad) A (fun v M' L' => M = M' ∧ L = L' ∧ v = some (.int (iI (aSite (vT M t) c))))) 0 0 A := by
  refine g_met (cc := cX2_siteOf) (maxL := 2) (ret := (some .int)) (lv := [_, _]) (by decide) rfl hD kC_loc (List.forall_mem_cons.mpr ⟨rfl, List.forall_mem_cons.mpr ⟨rfl, fun _ h => absurd h List.not_mem_nil⟩⟩) (Nat.le_of_ble_eq_true rfl) rfl ?_
  intro J G
  have f15 : Cond.fieldLink RX2 15 "SharedPage$Text" "sites" "[I" ∈ wsX2_siteOf := by decide +kernel
  have hinX2 : ∀ w ∈ u_ws RX2 TX2 13, w ∈ wsX2_siteOf := fun w h => List.mem_cons_of_mem _ (List.mem_append_right _ h)
  refine g_aload_n (pc := 0) G dX2_siteOf_0 rfl ?_
  refine g_iload_n (pc := 1) G dX2_siteOf_1 rfl ?_
  refine g_call (pc := 2) (n := 1) (As := [_]) G (kX2_hasCharacter hD t ht c hc M L) gX2_siteOf_X2_hasCharacter (oText t ht) rfl rfl hdX2_hasCharacter rfl rfl ⟨Nat.le_of_ble_eq_true rfl, Nat.le_of_ble_eq_true rfl⟩ rfl rfl (Nat.le_of_ble_eq_true rfl) dX2_siteOf_2 ?_
  rintro _ _ _ ⟨rfl, rfl, rfl⟩
  by_cases qa : aHasC (vT M t) c
  · rw [if_pos qa]
    refine g_if_eq (pc := 5) G (by omega) 17 dX2_siteOf_5 (by decide) (fun h => absurd h (by decide)) (fun _ => ?_)
    refine g_aload_n (pc := 8) G dX2_siteOf_8 rfl ?_
    refine g_getR (pc := 9) G hinX2 (oText t ht) rfl 1 (by decide) f15 rfl rfl dX2_siteOf_9 ?_
    refine g_iload_n (pc := 12) G dX2_siteOf_12 rfl ?_
    refine g_iald (pc := 13) G (aText60 t 1 ht (by omega) (by omega)) (by have h1 := qa.1; have h2 := qa.2.2; omega) dX2_siteOf_13 ?_
    refine g_goto (pc := 14) G 18 dX2_siteOf_14 (by decide) ?_
    refine g_iret (pc := 18) G dX2_siteOf_18 ?_
    first | exact ⟨rfl, rfl, by rw [aSite, if_pos qa]; rfl⟩ | exact ⟨rfl, rfl, by rw [aSite, if_neg qa]⟩
  · rw [if_neg qa]
    refine g_if_eq (pc := 5) G (by omega) 17 dX2_siteOf_5 (by decide) (fun _ => ?_) (fun h => absurd h (by decide))
    refine g_iconst (pc := 17) G dX2_siteOf_17 ?_
    refine g_iret (pc := 18) G dX2_siteOf_18 ?_
    first | exact ⟨rfl, rfl, by rw [aSite, if_pos qa]; rfl⟩ | exact ⟨rfl, rfl, by rw [aSite, if_neg qa]⟩
set_option maxHeartbeats 4000000 in
set_option maxRecDepth 100000 in
theorem kX2_letterOf {l : Launch} {D : va_G} {cI cZ cJ cT cC : ClassId} {ad : Nat → Nat} {A : Nat → Prop} (hD : ∀ g : Nat → va_E, va_D A (sjW 89 ad g)) (t : Nat) (ht : t < 2) (c : Int) (hc : rng c) (M : sjM) (L : sjL)  : Met l yX2_letterOf wsX2_letterOf { frames := 1, cells := 0, slots := 0, locals := 21 } (sjA D cI cZ cJ cT cC 89 ad (kC cI cZ cJ cT cC ad) [.ref (ad (9 + 10 * t)), .int (iI c)] M L) (sjZ D 89 ad (kC cI cZ cJ cT cC ad) A (fun v M' L' => M = M' ∧ L = L' ∧ v = some (.int (iI (aLetter (vT M t) c))))) 0 0 A := by
  refine g_met (cc := cX2_letterOf) (maxL := 2) (ret := (some .int)) (lv := [_, _]) (by decide) rfl hD kC_loc (List.forall_mem_cons.mpr ⟨rfl, List.forall_mem_cons.mpr ⟨rfl, fun _ h => absurd h List.not_mem_nil⟩⟩) (Nat.le_of_ble_eq_true rfl) rfl ?_
  intro J G
  have f22 : Cond.fieldLink RX2 22 "SharedPage$Text" "letters" "[I" ∈ wsX2_letterOf := by decide +kernel
  have hinX2 : ∀ w ∈ u_ws RX2 TX2 13, w ∈ wsX2_letterOf := fun w h => List.mem_cons_of_mem _ (List.mem_append_right _ h)
  refine g_aload_n (pc := 0) G dX2_letterOf_0 rfl ?_
  refine g_iload_n (pc := 1) G dX2_letterOf_1 rfl ?_
  refine g_call (pc := 2) (n := 1) (As := [_]) G (kX2_hasCharacter hD t ht c hc M L) gX2_letterOf_X2_hasCharacter (oText t ht) rfl rfl hdX2_hasCharacter rfl rfl ⟨Nat.le_of_ble_eq_true rfl, Nat.le_of_ble_eq_true rfl⟩ rfl rfl (Nat.le_of_ble_eq_true rfl) dX2_letterOf_2 ?_
  rintro _ _ _ ⟨rfl, rfl, rfl⟩
  by_cases qa : aHasC (vT M t) c
  · rw [if_pos qa]
    refine g_if_eq (pc := 5) G (by omega) 17 dX2_letterOf_5 (by decide) (fun h => absurd h (by decide)) (fun _ => ?_)
    refine g_aload_n (pc := 8) G dX2_letterOf_8 rfl ?_
    refine g_getR (pc := 9) G hinX2 (oText t ht) rfl 3 (by decide) f22 rfl rfl dX2_letterOf_9 ?_
    refine g_iload_n (pc := 12) G dX2_letterOf_12 rfl ?_
    refine g_iald (pc := 13) G (aText60 t 3 ht (by omega) (by omega)) (by have h1 := qa.1; have h2 := qa.2.2; omega) dX2_letterOf_13 ?_
    refine g_goto (pc := 14) G 18 dX2_letterOf_14 (by decide) ?_
    refine g_iret (pc := 18) G dX2_letterOf_18 ?_
    first | exact ⟨rfl, rfl, by rw [aLetter, if_pos qa]; rfl⟩ | exact ⟨rfl, rfl, by rw [aLetter, if_neg qa]⟩
  · rw [if_neg qa]
    refine g_if_eq (pc := 5) G (by omega) 17 dX2_letterOf_5 (by decide) (fun _ => ?_) (fun h => absurd h (by decide))
    refine g_iconst (pc := 17) G dX2_letterOf_17 ?_
    refine g_iret (pc := 18) G dX2_letterOf_18 ?_
    first | exact ⟨rfl, rfl, by rw [aLetter, if_pos qa]; rfl⟩ | exact ⟨rfl, rfl, by rw [aLetter, if_neg qa]⟩
set_option maxHeartbeats 4000000 in
set_option maxRecDepth 100000 in
theorem kX2_leftOf {l : Launch} {D : va_G} {cI cZ cJ cT cC : ClassId} {ad : Nat → Nat} {A : Nat → Prop} (hD : ∀ g : Nat → va_E, va_D A (sjW 89 ad g)) (t : Nat) (ht : t < 2) (c : Int) (hc : rng c) (M : sjM) (L : sjL)  : Met l yX2_leftOf wsX2_leftOf { frames := 1, cells := 0, slots := 0, locals := 21 } (sjA D cI cZ cJ cT cC 89 ad (kC cI cZ cJ cT cC ad) [.ref (ad (9 + 10 * t)), .int (iI c)] M L) (sjZ D 89 ad (kC cI cZ cJ cT cC ad) A (fun v M' L' => M = M' ∧ L = L' ∧ v = some (.int (iI (aLeft (vT M t) c))))) 0 0 A := by
  refine g_met (cc := cX2_leftOf) (maxL := 2) (ret := (some .int)) (lv := [_, _]) (by decide) rfl hD kC_loc (List.forall_mem_cons.mpr ⟨rfl, List.forall_mem_cons.mpr ⟨rfl, fun _ h => absurd h List.not_mem_nil⟩⟩) (Nat.le_of_ble_eq_true rfl) rfl ?_
  intro J G
  have f25 : Cond.fieldLink RX2 25 "SharedPage$Text" "lefts" "[I" ∈ wsX2_leftOf := by decide +kernel
  have hinX2 : ∀ w ∈ u_ws RX2 TX2 13, w ∈ wsX2_leftOf := fun w h => List.mem_cons_of_mem _ (List.mem_append_right _ h)
  refine g_aload_n (pc := 0) G dX2_leftOf_0 rfl ?_
  refine g_iload_n (pc := 1) G dX2_leftOf_1 rfl ?_
  refine g_call (pc := 2) (n := 1) (As := [_]) G (kX2_hasCharacter hD t ht c hc M L) gX2_leftOf_X2_hasCharacter (oText t ht) rfl rfl hdX2_hasCharacter rfl rfl ⟨Nat.le_of_ble_eq_true rfl, Nat.le_of_ble_eq_true rfl⟩ rfl rfl (Nat.le_of_ble_eq_true rfl) dX2_leftOf_2 ?_
  rintro _ _ _ ⟨rfl, rfl, rfl⟩
  by_cases qa : aHasC (vT M t) c
  · rw [if_pos qa]
    refine g_if_eq (pc := 5) G (by omega) 17 dX2_leftOf_5 (by decide) (fun h => absurd h (by decide)) (fun _ => ?_)
    refine g_aload_n (pc := 8) G dX2_leftOf_8 rfl ?_
    refine g_getR (pc := 9) G hinX2 (oText t ht) rfl 4 (by decide) f25 rfl rfl dX2_leftOf_9 ?_
    refine g_iload_n (pc := 12) G dX2_leftOf_12 rfl ?_
    refine g_iald (pc := 13) G (aText60 t 4 ht (by omega) (by omega)) (by have h1 := qa.1; have h2 := qa.2.2; omega) dX2_leftOf_13 ?_
    refine g_goto (pc := 14) G 18 dX2_leftOf_14 (by decide) ?_
    refine g_iret (pc := 18) G dX2_leftOf_18 ?_
    first | exact ⟨rfl, rfl, by rw [aLeft, if_pos qa]; rfl⟩ | exact ⟨rfl, rfl, by rw [aLeft, if_neg qa]⟩
  · rw [if_neg qa]
    refine g_if_eq (pc := 5) G (by omega) 17 dX2_leftOf_5 (by decide) (fun _ => ?_) (fun h => absurd h (by decide))
    refine g_iconst (pc := 17) G dX2_leftOf_17 ?_
    refine g_iret (pc := 18) G dX2_leftOf_18 ?_
    first | exact ⟨rfl, rfl, by rw [aLeft, if_pos qa]; rfl⟩ | exact ⟨rfl, rfl, by rw [aLeft, if_neg qa]⟩
set_option maxHeartbeats 4000000 in
set_option maxRecDepth 100000 in
theorem kX2_rightOf {l : Launch} {D : va_G} {cI cZ cJ cT cC : ClassId} {ad : Nat → Nat} {A : Nat → Prop} (hD : ∀ g : Nat → va_E, va_D A (sjW 89 ad g)) (t : Nat) (ht : t < 2) (c : Int) (hc : rng c) (M : sjM) (L : sjL)  : Met l yX2_rightOf wsX2_rightOf { frames := 1, cells := 0, slots := 0, locals := 21 } (sjA D cI cZ cJ cT cC 89 ad (kC cI cZ cJ cT cC ad) [.ref (ad (9 + 10 * t)), .int (iI c)] M L) (sjZ D 89 ad (kC cI cZ cJ cT cC ad) A (fun v M' L' => M = M' ∧ L = L' ∧ v = some (.int (iI (aRight (vT M t) c))))) 0 0 A := by
  refine g_met (cc := cX2_rightOf) (maxL := 2) (ret := (some .int)) (lv := [_, _]) (by decide) rfl hD kC_loc (List.forall_mem_cons.mpr ⟨rfl, List.forall_mem_cons.mpr ⟨rfl, fun _ h => absurd h List.not_mem_nil⟩⟩) (Nat.le_of_ble_eq_true rfl) rfl ?_
  intro J G
  have f28 : Cond.fieldLink RX2 28 "SharedPage$Text" "rights" "[I" ∈ wsX2_rightOf := by decide +kernel
  have hinX2 : ∀ w ∈ u_ws RX2 TX2 13, w ∈ wsX2_rightOf := fun w h => List.mem_cons_of_mem _ (List.mem_append_right _ h)
  refine g_aload_n (pc := 0) G dX2_rightOf_0 rfl ?_
  refine g_iload_n (pc := 1) G dX2_rightOf_1 rfl ?_
  refine g_call (pc := 2) (n := 1) (As := [_]) G (kX2_hasCharacter hD t ht c hc M L) gX2_rightOf_X2_hasCharacter (oText t ht) rfl rfl hdX2_hasCharacter rfl rfl ⟨Nat.le_of_ble_eq_true rfl, Nat.le_of_ble_eq_true rfl⟩ rfl rfl (Nat.le_of_ble_eq_true rfl) dX2_rightOf_2 ?_
  rintro _ _ _ ⟨rfl, rfl, rfl⟩
  by_cases qa : aHasC (vT M t) c
  · rw [if_pos qa]
    refine g_if_eq (pc := 5) G (by omega) 17 dX2_rightOf_5 (by decide) (fun h => absurd h (by decide)) (fun _ => ?_)
    refine g_aload_n (pc := 8) G dX2_rightOf_8 rfl ?_
    refine g_getR (pc := 9) G hinX2 (oText t ht) rfl 5 (by decide) f28 rfl rfl dX2_rightOf_9 ?_
    refine g_iload_n (pc := 12) G dX2_rightOf_12 rfl ?_
    refine g_iald (pc := 13) G (aText60 t 5 ht (by omega) (by omega)) (by have h1 := qa.1; have h2 := qa.2.2; omega) dX2_rightOf_13 ?_
    refine g_goto (pc := 14) G 19 dX2_rightOf_14 (by decide) ?_
    refine g_iret (pc := 19) G dX2_rightOf_19 ?_
    first | exact ⟨rfl, rfl, by rw [aRight, if_pos qa]; rfl⟩ | exact ⟨rfl, rfl, by rw [aRight, if_neg qa]⟩
  · rw [if_neg qa]
    refine g_if_eq (pc := 5) G (by omega) 17 dX2_rightOf_5 (by decide) (fun _ => ?_) (fun h => absurd h (by decide))
    refine g_bipush (pc := 17) G dX2_rightOf_17 rfl ?_
    refine g_iret (pc := 19) G dX2_rightOf_19 ?_
    first | exact ⟨rfl, rfl, by rw [aRight, if_pos qa]; rfl⟩ | exact ⟨rfl, rfl, by rw [aRight, if_neg qa]⟩
set_option maxHeartbeats 4000000 in
set_option maxRecDepth 100000 in
theorem kX2_markOf {l : Launch} {D : va_G} {cI cZ cJ cT cC : ClassId} {ad : Nat → Nat} {A : Nat → Prop} (hD : ∀ g : Nat → va_E, va_D A (sjW 89 ad g)) (t : Nat) (ht : t < 2) (c : Int) (hc : rng c) (M : sjM) (L : sjL)  : Met l yX2_markOf wsX2_markOf { frames := 1, cells := 0, slots := 0, locals := 21 } (sjA D cI cZ cJ cT cC 89 ad (kC cI cZ cJ cT cC ad) [.ref (ad (9 + 10 * t)), .int (iI c)] M L) (sjZ D 89 ad (kC cI cZ cJ cT cC ad) A (fun v M' L' => M = M' ∧ L = L' ∧ v = some (.int (iI (aMark (vT M t) c))))) 0 0 A := by
  refine g_met (cc := cX2_markOf) (maxL := 2) (ret := (some .int)) (lv := [_, _]) (by decide) rfl hD kC_loc (List.forall_mem_cons.mpr ⟨rfl, List.forall_mem_cons.mpr ⟨rfl, fun _ h => absurd h List.not_mem_nil⟩⟩) (Nat.le_of_ble_eq_true rfl) rfl ?_
  intro J G
  have f19 : Cond.fieldLink RX2 19 "SharedPage$Text" "marks" "[I" ∈ wsX2_markOf := by decide +kernel
  have hinX2 : ∀ w ∈ u_ws RX2 TX2 13, w ∈ wsX2_markOf := fun w h => List.mem_cons_of_mem _ (List.mem_append_right _ h)
  refine g_aload_n (pc := 0) G dX2_markOf_0 rfl ?_
  refine g_iload_n (pc := 1) G dX2_markOf_1 rfl ?_
  refine g_call (pc := 2) (n := 1) (As := [_]) G (kX2_hasCharacter hD t ht c hc M L) gX2_markOf_X2_hasCharacter (oText t ht) rfl rfl hdX2_hasCharacter rfl rfl ⟨Nat.le_of_ble_eq_true rfl, Nat.le_of_ble_eq_true rfl⟩ rfl rfl (Nat.le_of_ble_eq_true rfl) dX2_markOf_2 ?_
  rintro _ _ _ ⟨rfl, rfl, rfl⟩
  by_cases qa : aHasC (vT M t) c
  · rw [if_pos qa]
    refine g_if_eq (pc := 5) G (by omega) 15 dX2_markOf_5 (by decide) (fun h => absurd h (by decide)) (fun _ => ?_)
    refine g_aload_n (pc := 8) G dX2_markOf_8 rfl ?_
    refine g_getR (pc := 9) G hinX2 (oText t ht) rfl 2 (by decide) f19 rfl rfl dX2_markOf_9 ?_
    refine g_iload_n (pc := 12) G dX2_markOf_12 rfl ?_
    refine g_iald (pc := 13) G (aText60 t 2 ht (by omega) (by omega)) (by have h1 := qa.1; have h2 := qa.2.2; omega) dX2_markOf_13 ?_
    refine g_iret (pc := 14) G dX2_markOf_14 ?_
    first | exact ⟨rfl, rfl, by rw [aMark, if_pos qa]; rfl⟩ | (refine ⟨rfl, rfl, ?_⟩; rw [aMark, if_neg qa]; split <;> first | rfl | omega)
  · rw [if_neg qa]
    refine g_if_eq (pc := 5) G (by omega) 15 dX2_markOf_5 (by decide) (fun _ => ?_) (fun h => absurd h (by decide))
    refine g_iload_n (pc := 15) G dX2_markOf_15 rfl ?_
    refine g_iconst (pc := 16) G dX2_markOf_16 ?_
    refine g_icmp_ne (pc := 17) G (by first | assumption | omega) (by first | assumption | omega) 24 dX2_markOf_17 (by decide) (fun h17 => ?_) (fun h17 => ?_)
    · -- 17 t
      refine g_sipush (pc := 24) G dX2_markOf_24 rfl ?_
      refine g_iret (pc := 27) G dX2_markOf_27 ?_
      first | exact ⟨rfl, rfl, by rw [aMark, if_pos qa]; rfl⟩ | (refine ⟨rfl, rfl, ?_⟩; rw [aMark, if_neg qa]; split <;> first | rfl | omega)
    · -- 17 f
      refine g_iconst (pc := 20) G dX2_markOf_20 ?_
      refine g_goto (pc := 21) G 27 dX2_markOf_21 (by decide) ?_
      refine g_iret (pc := 27) G dX2_markOf_27 ?_
      first | exact ⟨rfl, rfl, by rw [aMark, if_pos qa]; rfl⟩ | (refine ⟨rfl, rfl, ?_⟩; rw [aMark, if_neg qa]; split <;> first | rfl | omega)
set_option maxHeartbeats 4000000 in
set_option maxRecDepth 100000 in
theorem kX0_placeOf {l : Launch} {D : va_G} {cI cZ cJ cT cC : ClassId} {ad : Nat → Nat} {A : Nat → Prop} (hD : ∀ g : Nat → va_E, va_D A (sjW 89 ad g)) (i : Nat) (hi : i < 12) (c : Int) (hc : rng c) (M : sjM) (L : sjL)  : Met l yX0_placeOf wsX0_placeOf { frames := 0, cells := 0, slots := 0, locals := 0 } (sjA D cI cZ cJ cT cC 89 ad (kC cI cZ cJ cT cC ad) [.ref (ad (29 + 5 * i)), .int (iI c)] M L) (sjZ D 89 ad (kC cI cZ cJ cT cC ad) A (fun v M' L' => M = M' ∧ L = L' ∧ v = some (.int (iI (aPl (vX M i) c))))) 0 0 A := by
  refine g_met (cc := cX0_placeOf) (maxL := 2) (ret := (some .int)) (lv := [_, _]) (by decide) rfl hD kC_loc (List.forall_mem_cons.mpr ⟨rfl, List.forall_mem_cons.mpr ⟨rfl, fun _ h => absurd h List.not_mem_nil⟩⟩) (Nat.le_of_ble_eq_true rfl) rfl ?_
  intro J G
  have f19 : Cond.fieldLink RX0 19 "SharedPage$Copy" "places" "[I" ∈ wsX0_placeOf := by decide +kernel
  have f32 : Cond.fieldLink RX0 32 "SharedPage$Copy" "length" "I" ∈ wsX0_placeOf := by decide +kernel
  have hinX0 : ∀ w ∈ u_ws RX0 TX0 12, w ∈ wsX0_placeOf := fun w h => List.mem_cons_of_mem _ (List.mem_append_right _ h)
  refine g_iload_n (pc := 0) G dX0_placeOf_0 rfl ?_
  refine g_if_ge (pc := 1) G (by first | assumption | omega) 6 dX0_placeOf_1 (by decide) (fun h1 => ?_) (fun h1 => ?_)
  · -- 1 t
    refine g_iload_n (pc := 6) G dX0_placeOf_6 rfl ?_
    refine g_bipush (pc := 7) G dX0_placeOf_7 rfl ?_
    refine g_icmp_ge (pc := 9) G (by first | assumption | omega) (by first | assumption | omega) 21 dX0_placeOf_9 (by decide) (fun h9 => ?_) (fun h9 => ?_)
    · -- 9 t
      refine g_aload_n (pc := 21) G dX0_placeOf_21 rfl ?_
      refine g_getI (pc := 22) G hinX0 (oCopy i hi) rfl 5 (by decide) f32 rfl rfl dX0_placeOf_22 ?_
      refine g_iret (pc := 25) G dX0_placeOf_25 ?_
      refine ⟨rfl, rfl, ?_⟩
      show some (Value.int _) = some (Value.int (iI (if c < 0 then -1 else if c < 60 then (M (29 + 5 * i + 2) c).toInt else (M (29 + 5 * i) 0).toInt)))
      (repeat' split) <;> first | rfl | omega
    · -- 9 f
      refine g_aload_n (pc := 12) G dX0_placeOf_12 rfl ?_
      refine g_getR (pc := 13) G hinX0 (oCopy i hi) rfl 2 (by decide) f19 rfl rfl dX0_placeOf_13 ?_
      refine g_iload_n (pc := 16) G dX0_placeOf_16 rfl ?_
      refine g_iald (pc := 17) G (aCopy60 i 2 hi (by omega) (by omega)) (by omega) dX0_placeOf_17 ?_
      refine g_goto (pc := 18) G 25 dX0_placeOf_18 (by decide) ?_
      refine g_iret (pc := 25) G dX0_placeOf_25 ?_
      refine ⟨rfl, rfl, ?_⟩
      show some (Value.int _) = some (Value.int (iI (if c < 0 then -1 else if c < 60 then (M (29 + 5 * i + 2) c).toInt else (M (29 + 5 * i) 0).toInt)))
      (repeat' split) <;> first | rfl | omega
  · -- 1 f
    refine g_iconst (pc := 4) G dX0_placeOf_4 ?_
    refine g_iret (pc := 5) G dX0_placeOf_5 ?_
    refine ⟨rfl, rfl, ?_⟩
    show some (Value.int _) = some (Value.int (iI (if c < 0 then -1 else if c < 60 then (M (29 + 5 * i + 2) c).toInt else (M (29 + 5 * i) 0).toInt)))
    (repeat' split) <;> first | rfl | omega
set_option maxHeartbeats 4000000 in
set_option maxRecDepth 100000 in
theorem kX0_characterAt {l : Launch} {D : va_G} {cI cZ cJ cT cC : ClassId} {ad : Nat → Nat} {A : Nat → Prop} (hD : ∀ g : Nat → va_E, va_D A (sjW 89 ad g)) (i : Nat) (hi : i < 12) (q : Int) (hq : rng q) (M : sjM) (L : sjL)  : Met l yX0_characterAt wsX0_characterAt { frames := 0, cells := 0, slots := 0, locals := 0 } (sjA D cI cZ cJ cT cC 89 ad (kC cI cZ cJ cT cC ad) [.ref (ad (29 + 5 * i)), .int (iI q)] M L) (sjZ D 89 ad (kC cI cZ cJ cT cC ad) A (fun v M' L' => M = M' ∧ L = L' ∧ v = some (.int (iI (aAt (vX M i) q))))) 0 0 A := by
  refine g_met (cc := cX0_characterAt) (maxL := 2) (ret := (some .int)) (lv := [_, _]) (by decide) rfl hD kC_loc (List.forall_mem_cons.mpr ⟨rfl, List.forall_mem_cons.mpr ⟨rfl, fun _ h => absurd h List.not_mem_nil⟩⟩) (Nat.le_of_ble_eq_true rfl) rfl ?_
  intro J G
  have f15 : Cond.fieldLink RX0 15 "SharedPage$Copy" "sequence" "[I" ∈ wsX0_characterAt := by decide +kernel
  have f32 : Cond.fieldLink RX0 32 "SharedPage$Copy" "length" "I" ∈ wsX0_characterAt := by decide +kernel
  have hinX0 : ∀ w ∈ u_ws RX0 TX0 12, w ∈ wsX0_characterAt := fun w h => List.mem_cons_of_mem _ (List.mem_append_right _ h)
  refine g_iload_n (pc := 0) G dX0_characterAt_0 rfl ?_
  refine g_if_lt (pc := 1) G (by first | assumption | omega) 27 dX0_characterAt_1 (by decide) (fun h1 => ?_) (fun h1 => ?_)
  · -- 1 t
    refine g_bipush (pc := 27) G dX0_characterAt_27 rfl ?_
    refine g_iret (pc := 29) G dX0_characterAt_29 ?_
    refine ⟨rfl, rfl, ?_⟩
    show some (Value.int _) = some (Value.int (iI (if 0 ≤ q ∧ q < (M (29 + 5 * i) 0).toInt ∧ q < 60 then (M (29 + 5 * i + 1) q).toInt else 60)))
    (repeat' split) <;> first | rfl | omega
  · -- 1 f
    refine g_iload_n (pc := 4) G dX0_characterAt_4 rfl ?_
    refine g_aload_n (pc := 5) G dX0_characterAt_5 rfl ?_
    refine g_getI (pc := 6) G hinX0 (oCopy i hi) rfl 5 (by decide) f32 rfl rfl dX0_characterAt_6 ?_
    refine g_icmp_ge (pc := 9) G (by first | assumption | omega) (rg _) 27 dX0_characterAt_9 (by decide) (fun h9 => ?_) (fun h9 => ?_)
    · -- 9 t
      refine g_bipush (pc := 27) G dX0_characterAt_27 rfl ?_
      refine g_iret (pc := 29) G dX0_characterAt_29 ?_
      refine ⟨rfl, rfl, ?_⟩
      show some (Value.int _) = some (Value.int (iI (if 0 ≤ q ∧ q < (M (29 + 5 * i) 0).toInt ∧ q < 60 then (M (29 + 5 * i + 1) q).toInt else 60)))
      (repeat' split) <;> first | rfl | omega
    · -- 9 f
      refine g_iload_n (pc := 12) G dX0_characterAt_12 rfl ?_
      refine g_bipush (pc := 13) G dX0_characterAt_13 rfl ?_
      refine g_icmp_ge (pc := 15) G (by first | assumption | omega) (by first | assumption | omega) 27 dX0_characterAt_15 (by decide) (fun h15 => ?_) (fun h15 => ?_)
      · -- 15 t
        refine g_bipush (pc := 27) G dX0_characterAt_27 rfl ?_
        refine g_iret (pc := 29) G dX0_characterAt_29 ?_
        refine ⟨rfl, rfl, ?_⟩
        show some (Value.int _) = some (Value.int (iI (if 0 ≤ q ∧ q < (M (29 + 5 * i) 0).toInt ∧ q < 60 then (M (29 + 5 * i + 1) q).toInt else 60)))
        (repeat' split) <;> first | rfl | omega
      · -- 15 f
        refine g_aload_n (pc := 18) G dX0_characterAt_18 rfl ?_
        refine g_getR (pc := 19) G hinX0 (oCopy i hi) rfl 1 (by decide) f15 rfl rfl dX0_characterAt_19 ?_
        refine g_iload_n (pc := 22) G dX0_characterAt_22 rfl ?_
        refine g_iald (pc := 23) G (aCopy60 i 1 hi (by omega) (by omega)) (by omega) dX0_characterAt_23 ?_
        refine g_goto (pc := 24) G 29 dX0_characterAt_24 (by decide) ?_
        refine g_iret (pc := 29) G dX0_characterAt_29 ?_
        refine ⟨rfl, rfl, ?_⟩
        show some (Value.int _) = some (Value.int (iI (if 0 ≤ q ∧ q < (M (29 + 5 * i) 0).toInt ∧ q < 60 then (M (29 + 5 * i + 1) q).toInt else 60)))
        (repeat' split) <;> first | rfl | omega
set_option maxHeartbeats 4000000 in
set_option maxRecDepth 100000 in
theorem kX0_stateOf {l : Launch} {D : va_G} {cI cZ cJ cT cC : ClassId} {ad : Nat → Nat} {A : Nat → Prop} (hD : ∀ g : Nat → va_E, va_D A (sjW 89 ad g)) (i : Nat) (hi : i < 12) (k : Int) (hk : rng k) (M : sjM) (L : sjL)  : Met l yX0_stateOf wsX0_stateOf { frames := 0, cells := 0, slots := 0, locals := 0 } (sjA D cI cZ cJ cT cC 89 ad (kC cI cZ cJ cT cC ad) [.ref (ad (29 + 5 * i)), .int (iI k)] M L) (sjZ D 89 ad (kC cI cZ cJ cT cC ad) A (fun v M' L' => M = M' ∧ L = L' ∧ v = some (.int (iI (aSt (vX M i) k))))) 0 0 A := by
  refine g_met (cc := cX0_stateOf) (maxL := 2) (ret := (some .int)) (lv := [_, _]) (by decide) rfl hD kC_loc (List.forall_mem_cons.mpr ⟨rfl, List.forall_mem_cons.mpr ⟨rfl, fun _ h => absurd h List.not_mem_nil⟩⟩) (Nat.le_of_ble_eq_true rfl) rfl ?_
  intro J G
  have f26 : Cond.fieldLink RX0 26 "SharedPage$Copy" "states" "[I" ∈ wsX0_stateOf := by decide +kernel
  have hinX0 : ∀ w ∈ u_ws RX0 TX0 12, w ∈ wsX0_stateOf := fun w h => List.mem_cons_of_mem _ (List.mem_append_right _ h)
  refine g_iload_n (pc := 0) G dX0_stateOf_0 rfl ?_
  refine g_if_lt (pc := 1) G (by first | assumption | omega) 20 dX0_stateOf_1 (by decide) (fun h1 => ?_) (fun h1 => ?_)
  · -- 1 t
    refine g_iconst (pc := 20) G dX0_stateOf_20 ?_
    refine g_iret (pc := 21) G dX0_stateOf_21 ?_
    refine ⟨rfl, rfl, ?_⟩
    show some (Value.int _) = some (Value.int (iI (if 0 ≤ k ∧ k < 160 then (M (29 + 5 * i + 4) k).toInt else 0)))
    (repeat' split) <;> first | rfl | omega
  · -- 1 f
    refine g_iload_n (pc := 4) G dX0_stateOf_4 rfl ?_
    refine g_sipush (pc := 5) G dX0_stateOf_5 rfl ?_
    refine g_icmp_ge (pc := 8) G (by first | assumption | omega) (by first | assumption | omega) 20 dX0_stateOf_8 (by decide) (fun h8 => ?_) (fun h8 => ?_)
    · -- 8 t
      refine g_iconst (pc := 20) G dX0_stateOf_20 ?_
      refine g_iret (pc := 21) G dX0_stateOf_21 ?_
      refine ⟨rfl, rfl, ?_⟩
      show some (Value.int _) = some (Value.int (iI (if 0 ≤ k ∧ k < 160 then (M (29 + 5 * i + 4) k).toInt else 0)))
      (repeat' split) <;> first | rfl | omega
    · -- 8 f
      refine g_aload_n (pc := 11) G dX0_stateOf_11 rfl ?_
      refine g_getR (pc := 12) G hinX0 (oCopy i hi) rfl 4 (by decide) f26 rfl rfl dX0_stateOf_12 ?_
      refine g_iload_n (pc := 15) G dX0_stateOf_15 rfl ?_
      refine g_iald (pc := 16) G (aCopyS i hi) (by omega) dX0_stateOf_16 ?_
      refine g_goto (pc := 17) G 21 dX0_stateOf_17 (by decide) ?_
      refine g_iret (pc := 21) G dX0_stateOf_21 ?_
      refine ⟨rfl, rfl, ?_⟩
      show some (Value.int _) = some (Value.int (iI (if 0 ≤ k ∧ k < 160 then (M (29 + 5 * i + 4) k).toInt else 0)))
      (repeat' split) <;> first | rfl | omega
set_option maxHeartbeats 4000000 in
set_option maxRecDepth 100000 in
theorem kX0_isSeen {l : Launch} {D : va_G} {cI cZ cJ cT cC : ClassId} {ad : Nat → Nat} {A : Nat → Prop} (hD : ∀ g : Nat → va_E, va_D A (sjW 89 ad g)) (i : Nat) (hi : i < 12) (c : Int) (hc : rng c) (M : sjM) (L : sjL)  : Met l yX0_isSeen wsX0_isSeen { frames := 0, cells := 0, slots := 0, locals := 0 } (sjA D cI cZ cJ cT cC 89 ad (kC cI cZ cJ cT cC ad) [.ref (ad (29 + 5 * i)), .int (iI c)] M L) (sjZ D 89 ad (kC cI cZ cJ cT cC ad) A (fun v M' L' => M = M' ∧ L = L' ∧ v = some (.int (iI (if aSeen (vX M i) c then 1 else 0))))) 0 0 A := by
  refine g_met (cc := cX0_isSeen) (maxL := 2) (ret := (some .boolean)) (lv := [_, _]) (by decide) rfl hD kC_loc (List.forall_mem_cons.mpr ⟨rfl, List.forall_mem_cons.mpr ⟨rfl, fun _ h => absurd h List.not_mem_nil⟩⟩) (Nat.le_of_ble_eq_true rfl) rfl ?_
  intro J G
  have f19 : Cond.fieldLink RX0 19 "SharedPage$Copy" "places" "[I" ∈ wsX0_isSeen := by decide +kernel
  have f22 : Cond.fieldLink RX0 22 "SharedPage$Copy" "erased" "[Z" ∈ wsX0_isSeen := by decide +kernel
  have hinX0 : ∀ w ∈ u_ws RX0 TX0 12, w ∈ wsX0_isSeen := fun w h => List.mem_cons_of_mem _ (List.mem_append_right _ h)
  refine g_iload_n (pc := 0) G dX0_isSeen_0 rfl ?_
  refine g_if_lt (pc := 1) G (by first | assumption | omega) 34 dX0_isSeen_1 (by decide) (fun h1 => ?_) (fun h1 => ?_)
  · -- 1 t
    refine g_iconst (pc := 34) G dX0_isSeen_34 ?_
    refine g_zret (pc := 35) G rfl dX0_isSeen_35 ?_
    refine ⟨rfl, rfl, ?_⟩
    show some (Value.int _) = some (Value.int (iI (if 0 ≤ c ∧ c < 60 ∧ ¬ (M (29 + 5 * i + 2) c).toInt = -2 ∧ (M (29 + 5 * i + 3) c).toInt = 0 then 1 else 0)))
    (repeat' split) <;> first | rfl | omega
  · -- 1 f
    refine g_iload_n (pc := 4) G dX0_isSeen_4 rfl ?_
    refine g_bipush (pc := 5) G dX0_isSeen_5 rfl ?_
    refine g_icmp_ge (pc := 7) G (by first | assumption | omega) (by first | assumption | omega) 34 dX0_isSeen_7 (by decide) (fun h7 => ?_) (fun h7 => ?_)
    · -- 7 t
      refine g_iconst (pc := 34) G dX0_isSeen_34 ?_
      refine g_zret (pc := 35) G rfl dX0_isSeen_35 ?_
      refine ⟨rfl, rfl, ?_⟩
      show some (Value.int _) = some (Value.int (iI (if 0 ≤ c ∧ c < 60 ∧ ¬ (M (29 + 5 * i + 2) c).toInt = -2 ∧ (M (29 + 5 * i + 3) c).toInt = 0 then 1 else 0)))
      (repeat' split) <;> first | rfl | omega
    · -- 7 f
      refine g_aload_n (pc := 10) G dX0_isSeen_10 rfl ?_
      refine g_getR (pc := 11) G hinX0 (oCopy i hi) rfl 2 (by decide) f19 rfl rfl dX0_isSeen_11 ?_
      refine g_iload_n (pc := 14) G dX0_isSeen_14 rfl ?_
      refine g_iald (pc := 15) G (aCopy60 i 2 hi (by omega) (by omega)) (by omega) dX0_isSeen_15 ?_
      refine g_bipush (pc := 16) G dX0_isSeen_16 rfl ?_
      refine g_icmp_eq (pc := 18) G (rg _) (by first | assumption | omega) 34 dX0_isSeen_18 (by decide) (fun h18 => ?_) (fun h18 => ?_)
      · -- 18 t
        refine g_iconst (pc := 34) G dX0_isSeen_34 ?_
        refine g_zret (pc := 35) G rfl dX0_isSeen_35 ?_
        refine ⟨rfl, rfl, ?_⟩
        show some (Value.int _) = some (Value.int (iI (if 0 ≤ c ∧ c < 60 ∧ ¬ (M (29 + 5 * i + 2) c).toInt = -2 ∧ (M (29 + 5 * i + 3) c).toInt = 0 then 1 else 0)))
        (repeat' split) <;> first | rfl | omega
      · -- 18 f
        refine g_aload_n (pc := 21) G dX0_isSeen_21 rfl ?_
        refine g_getR (pc := 22) G hinX0 (oCopy i hi) rfl 3 (by decide) f22 rfl rfl dX0_isSeen_22 ?_
        refine g_iload_n (pc := 25) G dX0_isSeen_25 rfl ?_
        refine g_zald (pc := 26) G (aCopyZ i hi) (by omega) dX0_isSeen_26 ?_
        refine g_if_ne (pc := 27) G (rg _) 34 dX0_isSeen_27 (by decide) (fun h27 => ?_) (fun h27 => ?_)
        · -- 27 t
          refine g_iconst (pc := 34) G dX0_isSeen_34 ?_
          refine g_zret (pc := 35) G rfl dX0_isSeen_35 ?_
          refine ⟨rfl, rfl, ?_⟩
          show some (Value.int _) = some (Value.int (iI (if 0 ≤ c ∧ c < 60 ∧ ¬ (M (29 + 5 * i + 2) c).toInt = -2 ∧ (M (29 + 5 * i + 3) c).toInt = 0 then 1 else 0)))
          (repeat' split) <;> first | rfl | omega
        · -- 27 f
          refine g_iconst (pc := 30) G dX0_isSeen_30 ?_
          refine g_goto (pc := 31) G 35 dX0_isSeen_31 (by decide) ?_
          refine g_zret (pc := 35) G rfl dX0_isSeen_35 ?_
          refine ⟨rfl, rfl, ?_⟩
          show some (Value.int _) = some (Value.int (iI (if 0 ≤ c ∧ c < 60 ∧ ¬ (M (29 + 5 * i + 2) c).toInt = -2 ∧ (M (29 + 5 * i + 3) c).toInt = 0 then 1 else 0)))
          (repeat' split) <;> first | rfl | omega
set_option maxHeartbeats 4000000 in
set_option maxRecDepth 100000 in
theorem kX0_setPlace {l : Launch} {D : va_G} {cI cZ cJ cT cC : ClassId} {ad : Nat → Nat} {A : Nat → Prop} (hD : ∀ g : Nat → va_E, va_D A (sjW 89 ad g)) (i : Nat) (hi : i < 12) (c q : Int) (hc : rng c) (M : sjM) (L : sjL)  : Met l yX0_setPlace wsX0_setPlace { frames := 0, cells := 0, slots := 0, locals := 0 } (sjA D cI cZ cJ cT cC 89 ad (kC cI cZ cJ cT cC ad) [.ref (ad (29 + 5 * i)), .int (iI c), .int (iI q)] M L) (sjZ D 89 ad (kC cI cZ cJ cT cC ad) A (fun v M' L' => v = none ∧ L = L' ∧ M' = if 0 ≤ c ∧ c < 60 then sjU M (29 + 5 * i + 2) c (iI q) else M)) 0 0 A := by
  refine g_met (cc := cX0_setPlace) (maxL := 3) (ret := none) (lv := [_, _, _]) (by decide) rfl hD kC_loc (List.forall_mem_cons.mpr ⟨rfl, List.forall_mem_cons.mpr ⟨rfl, List.forall_mem_cons.mpr ⟨rfl, fun _ h => absurd h List.not_mem_nil⟩⟩⟩) (Nat.le_of_ble_eq_true rfl) rfl ?_
  intro J G
  have f19 : Cond.fieldLink RX0 19 "SharedPage$Copy" "places" "[I" ∈ wsX0_setPlace := by decide +kernel
  have hinX0 : ∀ w ∈ u_ws RX0 TX0 12, w ∈ wsX0_setPlace := fun w h => List.mem_cons_of_mem _ (List.mem_append_right _ h)
  refine g_iload_n (pc := 0) G dX0_setPlace_0 rfl ?_
  refine g_if_lt (pc := 1) G (by first | assumption | omega) 17 dX0_setPlace_1 (by decide) (fun h1 => ?_) (fun h1 => ?_)
  · -- 1 t
    refine g_vret (pc := 17) G dX0_setPlace_17 ?_
    refine ⟨rfl, rfl, ?_⟩
    (repeat' split) <;> first | rfl | omega
  · -- 1 f
    refine g_iload_n (pc := 4) G dX0_setPlace_4 rfl ?_
    refine g_bipush (pc := 5) G dX0_setPlace_5 rfl ?_
    refine g_icmp_ge (pc := 7) G (by first | assumption | omega) (by first | assumption | omega) 17 dX0_setPlace_7 (by decide) (fun h7 => ?_) (fun h7 => ?_)
    · -- 7 t
      refine g_vret (pc := 17) G dX0_setPlace_17 ?_
      refine ⟨rfl, rfl, ?_⟩
      (repeat' split) <;> first | rfl | omega
    · -- 7 f
      refine g_aload_n (pc := 10) G dX0_setPlace_10 rfl ?_
      refine g_getR (pc := 11) G hinX0 (oCopy i hi) rfl 2 (by decide) f19 rfl rfl dX0_setPlace_11 ?_
      refine g_iload_n (pc := 14) G dX0_setPlace_14 rfl ?_
      refine g_iload_n (pc := 15) G dX0_setPlace_15 rfl ?_
      refine g_iast (pc := 16) G (aCopy60 i 2 hi (by omega) (by omega)) (by omega) dX0_setPlace_16 ?_
      refine g_vret (pc := 17) G dX0_setPlace_17 ?_
      refine ⟨rfl, rfl, ?_⟩
      (repeat' split) <;> first | rfl | omega
set_option maxHeartbeats 4000000 in
set_option maxRecDepth 100000 in
theorem kX0_setState {l : Launch} {D : va_G} {cI cZ cJ cT cC : ClassId} {ad : Nat → Nat} {A : Nat → Prop} (hD : ∀ g : Nat → va_E, va_D A (sjW 89 ad g)) (i : Nat) (hi : i < 12) (k q : Int) (hk : rng k) (M : sjM) (L : sjL)  : Met l yX0_setState wsX0_setState { frames := 0, cells := 0, slots := 0, locals := 0 } (sjA D cI cZ cJ cT cC 89 ad (kC cI cZ cJ cT cC ad) [.ref (ad (29 + 5 * i)), .int (iI k), .int (iI q)] M L) (sjZ D 89 ad (kC cI cZ cJ cT cC ad) A (fun v M' L' => v = none ∧ L = L' ∧ M' = if 0 ≤ k ∧ k < 160 then sjU M (29 + 5 * i + 4) k (iI q) else M)) 0 0 A := by
  refine g_met (cc := cX0_setState) (maxL := 3) (ret := none) (lv := [_, _, _]) (by decide) rfl hD kC_loc (List.forall_mem_cons.mpr ⟨rfl, List.forall_mem_cons.mpr ⟨rfl, List.forall_mem_cons.mpr ⟨rfl, fun _ h => absurd h List.not_mem_nil⟩⟩⟩) (Nat.le_of_ble_eq_true rfl) rfl ?_
  intro J G
  have f26 : Cond.fieldLink RX0 26 "SharedPage$Copy" "states" "[I" ∈ wsX0_setState := by decide +kernel
  have hinX0 : ∀ w ∈ u_ws RX0 TX0 12, w ∈ wsX0_setState := fun w h => List.mem_cons_of_mem _ (List.mem_append_right _ h)
  refine g_iload_n (pc := 0) G dX0_setState_0 rfl ?_
  refine g_if_lt (pc := 1) G (by first | assumption | omega) 18 dX0_setState_1 (by decide) (fun h1 => ?_) (fun h1 => ?_)
  · -- 1 t
    refine g_vret (pc := 18) G dX0_setState_18 ?_
    refine ⟨rfl, rfl, ?_⟩
    (repeat' split) <;> first | rfl | omega
  · -- 1 f
    refine g_iload_n (pc := 4) G dX0_setState_4 rfl ?_
    refine g_sipush (pc := 5) G dX0_setState_5 rfl ?_
    refine g_icmp_ge (pc := 8) G (by first | assumption | omega) (by first | assumption | omega) 18 dX0_setState_8 (by decide) (fun h8 => ?_) (fun h8 => ?_)
    · -- 8 t
      refine g_vret (pc := 18) G dX0_setState_18 ?_
      refine ⟨rfl, rfl, ?_⟩
      (repeat' split) <;> first | rfl | omega
    · -- 8 f
      refine g_aload_n (pc := 11) G dX0_setState_11 rfl ?_
      refine g_getR (pc := 12) G hinX0 (oCopy i hi) rfl 4 (by decide) f26 rfl rfl dX0_setState_12 ?_
      refine g_iload_n (pc := 15) G dX0_setState_15 rfl ?_
      refine g_iload_n (pc := 16) G dX0_setState_16 rfl ?_
      refine g_iast (pc := 17) G (aCopyS i hi) (by omega) dX0_setState_17 ?_
      refine g_vret (pc := 18) G dX0_setState_18 ?_
      refine ⟨rfl, rfl, ?_⟩
      (repeat' split) <;> first | rfl | omega
set_option maxHeartbeats 4000000 in
set_option maxRecDepth 100000 in
theorem kX0_startCall {l : Launch} {D : va_G} {cI cZ cJ cT cC : ClassId} {ad : Nat → Nat} {A : Nat → Prop} (hD : ∀ g : Nat → va_E, va_D A (sjW 89 ad g)) (i : Nat) (hi : i < 12) (M : sjM) (L : sjL)  : Met l yX0_startCall wsX0_startCall { frames := 0, cells := 0, slots := 0, locals := 0 } (sjA D cI cZ cJ cT cC 89 ad (kC cI cZ cJ cT cC ad) [.ref (ad (29 + 5 * i))] M L) (sjZ D 89 ad (kC cI cZ cJ cT cC ad) A (fun v M' L' => v = none ∧ L = L' ∧ M' = sjU (sjU M (29 + 5 * i) 5 (iI 0)) (29 + 5 * i) 6 (iI 0))) 0 0 A := by
  refine g_met (cc := cX0_startCall) (maxL := 1) (ret := none) (lv := [_]) (by decide) rfl hD kC_loc (List.forall_mem_cons.mpr ⟨rfl, fun _ h => absurd h List.not_mem_nil⟩) (Nat.le_of_ble_eq_true rfl) rfl ?_
  intro J G
  have f48 : Cond.fieldLink RX0 48 "SharedPage$Copy" "looksOfCall" "I" ∈ wsX0_startCall := by decide +kernel
  have f51 : Cond.fieldLink RX0 51 "SharedPage$Copy" "integratedInCall" "I" ∈ wsX0_startCall := by decide +kernel
  have hinX0 : ∀ w ∈ u_ws RX0 TX0 12, w ∈ wsX0_startCall := fun w h => List.mem_cons_of_mem _ (List.mem_append_right _ h)
  refine g_aload_n (pc := 0) G dX0_startCall_0 rfl ?_
  refine g_iconst (pc := 1) G dX0_startCall_1 ?_
  refine g_put (pc := 2) G tyX0 tyX0_ok nmX0 hinX0 (oCopy i hi) rfl 10 (by decide) (pCopy5 _ _) f48 rfl rfl rfl dX0_startCall_2 ?_
  refine g_aload_n (pc := 5) G dX0_startCall_5 rfl ?_
  refine g_iconst (pc := 6) G dX0_startCall_6 ?_
  refine g_put (pc := 7) G tyX0 tyX0_ok nmX0 hinX0 (oCopy i hi) rfl 11 (by decide) (pCopy6 _ _) f51 rfl rfl rfl dX0_startCall_7 ?_
  refine g_vret (pc := 10) G dX0_startCall_10 ?_
  exact ⟨rfl, rfl, rfl⟩
set_option maxHeartbeats 4000000 in
set_option maxRecDepth 100000 in
theorem kX0_endCall {l : Launch} {D : va_G} {cI cZ cJ cT cC : ClassId} {ad : Nat → Nat} {A : Nat → Prop} (hD : ∀ g : Nat → va_E, va_D A (sjW 89 ad g)) (i : Nat) (hi : i < 12) (M : sjM) (L : sjL)  : Met l yX0_endCall wsX0_endCall { frames := 0, cells := 0, slots := 0, locals := 0 } (sjA D cI cZ cJ cT cC 89 ad (kC cI cZ cJ cT cC ad) [.ref (ad (29 + 5 * i))] M L) (sjZ D 89 ad (kC cI cZ cJ cT cC ad) A (fun v M' L' => v = none ∧ L = L' ∧ M' = if 0 < (M (29 + 5 * i) 6).toInt then sjU M (29 + 5 * i) 4 (M (29 + 5 * i) 5) else M)) 0 0 A := by
  refine g_met (cc := cX0_endCall) (maxL := 1) (ret := none) (lv := [_]) (by decide) rfl hD kC_loc (List.forall_mem_cons.mpr ⟨rfl, fun _ h => absurd h List.not_mem_nil⟩) (Nat.le_of_ble_eq_true rfl) rfl ?_
  intro J G
  have f45 : Cond.fieldLink RX0 45 "SharedPage$Copy" "looks" "I" ∈ wsX0_endCall := by decide +kernel
  have f48 : Cond.fieldLink RX0 48 "SharedPage$Copy" "looksOfCall" "I" ∈ wsX0_endCall := by decide +kernel
  have f51 : Cond.fieldLink RX0 51 "SharedPage$Copy" "integratedInCall" "I" ∈ wsX0_endCall := by decide +kernel
  have hinX0 : ∀ w ∈ u_ws RX0 TX0 12, w ∈ wsX0_endCall := fun w h => List.mem_cons_of_mem _ (List.mem_append_right _ h)
  refine g_aload_n (pc := 0) G dX0_endCall_0 rfl ?_
  refine g_getI (pc := 1) G hinX0 (oCopy i hi) rfl 11 (by decide) f51 rfl rfl dX0_endCall_1 ?_
  refine g_if_le (pc := 4) G (rg _) 15 dX0_endCall_4 (by decide) (fun h4 => ?_) (fun h4 => ?_)
  · -- 4 t
    refine g_vret (pc := 15) G dX0_endCall_15 ?_
    refine ⟨rfl, rfl, ?_⟩
    (repeat' split) <;> first | rfl | omega | (rw [iI_of])
  · -- 4 f
    refine g_aload_n (pc := 7) G dX0_endCall_7 rfl ?_
    refine g_aload_n (pc := 8) G dX0_endCall_8 rfl ?_
    refine g_getI (pc := 9) G hinX0 (oCopy i hi) rfl 10 (by decide) f48 rfl rfl dX0_endCall_9 ?_
    refine g_put (pc := 12) G tyX0 tyX0_ok nmX0 hinX0 (oCopy i hi) rfl 9 (by decide) (pCopy4 _ _) f45 rfl rfl rfl dX0_endCall_12 ?_
    refine g_vret (pc := 15) G dX0_endCall_15 ?_
    refine ⟨rfl, rfl, ?_⟩
    (repeat' split) <;> first | rfl | omega | (rw [iI_of])
