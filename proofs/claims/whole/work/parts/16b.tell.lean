set_option maxHeartbeats 4000000 in
set_option maxRecDepth 100000 in
theorem kX3_state {l : Launch} {D : va_G} {cI cZ cJ cT cC : ClassId} {ad : Nat → Nat} {A : Nat → Prop} (hD : ∀ g : Nat → va_E, va_D A (sjW 89 ad g)) (x y k : Int) (hx : rng x) (hy : rng y) (hk : rng k) (M : sjM) (L : sjL)  : Met l yX3_state wsX3_state { frames := 1, cells := 0, slots := 0, locals := 23 } (sjA D cI cZ cJ cT cC 89 ad (kC cI cZ cJ cT cC ad) [.ref (ad 0), .int (iI x), .int (iI y), .int (iI k)] M L) (sjZ D 89 ad (kC cI cZ cJ cT cC ad) A (fun v M' L' => M = M' ∧ L = L' ∧ v = some (.int (iI (if okTS x y ∧ aHasM (vT M (tI (x * 5 + y).toNat)) k then aSt (vX M (x * 5 + y).toNat) k else -1))))) 0 0 A := by
  refine g_met (cc := cX3_state) (maxL := 5) (ret := (some .int)) (lv := [_, _, _, _, _]) (by decide) rfl hD kC_loc (List.forall_mem_cons.mpr ⟨rfl, List.forall_mem_cons.mpr ⟨rfl, List.forall_mem_cons.mpr ⟨rfl, List.forall_mem_cons.mpr ⟨rfl, fun _ h => absurd h List.not_mem_nil⟩⟩⟩⟩) (Nat.le_of_ble_eq_true rfl) rfl ?_
  intro J G
  have f62 : Cond.fieldLink RX3 62 "SharedPage$Copy" "text" "LSharedPage$Text;" ∈ wsX3_state := by decide +kernel
  have hinX0 : ∀ w ∈ u_ws RX0 TX0 12, w ∈ wsX3_state := fun w h => List.mem_cons_of_mem _ (List.mem_append_left _ (List.mem_append_left _ (List.mem_append_right _ h)))
  refine g_aload_n (pc := 0) G dX3_state_0 rfl ?_
  refine g_iload_n (pc := 1) G dX3_state_1 rfl ?_
  refine g_iload_n (pc := 2) G dX3_state_2 rfl ?_
  refine g_call (pc := 3) (n := 2) (As := [_, _]) G (kX3_copyAt hD x y hx hy M L) gX3_state_X3_copyAt oPage rfl rfl hdX3_copyAt rfl rfl ⟨Nat.le_of_ble_eq_true rfl, Nat.le_of_ble_eq_true rfl⟩ rfl rfl (Nat.le_of_ble_eq_true rfl) dX3_state_3 ?_
  rintro _ _ _ ⟨rfl, rfl, qv⟩
  rcases qv with ⟨qv, rfl⟩ | ⟨qv, rfl⟩
  · generalize hie : (x * 5 + y).toNat = i
    have hi : i < 12 := by omega
    have hi10 : i < 10 := by omega
    refine g_astore (pc := 6) (lv' := [_, _, _, _, _]) G dX3_state_6 (by decide) rfl ?_
    refine g_aload (pc := 8) G dX3_state_8 rfl ?_
    refine g_ifnull (pc := 10) G dX3_state_10 ?_
    refine g_aload (pc := 13) G dX3_state_13 rfl ?_
    refine g_getR (pc := 15) G hinX0 (oCopy i hi) rfl 0 (by decide) f62 rfl rfl dX3_state_15 ?_
    refine g_iload_n (pc := 18) G dX3_state_18 rfl ?_
    refine g_call (pc := 19) (n := 1) (As := [_]) G (kX2_hasMessage hD (tI i) (tI_lt i) k hk M L) gX3_state_X2_hasMessage (oText _ (tI_lt i)) rfl rfl hdX2_hasMessage rfl rfl ⟨Nat.le_of_ble_eq_true rfl, Nat.le_of_ble_eq_true rfl⟩ rfl rfl (Nat.le_of_ble_eq_true rfl) dX3_state_19 ?_
    rintro _ _ _ ⟨rfl, rfl, rfl⟩
    by_cases qm : aHasM (vT M (tI i)) k
    · rw [if_pos qm]
      refine g_if_ne (pc := 22) G (by omega) 27 dX3_state_22 (by decide) (fun _ => ?_) (fun h => absurd h (by decide))
      refine g_aload (pc := 27) G dX3_state_27 rfl ?_
      refine g_iload_n (pc := 29) G dX3_state_29 rfl ?_
      refine g_call (pc := 30) (n := 1) (As := [_]) G (kX0_stateOf hD i hi k hk M L) gX3_state_X0_stateOf (oCopy i hi) rfl rfl hdX0_stateOf rfl rfl ⟨Nat.le_of_ble_eq_true rfl, Nat.le_of_ble_eq_true rfl⟩ rfl rfl (Nat.le_of_ble_eq_true rfl) dX3_state_30 ?_
      rintro _ _ _ ⟨rfl, rfl, rfl⟩
      refine g_iret (pc := 33) G dX3_state_33 ?_
      exact ⟨rfl, rfl, by rw [hie, if_pos ⟨qv, qm⟩]⟩
    · rw [if_neg qm]
      refine g_if_ne (pc := 22) G (by omega) 27 dX3_state_22 (by decide) (fun h => absurd h (by decide)) (fun _ => ?_)
      refine g_iconst (pc := 25) G dX3_state_25 ?_
      refine g_iret (pc := 26) G dX3_state_26 ?_
      first | exact ⟨rfl, rfl, by rw [if_neg (fun q => qv q.1)]⟩ | exact ⟨rfl, rfl, by rw [hie, if_neg (fun q => qm q.2)]⟩
  · skip
    refine g_astoreN (pc := 6) (lv' := [_, _, _, _, _]) G dX3_state_6 (by decide) rfl ?_
    refine g_aloadN (pc := 8) G dX3_state_8 rfl ?_
    refine g_ifnullN (pc := 10) G 25 dX3_state_10 (by decide) ?_
    refine g_iconst (pc := 25) G dX3_state_25 ?_
    refine g_iret (pc := 26) G dX3_state_26 ?_
    first | exact ⟨rfl, rfl, by rw [if_neg (fun q => qv q.1)]⟩ | exact ⟨rfl, rfl, by rw [hie, if_neg (fun q => qm q.2)]⟩
set_option maxHeartbeats 4000000 in
set_option maxRecDepth 100000 in
theorem kX3_tell {l : Launch} {D : va_G} {cI cZ cJ cT cC : ClassId} {ad : Nat → Nat} {A : Nat → Prop} (hD : ∀ g : Nat → va_E, va_D A (sjW 89 ad g)) (x y k : Int) (hx : rng x) (hy : rng y) (hk : rng k) (M : sjM) (L : sjL) (lt : Nat → Int → Int → Prop) (hI : pInv M lt) : Met l yX3_tell wsX3_tell { frames := 6, cells := 0, slots := 0, locals := 140 } (sjA D cI cZ cJ cT cC 89 ad (kC cI cZ cJ cT cC ad) [.ref (ad 0), .int (iI x), .int (iI y), .int (iI k)] M L) (sjZ D 89 ad (kC cI cZ cJ cT cC ad) A (fun v M' L' => L = L' ∧ ((okTS x y ∧ aHasM (vT M (tI (x * 5 + y).toNat)) k ∧ onC M M' (x * 5 + y).toNat ∧ vX M' (x * 5 + y).toNat = aEnd (aHear (vT M (tI (x * 5 + y).toNat)) (decide (tI (x * 5 + y).toNat = 0)) (aStart (vX M (x * 5 + y).toNat)) k).1 ∧ v = some (.int (iI (aHear (vT M (tI (x * 5 + y).toNat)) (decide (tI (x * 5 + y).toNat = 0)) (aStart (vX M (x * 5 + y).toNat)) k).2))) ∨ (¬ (okTS x y ∧ aHasM (vT M (tI (x * 5 + y).toNat)) k) ∧ M' = M ∧ v = some (.int (iI (-1))))))) 0 0 A := by
  refine g_met (cc := cX3_tell) (maxL := 6) (ret := (some .int)) (lv := [_, _, _, _, _, _]) (by decide) rfl hD kC_loc (List.forall_mem_cons.mpr ⟨rfl, List.forall_mem_cons.mpr ⟨rfl, List.forall_mem_cons.mpr ⟨rfl, List.forall_mem_cons.mpr ⟨rfl, fun _ h => absurd h List.not_mem_nil⟩⟩⟩⟩) (Nat.le_of_ble_eq_true rfl) rfl ?_
  intro J G
  have f62 : Cond.fieldLink RX3 62 "SharedPage$Copy" "text" "LSharedPage$Text;" ∈ wsX3_tell := by decide +kernel
  have hinX0 : ∀ w ∈ u_ws RX0 TX0 12, w ∈ wsX3_tell := fun w h => List.mem_cons_of_mem _ (List.mem_append_left _ (List.mem_append_left _ (List.mem_append_right _ h)))
  refine g_aload_n (pc := 0) G dX3_tell_0 rfl ?_
  refine g_iload_n (pc := 1) G dX3_tell_1 rfl ?_
  refine g_iload_n (pc := 2) G dX3_tell_2 rfl ?_
  refine g_call (pc := 3) (n := 2) (As := [_, _]) G (kX3_copyAt hD x y hx hy M L) gX3_tell_X3_copyAt oPage rfl rfl hdX3_copyAt rfl rfl ⟨Nat.le_of_ble_eq_true rfl, Nat.le_of_ble_eq_true rfl⟩ rfl rfl (Nat.le_of_ble_eq_true rfl) dX3_tell_3 ?_
  rintro _ _ _ ⟨rfl, rfl, qv⟩
  rcases qv with ⟨qv, rfl⟩ | ⟨qv, rfl⟩
  · generalize hie : (x * 5 + y).toNat = i
    have hi : i < 12 := by omega
    have hi10 : i < 10 := by omega
    refine g_astore (pc := 6) (lv' := [_, _, _, _, _, _]) G dX3_tell_6 (by decide) rfl ?_
    refine g_aload (pc := 8) G dX3_tell_8 rfl ?_
    refine g_ifnull (pc := 10) G dX3_tell_10 ?_
    refine g_aload (pc := 13) G dX3_tell_13 rfl ?_
    refine g_getR (pc := 15) G hinX0 (oCopy i hi) rfl 0 (by decide) f62 rfl rfl dX3_tell_15 ?_
    refine g_iload_n (pc := 18) G dX3_tell_18 rfl ?_
    refine g_call (pc := 19) (n := 1) (As := [_]) G (kX2_hasMessage hD (tI i) (tI_lt i) k hk M L) gX3_tell_X2_hasMessage (oText _ (tI_lt i)) rfl rfl hdX2_hasMessage rfl rfl ⟨Nat.le_of_ble_eq_true rfl, Nat.le_of_ble_eq_true rfl⟩ rfl rfl (Nat.le_of_ble_eq_true rfl) dX3_tell_19 ?_
    rintro _ _ _ ⟨rfl, rfl, rfl⟩
    by_cases qm : aHasM (vT M (tI i)) k
    · rw [if_pos qm]
      refine g_if_ne (pc := 22) G (by omega) 27 dX3_tell_22 (by decide) (fun _ => ?_) (fun h => absurd h (by decide))
      refine g_aload (pc := 27) G dX3_tell_27 rfl ?_
      refine g_call (pc := 29) (n := 0) (As := []) G (kX0_startCall hD i hi M L) gX3_tell_X0_startCall (oCopy i hi) rfl rfl hdX0_startCall rfl rfl ⟨Nat.le_of_ble_eq_true rfl, Nat.le_of_ble_eq_true rfl⟩ rfl rfl (Nat.le_of_ble_eq_true rfl) dX3_tell_29 ?_
      rintro _ M1 _ ⟨rfl, rfl, hM1⟩
      have hv1 : vX M1 i = aStart (vX M i) := by rw [hM1, vX_U0, vX_U0]; rfl
      have ho1 : onC M M1 i := by rw [hM1]; exact onC_tr (onC_U0 _ i _ _) (onC_U0 _ i _ _)
      clear hM1
      have hT1 : vT M1 (tI i) = vT M (tI i) := onC_T ho1 _ (tI_lt i)
      obtain ⟨p1, p2, p3⟩ := hI i hi10
      refine g_aload (pc := 32) G dX3_tell_32 rfl ?_
      refine g_iload_n (pc := 34) G dX3_tell_34 rfl ?_
      refine g_call (pc := 35) (n := 1) (As := [_]) G (kX0_hear hD i hi k hk M1 L (lt (tI i)) (by rw [hT1]; exact p1) (by rw [hT1]; exact p2) (by rw [hT1, hv1]; exact start_inv p3)) gX3_tell_X0_hear (oCopy i hi) rfl rfl hdX0_hear rfl rfl ⟨Nat.le_of_ble_eq_true rfl, Nat.le_of_ble_eq_true rfl⟩ rfl rfl (Nat.le_of_ble_eq_true rfl) dX3_tell_35 ?_
      rintro _ M2 _ ⟨rfl, ho2, hv2, rfl⟩
      rw [hT1, hv1] at hv2 ⊢
      refine g_istore (pc := 38) (lv' := [_, _, _, _, _, _]) G dX3_tell_38 (by decide) rfl ?_
      refine g_aload (pc := 40) G dX3_tell_40 rfl ?_
      refine g_call (pc := 42) (n := 0) (As := []) G (kX0_endCall hD i hi M2 L) gX3_tell_X0_endCall (oCopy i hi) rfl rfl hdX0_endCall rfl rfl ⟨Nat.le_of_ble_eq_true rfl, Nat.le_of_ble_eq_true rfl⟩ rfl rfl (Nat.le_of_ble_eq_true rfl) dX3_tell_42 ?_
      rintro _ M3 _ ⟨rfl, rfl, hM3⟩
      refine g_iload (pc := 45) G dX3_tell_45 rfl ?_
      refine g_iret (pc := 47) G dX3_tell_47 ?_
      refine ⟨rfl, Or.inl ?_⟩
      rw [hie]
      have e6 : (M2 (29 + 5 * i) 6).toInt = vX M2 i 0 6 := rfl
      refine ⟨qv, qm, onC_tr ho1 (onC_tr ho2 ?_), ?_, rfl⟩
      · rw [hM3]; split
        · exact onC_U0 _ i _ _
        · exact onC_rf _ i
      · rw [hM3, ← hv2, aEnd, e6]
        split
        · rw [vX_U0]; rfl
        · rfl
    · rw [if_neg qm]
      refine g_if_ne (pc := 22) G (by omega) 27 dX3_tell_22 (by decide) (fun h => absurd h (by decide)) (fun _ => ?_)
      refine g_iconst (pc := 25) G dX3_tell_25 ?_
      refine g_iret (pc := 26) G dX3_tell_26 ?_
      first | exact ⟨rfl, Or.inr ⟨fun q => qv q.1, rfl, rfl⟩⟩ | exact ⟨rfl, Or.inr ⟨by rw [hie]; exact fun q => qm q.2, rfl, rfl⟩⟩
  · skip
    refine g_astoreN (pc := 6) (lv' := [_, _, _, _, _, _]) G dX3_tell_6 (by decide) rfl ?_
    refine g_aloadN (pc := 8) G dX3_tell_8 rfl ?_
    refine g_ifnullN (pc := 10) G 25 dX3_tell_10 (by decide) ?_
    refine g_iconst (pc := 25) G dX3_tell_25 ?_
    refine g_iret (pc := 26) G dX3_tell_26 ?_
    first | exact ⟨rfl, Or.inr ⟨fun q => qv q.1, rfl, rfl⟩⟩ | exact ⟨rfl, Or.inr ⟨by rw [hie]; exact fun q => qm q.2, rfl, rfl⟩⟩
