set_option maxHeartbeats 4000000 in
set_option maxRecDepth 100000 in
theorem kX0_doOwn {l : Launch} {D : va_G} {cI cZ cJ cT cC : ClassId} {ad : Nat → Nat} {A : Nat → Prop} (hD : ∀ g : Nat → va_E, va_D A (sjW 89 ad g)) (i : Nat) (hi : i < 12) (k : Int) (M : sjM) (L : sjL) (hd : doOK (vT M (tI i)) (decide (tI i = 0)) (aStart (vX M i)) k) : Met l yX0_doOwn wsX0_doOwn { frames := 5, cells := 0, slots := 0, locals := 116 } (sjA D cI cZ cJ cT cC 89 ad (kC cI cZ cJ cT cC ad) [.ref (ad (29 + 5 * i)), .int (iI k)] M L) (sjZ D 89 ad (kC cI cZ cJ cT cC ad) A (fun v M' L' => v = none ∧ L = L' ∧ onC M M' i ∧ vX M' i = aEnd (aDo (vT M (tI i)) (decide (tI i = 0)) (aStart (vX M i)) k))) 0 0 A := by
  refine g_met (cc := cX0_doOwn) (maxL := 2) (ret := none) (lv := [_, _]) (by decide) rfl hD kC_loc (List.forall_mem_cons.mpr ⟨rfl, List.forall_mem_cons.mpr ⟨rfl, fun _ h => absurd h List.not_mem_nil⟩⟩) (Nat.le_of_ble_eq_true rfl) rfl ?_
  intro J G
  have f9 : Cond.fieldLink RX0 9 "SharedPage$Copy" "text" "LSharedPage$Text;" ∈ wsX0_doOwn := by decide +kernel
  have hinX0 : ∀ w ∈ u_ws RX0 TX0 12, w ∈ wsX0_doOwn := fun w h => List.mem_cons_of_mem _ (List.mem_append_left _ (List.mem_append_right _ h))
  have hk := hd.1
  have hkr : rng k := ⟨by have := hk.1; omega, by have := hk.2.2; omega⟩
  refine g_aload_n (pc := 0) G dX0_doOwn_0 rfl ?_
  refine g_getR (pc := 1) G hinX0 (oCopy i hi) rfl 0 (by decide) f9 rfl rfl dX0_doOwn_1 ?_
  refine g_iload_n (pc := 4) G dX0_doOwn_4 rfl ?_
  refine g_call (pc := 5) (n := 1) (As := [_]) G (kX2_hasMessage hD (tI i) (tI_lt i) k hkr M L) gX0_doOwn_X2_hasMessage (oText _ (tI_lt i)) rfl rfl hdX2_hasMessage rfl rfl ⟨Nat.le_of_ble_eq_true rfl, Nat.le_of_ble_eq_true rfl⟩ rfl rfl (Nat.le_of_ble_eq_true rfl) dX0_doOwn_5 ?_
  rintro _ _ _ ⟨rfl, rfl, rfl⟩
  rw [if_pos hk]
  refine g_if_ne (pc := 8) G (by omega) 12 dX0_doOwn_8 (by decide) (fun _ => ?_) (fun h => absurd h (by decide))
  refine g_aload_n (pc := 12) G dX0_doOwn_12 rfl ?_
  refine g_call (pc := 13) (n := 0) (As := []) G (kX0_startCall hD i hi M L) gX0_doOwn_X0_startCall (oCopy i hi) rfl rfl hdX0_startCall rfl rfl ⟨Nat.le_of_ble_eq_true rfl, Nat.le_of_ble_eq_true rfl⟩ rfl rfl (Nat.le_of_ble_eq_true rfl) dX0_doOwn_13 ?_
  rintro _ M1 _ ⟨rfl, rfl, hM1⟩
  have hv1 : vX M1 i = aStart (vX M i) := by rw [hM1, vX_U0, vX_U0]; rfl
  have ho1 : onC M M1 i := by rw [hM1]; exact onC_tr (onC_U0 _ i _ _) (onC_U0 _ i _ _)
  clear hM1
  have hT1 : vT M1 (tI i) = (vT M (tI i)) := onC_T ho1 _ (tI_lt i)
  refine g_aload_n (pc := 16) G dX0_doOwn_16 rfl ?_
  refine g_iload_n (pc := 17) G dX0_doOwn_17 rfl ?_
  refine g_call (pc := 18) (n := 1) (As := [_]) G (kX0_carryOut hD i hi k M1 L (by rw [hT1, hv1]; exact hd)) gX0_doOwn_X0_carryOut (oCopy i hi) rfl rfl hdX0_carryOut rfl rfl ⟨Nat.le_of_ble_eq_true rfl, Nat.le_of_ble_eq_true rfl⟩ rfl rfl (Nat.le_of_ble_eq_true rfl) dX0_doOwn_18 ?_
  rintro _ M2 _ ⟨rfl, rfl, ho2, hv2⟩
  rw [hT1, hv1] at hv2
  refine g_aload_n (pc := 21) G dX0_doOwn_21 rfl ?_
  refine g_call (pc := 22) (n := 0) (As := []) G (kX0_endCall hD i hi M2 L) gX0_doOwn_X0_endCall (oCopy i hi) rfl rfl hdX0_endCall rfl rfl ⟨Nat.le_of_ble_eq_true rfl, Nat.le_of_ble_eq_true rfl⟩ rfl rfl (Nat.le_of_ble_eq_true rfl) dX0_doOwn_22 ?_
  rintro _ M3 _ ⟨rfl, rfl, hM3⟩
  refine g_vret (pc := 25) G dX0_doOwn_25 ?_
  have e6 : (M2 (29 + 5 * i) 6).toInt = vX M2 i 0 6 := rfl
  refine ⟨rfl, rfl, onC_tr ho1 (onC_tr ho2 ?_), ?_⟩
  · rw [hM3]; split
    · exact onC_U0 _ i _ _
    · exact onC_rf _ i
  · rw [hM3, ← hv2, aEnd]
    rw [e6]
    split
    · rw [vX_U0]; rfl
    · rfl
