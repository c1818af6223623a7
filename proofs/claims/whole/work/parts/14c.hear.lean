theorem ready_rg {T X : aS} (ht : tInv T) : rng (aReady T X) := by
  by_cases h : aReady T X = -1
  · rw [h]; exact ⟨by decide, by decide⟩
  · obtain ⟨h1, -, -⟩ := ready_spec ht h
    exact ⟨by have := h1.1; omega, by have := h1.2.2; omega⟩
set_option maxHeartbeats 4000000 in
set_option maxRecDepth 100000 in
theorem kX0_hear {l : Launch} {D : va_G} {cI cZ cJ cT cC : ClassId} {ad : Nat → Nat} {A : Nat → Prop} (hD : ∀ g : Nat → va_E, va_D A (sjW 89 ad g)) (i : Nat) (hi : i < 12) (k : Int) (hk : rng k) (M : sjM) (L : sjL) (lt : Int → Int → Prop) (ht : tInv (vT M (tI i))) (ho : oOK (vT M (tI i)) (decide (tI i = 0)) lt) (hin : cInv (vT M (tI i)) lt (vX M i)) : Met l yX0_hear wsX0_hear { frames := 5, cells := 0, slots := 0, locals := 116 } (sjA D cI cZ cJ cT cC 89 ad (kC cI cZ cJ cT cC ad) [.ref (ad (29 + 5 * i)), .int (iI k)] M L) (sjZ D 89 ad (kC cI cZ cJ cT cC ad) A (fun v M' L' => L = L' ∧ onC M M' i ∧ vX M' i = (aHear (vT M (tI i)) (decide (tI i = 0)) (vX M i) k).1 ∧ v = some (.int (iI (aHear (vT M (tI i)) (decide (tI i = 0)) (vX M i) k).2)))) 0 0 A := by
  refine g_met (cc := cX0_hear) (maxL := 5) (ret := (some .int)) (lv := [_, _, _, _, _]) (by decide) rfl hD kC_loc (List.forall_mem_cons.mpr ⟨rfl, List.forall_mem_cons.mpr ⟨rfl, fun _ h => absurd h List.not_mem_nil⟩⟩) (Nat.le_of_ble_eq_true rfl) rfl ?_
  intro J G
  have f9 : Cond.fieldLink RX0 9 "SharedPage$Copy" "text" "LSharedPage$Text;" ∈ wsX0_hear := by decide +kernel
  have f42 : Cond.fieldLink RX0 42 "SharedPage$Copy" "waiting" "I" ∈ wsX0_hear := by decide +kernel
  have hinX0 : ∀ w ∈ u_ws RX0 TX0 12, w ∈ wsX0_hear := fun w h => List.mem_cons_of_mem _ (List.mem_append_left _ (List.mem_append_right _ h))
  have loop : ∀ (n : Nat) (t n0 : Int) (M1 : sjM) (x4 : Option Value), 0 ≤ t → t ≤ 160 → (160 - t).toNat < n → onC M M1 i → cInv (vT M (tI i)) lt (vX M1 i) → aSettle (vT M (tI i)) (decide (tI i = 0)) (160 - t).toNat (vX M1 i) n0 = aHear (vT M (tI i)) (decide (tI i = 0)) (vX M i) k → J 56 M1 L [some (.ref (ad (29 + 5 * i))), some (.int (iI k)), some (.int (iI n0)), some (.int (iI t)), x4] [] := by
    intro n
    induction n with
    | zero => intro t n0 M1 x4 _ _ h; omega
    | succ n ih =>
      intro t n0 M1 x4 ht0 ht1 hn ho1 hin hR
      have hT1 : vT M1 (tI i) = (vT M (tI i)) := onC_T ho1 _ (tI_lt i)
      refine g_iload_n (pc := 56) G dX0_hear_56 rfl ?_
      refine g_sipush (pc := 57) G dX0_hear_57 rfl ?_
      refine g_icmp_ge (pc := 60) G (by omega) (by omega) 103 dX0_hear_60 (by decide) (fun h60 => ?_) (fun h60 => ?_)
      · -- 60 t
        rw [show (160 - t).toNat = 0 by omega, aSettle] at hR
        refine g_iload_n G dX0_hear_103 rfl ?_
        refine g_iret G dX0_hear_104 ?_
        exact ⟨rfl, ho1, by rw [← hR], by rw [← hR]⟩
      · -- 60 f
        rw [show (160 - t).toNat = (160 - (t + 1)).toNat + 1 by omega, aSettle] at hR
        --go
        refine g_aload_n (pc := 63) G dX0_hear_63 rfl ?_
        refine g_call (pc := 64) (n := 0) (As := []) G (kX0_leastReady hD i hi M1 L) gX0_hear_X0_leastReady (oCopy i hi) rfl rfl hdX0_leastReady rfl rfl ⟨Nat.le_of_ble_eq_true rfl, Nat.le_of_ble_eq_true rfl⟩ rfl rfl (Nat.le_of_ble_eq_true rfl) dX0_hear_64 ?_
        rintro _ _ _ ⟨rfl, rfl, rfl⟩
        rw [hT1]
        refine g_istore (pc := 67) (lv' := [_, _, _, _, _]) G dX0_hear_67 (by decide) rfl ?_
        refine g_iload (pc := 69) G dX0_hear_69 rfl ?_
        refine g_iconst (pc := 71) G dX0_hear_71 ?_
        refine g_icmp_ne (pc := 72) G (ready_rg ht) (by omega) 78 dX0_hear_72 (by decide) (fun h72 => ?_) (fun h72 => ?_)
        · -- 72 t
          rw [if_neg h72] at hR
          have hst := settle_step ht ho hin h72
          --go
          refine g_aload_n (pc := 78) G dX0_hear_78 rfl ?_
          refine g_dup (pc := 79) G dX0_hear_79 rfl ?_
          refine g_getI (pc := 80) G hinX0 (oCopy i hi) rfl 8 (by decide) f42 rfl rfl dX0_hear_80 ?_
          refine g_iconst (pc := 83) G dX0_hear_83 ?_
          refine g_isub (pc := 84) G dX0_hear_84 ?_
          refine g_put (pc := 85) G tyX0 tyX0_ok nmX0 hinX0 (oCopy i hi) rfl 8 (by decide) (pCopy3 _ _) f42 rfl rfl rfl dX0_hear_85 ?_
          refine g_mem (fun M2 L2 hM2 hL2 => ?_)
          subst hL2
          have hv2 : vX M2 i = aUp (vX M1 i) 0 3 (vX M1 i 0 3 - 1) := by
            rw [hM2, vX_U0, ← vX_0 M1 i 3, iI_toInt ?_]
            have := rg (M1 (29 + 5 * i) 3)
            have hw := wait_pos ht hin h72
            rw [vX_0] at hw ⊢
            omega
          have ho2 : onC M1 M2 i := by rw [hM2]; exact onC_U0 _ i _ _
          clear hM2
          have hT2 : vT M2 (tI i) = (vT M (tI i)) := by rw [onC_T ho2 _ (tI_lt i), hT1]
          refine g_aload_n (pc := 88) G dX0_hear_88 rfl ?_
          refine g_iload (pc := 89) G dX0_hear_89 rfl ?_
          refine g_call (pc := 91) (n := 1) (As := [_]) G (kX0_carryOut hD i hi _ M2 L2 (by rw [hT2, hv2]; exact hst.1)) gX0_hear_X0_carryOut (oCopy i hi) rfl rfl hdX0_carryOut rfl rfl ⟨Nat.le_of_ble_eq_true rfl, Nat.le_of_ble_eq_true rfl⟩ rfl rfl (Nat.le_of_ble_eq_true rfl) dX0_hear_91 ?_
          rintro _ M3 _ ⟨rfl, rfl, ho3, hv3⟩
          rw [hT2, hv2] at hv3
          refine g_iinc (pc := 94) (lv' := [_, _, _, _, _]) G dX0_hear_94 (by decide) rfl rfl ?_
          refine g_iinc (pc := 97) (lv' := [_, _, _, _, _]) G dX0_hear_97 (by decide) rfl rfl ?_
          refine g_goto (pc := 100) G 56 dX0_hear_100 (by decide) ?_
          exact ih (t + 1) (n0 + 1) M3 _ (by omega) (by omega) (by omega) (onC_tr ho1 (onC_tr ho2 ho3)) (by rw [hv3]; exact hst.2) (by rw [hv3]; exact hR)
        · -- 72 f
          rw [if_pos h72] at hR
          --go
          refine g_goto (pc := 75) G 103 dX0_hear_75 (by decide) ?_
          refine g_iload_n G dX0_hear_103 rfl ?_
          refine g_iret G dX0_hear_104 ?_
          exact ⟨rfl, ho1, by rw [← hR], by rw [← hR]⟩
  refine g_aload_n (pc := 0) G dX0_hear_0 rfl ?_
  refine g_getR (pc := 1) G hinX0 (oCopy i hi) rfl 0 (by decide) f9 rfl rfl dX0_hear_1 ?_
  refine g_iload_n (pc := 4) G dX0_hear_4 rfl ?_
  refine g_call (pc := 5) (n := 1) (As := [_]) G (kX2_hasMessage hD (tI i) (tI_lt i) k hk M L) gX0_hear_X2_hasMessage (oText _ (tI_lt i)) rfl rfl hdX2_hasMessage rfl rfl ⟨Nat.le_of_ble_eq_true rfl, Nat.le_of_ble_eq_true rfl⟩ rfl rfl (Nat.le_of_ble_eq_true rfl) dX0_hear_5 ?_
  rintro _ _ _ ⟨rfl, rfl, rfl⟩
  by_cases qm : aHasM (vT M (tI i)) k
  · rw [if_pos qm]
    refine g_if_eq (pc := 8) G (by omega) 19 dX0_hear_8 (by decide) (fun h => absurd h (by decide)) (fun _ => ?_)
    refine g_aload_n (pc := 11) G dX0_hear_11 rfl ?_
    refine g_iload_n (pc := 12) G dX0_hear_12 rfl ?_
    refine g_call (pc := 13) (n := 1) (As := [_]) G (kX0_stateOf hD i hi k hk M L) gX0_hear_X0_stateOf (oCopy i hi) rfl rfl hdX0_stateOf rfl rfl ⟨Nat.le_of_ble_eq_true rfl, Nat.le_of_ble_eq_true rfl⟩ rfl rfl (Nat.le_of_ble_eq_true rfl) dX0_hear_13 ?_
    rintro _ _ _ ⟨rfl, rfl, rfl⟩
    refine g_if_eq (pc := 16) G (rg_st _ _ _) 21 dX0_hear_16 (by decide) (fun h16 => ?_) (fun h16 => ?_)
    · -- 16 t
      refine g_aload_n (pc := 21) G dX0_hear_21 rfl ?_
      refine g_iload_n (pc := 22) G dX0_hear_22 rfl ?_
      refine g_call (pc := 23) (n := 1) (As := [_]) G (kX0_canBeDone hD i hi k hk M L) gX0_hear_X0_canBeDone (oCopy i hi) rfl rfl hdX0_canBeDone rfl rfl ⟨Nat.le_of_ble_eq_true rfl, Nat.le_of_ble_eq_true rfl⟩ rfl rfl (Nat.le_of_ble_eq_true rfl) dX0_hear_23 ?_
      rintro _ _ _ ⟨rfl, rfl, rfl⟩
      by_cases qc : aCan (vT M (tI i)) (vX M i) k
      · rw [if_pos qc]
        refine g_if_ne (pc := 26) G (by omega) 47 dX0_hear_26 (by decide) (fun _ => ?_) (fun h => absurd h (by decide))
        refine g_aload_n (pc := 47) G dX0_hear_47 rfl ?_
        refine g_iload_n (pc := 48) G dX0_hear_48 rfl ?_
        refine g_call (pc := 49) (n := 1) (As := [_]) G (kX0_carryOut hD i hi k M L (hear_step ht ho hin qm h16 qc).1) gX0_hear_X0_carryOut (oCopy i hi) rfl rfl hdX0_carryOut rfl rfl ⟨Nat.le_of_ble_eq_true rfl, Nat.le_of_ble_eq_true rfl⟩ rfl rfl (Nat.le_of_ble_eq_true rfl) dX0_hear_49 ?_
        rintro _ M1 _ ⟨rfl, rfl, ho1, hv1⟩
        refine g_iconst (pc := 52) G dX0_hear_52 ?_
        refine g_istore_n (pc := 53) (lv' := [_, _, _, _, _]) G dX0_hear_53 (by decide) rfl ?_
        refine g_iconst (pc := 54) G dX0_hear_54 ?_
        refine g_istore_n (pc := 55) (lv' := [_, _, _, _, _]) G dX0_hear_55 (by decide) rfl ?_
        have hne : ¬ (¬ aHasM (vT M (tI i)) k ∨ ¬ aSt (vX M i) k = 0) := fun q => by rcases q with q | q; exact q qm; exact q h16
        exact loop _ 0 1 M1 _ (by omega) (by omega) (Nat.lt_succ_self _) ho1 (by rw [hv1]; exact (hear_step ht ho hin qm h16 qc).2) (by rw [aHear, if_neg hne, if_neg (fun q => q qc), hv1]; rfl)
      · rw [if_neg qc]
        refine g_if_ne (pc := 26) G (by omega) 47 dX0_hear_26 (by decide) (fun h => absurd h (by decide)) (fun _ => ?_)
        refine g_aload_n (pc := 29) G dX0_hear_29 rfl ?_
        refine g_iload_n (pc := 30) G dX0_hear_30 rfl ?_
        refine g_iconst (pc := 31) G dX0_hear_31 ?_
        refine g_call (pc := 32) (n := 2) (As := [_, _]) G (kX0_setState hD i hi k 1 hk M L) gX0_hear_X0_setState (oCopy i hi) rfl rfl hdX0_setState rfl rfl ⟨Nat.le_of_ble_eq_true rfl, Nat.le_of_ble_eq_true rfl⟩ rfl rfl (Nat.le_of_ble_eq_true rfl) dX0_hear_32 ?_
        rintro _ M1 _ ⟨rfl, rfl, hM1⟩
        rw [if_pos ⟨qm.1, qm.2.2⟩] at hM1
        have hv1 : vX M1 i = aUp (vX M i) 4 k 1 := by rw [hM1, vX_U _ i 4 _ _ (by omega), iI_toInt ⟨by omega, by omega⟩]
        have ho1 : onC M M1 i := by rw [hM1]; exact onC_U _ i 4 _ _ (by omega)
        clear hM1
        refine g_aload_n (pc := 35) G dX0_hear_35 rfl ?_
        refine g_dup (pc := 36) G dX0_hear_36 rfl ?_
        refine g_getI (pc := 37) G hinX0 (oCopy i hi) rfl 8 (by decide) f42 rfl rfl dX0_hear_37 ?_
        refine g_iconst (pc := 40) G dX0_hear_40 ?_
        refine g_iadd (pc := 41) G dX0_hear_41 ?_
        refine g_put (pc := 42) G tyX0 tyX0_ok nmX0 hinX0 (oCopy i hi) rfl 8 (by decide) (pCopy3 _ _) f42 rfl rfl rfl dX0_hear_42 ?_
        refine g_iconst (pc := 45) G dX0_hear_45 ?_
        refine g_iret (pc := 46) G dX0_hear_46 ?_
        have hne : ¬ (¬ aHasM (vT M (tI i)) k ∨ ¬ aSt (vX M i) k = 0) := fun q => by rcases q with q | q; exact q qm; exact q h16
        refine ⟨rfl, onC_tr ho1 (onC_U0 _ i _ _), ?_, ?_⟩
        · rw [aHear, if_neg hne, if_pos qc, vX_U0, hv1, ← vX_0 M1 i 3, hv1, iI_toInt ?_]
          · rfl
          · rw [show aUp (vX M i) 4 k 1 0 3 = (vX M i) 0 3 from rfl, hin.2.2.2.2]
            have := cn_le (f := fun k' => iq ((vX M i) 4 k') 1) 160 (fun q _ _ => iq_01 _ _)
            unfold nSt
            omega
        · rw [aHear, if_neg hne, if_pos qc]
    · -- 16 f
      refine g_iconst (pc := 19) G dX0_hear_19 ?_
      refine g_iret (pc := 20) G dX0_hear_20 ?_
      first | exact ⟨rfl, onC_rf M i, by rw [aHear, if_pos (Or.inl qm)], by rw [aHear, if_pos (Or.inl qm)]⟩ | exact ⟨rfl, onC_rf M i, by rw [aHear, if_pos (Or.inr h16)], by rw [aHear, if_pos (Or.inr h16)]⟩
  · rw [if_neg qm]
    refine g_if_eq (pc := 8) G (by omega) 19 dX0_hear_8 (by decide) (fun _ => ?_) (fun h => absurd h (by decide))
    refine g_iconst (pc := 19) G dX0_hear_19 ?_
    refine g_iret (pc := 20) G dX0_hear_20 ?_
    first | exact ⟨rfl, onC_rf M i, by rw [aHear, if_pos (Or.inl qm)], by rw [aHear, if_pos (Or.inl qm)]⟩ | exact ⟨rfl, onC_rf M i, by rw [aHear, if_pos (Or.inr h16)], by rw [aHear, if_pos (Or.inr h16)]⟩
