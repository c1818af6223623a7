theorem strike_view (M : sjM) (i : Nat) (c : Int) (qs : aSeen (vX M i) c) (h1 : 0 ≤ (M (29 + 5 * i) 1).toInt) : vX (sjU (sjU M (29 + 5 * i + 3) c (iI 1)) (29 + 5 * i) 1 (iI ((sjU M (29 + 5 * i + 3) c (iI 1) (29 + 5 * i) 1).toInt - 1))) i = aStrike (vX M i) c := by
  have e : (sjU M (29 + 5 * i + 3) c (iI 1) (29 + 5 * i) 1).toInt = vX M i 0 1 := by
    rw [sjU_o (by omega)]
    rfl
  have hr := rg (M (29 + 5 * i) 1)
  rw [vX_U0, vX_U M i 3 c _ (by omega), aStrike, if_pos qs, e, iI_toInt (show rng 1 by omega), iI_toInt (show rng (vX M i 0 1 - 1) by rw [vX_0]; omega)]
set_option maxHeartbeats 4000000 in
set_option maxRecDepth 100000 in
theorem kX0_strike {l : Launch} {D : va_G} {cI cZ cJ cT cC : ClassId} {ad : Nat → Nat} {A : Nat → Prop} (hD : ∀ g : Nat → va_E, va_D A (sjW 89 ad g)) (i : Nat) (hi : i < 12) (c : Int) (hc : rng c) (M : sjM) (L : sjL) (h1 : 0 ≤ (M (29 + 5 * i) 1).toInt) : Met l yX0_strike wsX0_strike { frames := 1, cells := 0, slots := 0, locals := 21 } (sjA D cI cZ cJ cT cC 89 ad (kC cI cZ cJ cT cC ad) [.ref (ad (29 + 5 * i)), .int (iI c)] M L) (sjZ D 89 ad (kC cI cZ cJ cT cC ad) A (fun v M' L' => v = none ∧ L = L' ∧ onC M M' i ∧ vX M' i = aStrike (vX M i) c)) 0 0 A := by
  refine g_met (cc := cX0_strike) (maxL := 2) (ret := none) (lv := [_, _]) (by decide) rfl hD kC_loc (List.forall_mem_cons.mpr ⟨rfl, List.forall_mem_cons.mpr ⟨rfl, fun _ h => absurd h List.not_mem_nil⟩⟩) (Nat.le_of_ble_eq_true rfl) rfl ?_
  intro J G
  have f22 : Cond.fieldLink RX0 22 "SharedPage$Copy" "erased" "[Z" ∈ wsX0_strike := by decide +kernel
  have f36 : Cond.fieldLink RX0 36 "SharedPage$Copy" "seen" "I" ∈ wsX0_strike := by decide +kernel
  have hinX0 : ∀ w ∈ u_ws RX0 TX0 12, w ∈ wsX0_strike := fun w h => List.mem_cons_of_mem _ (List.mem_append_right _ h)
  refine g_aload_n (pc := 0) G dX0_strike_0 rfl ?_
  refine g_iload_n (pc := 1) G dX0_strike_1 rfl ?_
  refine g_call (pc := 2) (n := 1) (As := [_]) G (kX0_isSeen hD i hi c hc M L) gX0_strike_X0_isSeen (oCopy i hi) rfl rfl hdX0_isSeen rfl rfl ⟨Nat.le_of_ble_eq_true rfl, Nat.le_of_ble_eq_true rfl⟩ rfl rfl (Nat.le_of_ble_eq_true rfl) dX0_strike_2 ?_
  rintro _ _ _ ⟨rfl, rfl, rfl⟩
  by_cases qs : aSeen (vX M i) c
  · rw [if_pos qs]
    refine g_if_eq (pc := 5) G (by omega) 31 dX0_strike_5 (by decide) (fun h => absurd h (by decide)) (fun _ => ?_)
    refine g_iload_n (pc := 8) G dX0_strike_8 rfl ?_
    refine g_bipush (pc := 9) G dX0_strike_9 rfl ?_
    refine g_icmp_ge (pc := 11) G (by first | assumption | omega) (by first | assumption | omega) 31 dX0_strike_11 (by decide) (fun h11 => ?_) (fun h11 => ?_)
    · -- 11 t
      exfalso
      have h2 := qs.2.1
      omega
    · -- 11 f
      refine g_aload_n (pc := 14) G dX0_strike_14 rfl ?_
      refine g_getR (pc := 15) G hinX0 (oCopy i hi) rfl 3 (by decide) f22 rfl rfl dX0_strike_15 ?_
      refine g_iload_n (pc := 18) G dX0_strike_18 rfl ?_
      refine g_iconst (pc := 19) G dX0_strike_19 ?_
      refine g_zast (pc := 20) G (aCopyZ i hi) (by have h1 := qs.1; have h2 := qs.2.1; omega) rfl dX0_strike_20 ?_
      refine g_aload_n (pc := 21) G dX0_strike_21 rfl ?_
      refine g_dup (pc := 22) G dX0_strike_22 rfl ?_
      refine g_getI (pc := 23) G hinX0 (oCopy i hi) rfl 6 (by decide) f36 rfl rfl dX0_strike_23 ?_
      refine g_iconst (pc := 26) G dX0_strike_26 ?_
      refine g_isub (pc := 27) G dX0_strike_27 ?_
      refine g_put (pc := 28) G tyX0 tyX0_ok nmX0 hinX0 (oCopy i hi) rfl 6 (by decide) (pCopy1 _ _) f36 rfl rfl rfl dX0_strike_28 ?_
      refine g_vret (pc := 31) G dX0_strike_31 ?_
      first | exact ⟨rfl, rfl, onC_rf M i, by rw [aStrike, if_neg qs]⟩ | exact ⟨rfl, rfl, onC_tr (onC_U M i 3 c _ (by omega)) (onC_U0 _ i 1 _), strike_view M i c qs h1⟩
  · rw [if_neg qs]
    refine g_if_eq (pc := 5) G (by omega) 31 dX0_strike_5 (by decide) (fun _ => ?_) (fun h => absurd h (by decide))
    refine g_vret (pc := 31) G dX0_strike_31 ?_
    first | exact ⟨rfl, rfl, onC_rf M i, by rw [aStrike, if_neg qs]⟩ | exact ⟨rfl, rfl, onC_tr (onC_U M i 3 c _ (by omega)) (onC_U0 _ i 1 _), strike_view M i c qs h1⟩
set_option maxHeartbeats 4000000 in
set_option maxRecDepth 100000 in
theorem kX0_putAt {l : Launch} {D : va_G} {cI cZ cJ cT cC : ClassId} {ad : Nat → Nat} {A : Nat → Prop} (hD : ∀ g : Nat → va_E, va_D A (sjW 89 ad g)) (i : Nat) (hi : i < 12) (a c : Int) (hc0 : 0 ≤ c) (hc1 : c < 60) (M : sjM) (L : sjL) (ha0 : 0 ≤ a) (ha1 : a ≤ vX M i 0 0) (hs : seqOK (vX M i)) (h60 : vX M i 0 0 < 60) (h1 : vX M i 0 1 < 1000) (h1a : 0 ≤ vX M i 0 1) (h6 : vX M i 0 6 < 1000) (h6a : 0 ≤ vX M i 0 6) : Met l yX0_putAt wsX0_putAt { frames := 1, cells := 0, slots := 0, locals := 22 } (sjA D cI cZ cJ cT cC 89 ad (kC cI cZ cJ cT cC ad) [.ref (ad (29 + 5 * i)), .int (iI a), .int (iI c)] M L) (sjZ D 89 ad (kC cI cZ cJ cT cC ad) A (fun v M' L' => v = none ∧ L = L' ∧ onC M M' i ∧ vX M' i = aIns (vX M i) c a)) 0 0 A := by
  refine g_met (cc := cX0_putAt) (maxL := 4) (ret := none) (lv := [_, _, _, _]) (by decide) rfl hD kC_loc (List.forall_mem_cons.mpr ⟨rfl, List.forall_mem_cons.mpr ⟨rfl, List.forall_mem_cons.mpr ⟨rfl, fun _ h => absurd h List.not_mem_nil⟩⟩⟩) (Nat.le_of_ble_eq_true rfl) rfl ?_
  intro J G
  have f15 : Cond.fieldLink RX0 15 "SharedPage$Copy" "sequence" "[I" ∈ wsX0_putAt := by decide +kernel
  have f32 : Cond.fieldLink RX0 32 "SharedPage$Copy" "length" "I" ∈ wsX0_putAt := by decide +kernel
  have f36 : Cond.fieldLink RX0 36 "SharedPage$Copy" "seen" "I" ∈ wsX0_putAt := by decide +kernel
  have f51 : Cond.fieldLink RX0 51 "SharedPage$Copy" "integratedInCall" "I" ∈ wsX0_putAt := by decide +kernel
  have hinX0 : ∀ w ∈ u_ws RX0 TX0 12, w ∈ wsX0_putAt := fun w h => List.mem_cons_of_mem _ (List.mem_append_right _ h)
  have hln : (M (29 + 5 * i) 0).toInt = vX M i 0 0 := rfl
  have hs0 := hs.1
  have hs1 := hs.2.1
  have loop : ∀ (n : Nat) (p : Int) (M1 : sjM), a ≤ p → p ≤ vX M i 0 0 → (p - a).toNat < n → onC M M1 i → vX M1 i = aSh (vX M i) p → J 27 M1 L [some (.ref (ad (29 + 5 * i))), some (.int (iI a)), some (.int (iI c)), some (.int (iI p))] [] := by
    intro n
    induction n with
    | zero => intro p M1 _ _ h; omega
    | succ n ih =>
      intro p M1 hp0 hp1 hn ho1 hv1
      refine g_iload_n (pc := 27) G dX0_putAt_27 rfl ?_
      refine g_iload_n (pc := 28) G dX0_putAt_28 rfl ?_
      refine g_icmp_le (pc := 29) G (by first | assumption | omega) (by first | assumption | omega) 63 dX0_putAt_29 (by decide) (fun h29 => ?_) (fun h29 => ?_)
      · -- 29 t
        obtain rfl : a = p := by omega
        refine g_aload_n (pc := 63) G dX0_putAt_63 rfl ?_
        refine g_getR (pc := 64) G hinX0 (oCopy i hi) rfl 1 (by decide) f15 rfl rfl dX0_putAt_64 ?_
        refine g_iload_n (pc := 67) G dX0_putAt_67 rfl ?_
        refine g_iload_n (pc := 68) G dX0_putAt_68 rfl ?_
        refine g_iast (pc := 69) G (aCopy60 i 1 hi (by omega) (by omega)) (by omega) dX0_putAt_69 ?_
        refine g_mem (fun M2 L2 hM2 hL2 => ?_)
        subst hL2
        have hv2 : vX M2 i = aUp (aSh (vX M i) a) 1 a c := by rw [hM2, vX_U _ i 1 _ _ (by omega), hv1, iI_toInt ⟨by omega, by omega⟩]
        have ho2 : onC M M2 i := by rw [hM2]; exact onC_tr ho1 (onC_U _ i 1 _ _ (by omega))
        clear hM2
        refine g_aload_n (pc := 70) G dX0_putAt_70 rfl ?_
        refine g_iload_n (pc := 71) G dX0_putAt_71 rfl ?_
        refine g_iload_n (pc := 72) G dX0_putAt_72 rfl ?_
        refine g_call (pc := 73) (n := 2) (As := [_, _]) G (kX0_setPlace hD i hi c a ⟨by omega, by omega⟩ M2 L2) gX0_putAt_X0_setPlace (oCopy i hi) rfl rfl hdX0_setPlace rfl rfl ⟨Nat.le_of_ble_eq_true rfl, Nat.le_of_ble_eq_true rfl⟩ rfl rfl (Nat.le_of_ble_eq_true rfl) dX0_putAt_73 ?_
        rintro _ M3 _ ⟨rfl, rfl, hM3⟩
        rw [if_pos ⟨hc0, hc1⟩] at hM3
        have hv3 : vX M3 i = aUp (aUp (aSh (vX M i) a) 1 a c) 2 c a := by rw [hM3, vX_U _ i 2 _ _ (by omega), hv2, iI_toInt ⟨by omega, by omega⟩]
        have ho3 : onC M M3 i := by rw [hM3]; exact onC_tr ho2 (onC_U _ i 2 _ _ (by omega))
        have f00 : (M3 (29 + 5 * i) 0).toInt = vX M i 0 0 := by rw [← vX_0 M3 i 0, hv3]; rfl
        clear hM3
        refine g_aload_n (pc := 76) G dX0_putAt_76 rfl ?_
        refine g_dup (pc := 77) G dX0_putAt_77 rfl ?_
        refine g_getI (pc := 78) G hinX0 (oCopy i hi) rfl 5 (by decide) f32 rfl rfl dX0_putAt_78 ?_
        refine g_iconst (pc := 81) G dX0_putAt_81 ?_
        refine g_iadd (pc := 82) G dX0_putAt_82 ?_
        refine g_put (pc := 83) G tyX0 tyX0_ok nmX0 hinX0 (oCopy i hi) rfl 5 (by decide) (pCopy0 _ _) f32 rfl rfl rfl dX0_putAt_83 ?_
        refine g_mem (fun M4 L4 hM4 hL4 => ?_)
        subst hL4
        have hv4 : vX M4 i = aUp (aUp (aUp (aSh (vX M i) a) 1 a c) 2 c a) 0 0 (vX M i 0 0 + 1) := by rw [hM4, vX_U0, hv3, f00, iI_toInt (by omega)]
        have ho4 : onC M M4 i := by rw [hM4]; exact onC_tr ho3 (onC_U0 _ i _ _)
        have f01 : (M4 (29 + 5 * i) 1).toInt = vX M i 0 1 := by rw [← vX_0 M4 i 1, hv4]; rfl
        clear hM4
        refine g_aload_n (pc := 86) G dX0_putAt_86 rfl ?_
        refine g_dup (pc := 87) G dX0_putAt_87 rfl ?_
        refine g_getI (pc := 88) G hinX0 (oCopy i hi) rfl 6 (by decide) f36 rfl rfl dX0_putAt_88 ?_
        refine g_iconst (pc := 91) G dX0_putAt_91 ?_
        refine g_iadd (pc := 92) G dX0_putAt_92 ?_
        refine g_put (pc := 93) G tyX0 tyX0_ok nmX0 hinX0 (oCopy i hi) rfl 6 (by decide) (pCopy1 _ _) f36 rfl rfl rfl dX0_putAt_93 ?_
        refine g_mem (fun M5 L5 hM5 hL5 => ?_)
        subst hL5
        have hv5 : vX M5 i = aUp (aUp (aUp (aUp (aSh (vX M i) a) 1 a c) 2 c a) 0 0 (vX M i 0 0 + 1)) 0 1 (vX M i 0 1 + 1) := by rw [hM5, vX_U0, hv4, f01, iI_toInt (by omega)]
        have ho5 : onC M M5 i := by rw [hM5]; exact onC_tr ho4 (onC_U0 _ i _ _)
        have f06 : (M5 (29 + 5 * i) 6).toInt = vX M i 0 6 := by rw [← vX_0 M5 i 6, hv5]; rfl
        clear hM5
        refine g_aload_n (pc := 96) G dX0_putAt_96 rfl ?_
        refine g_dup (pc := 97) G dX0_putAt_97 rfl ?_
        refine g_getI (pc := 98) G hinX0 (oCopy i hi) rfl 11 (by decide) f51 rfl rfl dX0_putAt_98 ?_
        refine g_iconst (pc := 101) G dX0_putAt_101 ?_
        refine g_iadd (pc := 102) G dX0_putAt_102 ?_
        refine g_put (pc := 103) G tyX0 tyX0_ok nmX0 hinX0 (oCopy i hi) rfl 11 (by decide) (pCopy6 _ _) f51 rfl rfl rfl dX0_putAt_103 ?_
        refine g_vret (pc := 106) G dX0_putAt_106 ?_
        refine ⟨rfl, rfl, onC_tr ho5 (onC_U0 _ i _ _), ?_⟩
        rw [vX_U0, hv5, f06, iI_toInt (by omega)]
        rfl
      · -- 29 f
        have hsq := hs.2.2.1 (p - 1) (by omega) (by omega)
        --go
        refine g_aload_n (pc := 32) G dX0_putAt_32 rfl ?_
        refine g_getR (pc := 33) G hinX0 (oCopy i hi) rfl 1 (by decide) f15 rfl rfl dX0_putAt_33 ?_
        refine g_iload_n (pc := 36) G dX0_putAt_36 rfl ?_
        refine g_aload_n (pc := 37) G dX0_putAt_37 rfl ?_
        refine g_getR (pc := 38) G hinX0 (oCopy i hi) rfl 1 (by decide) f15 rfl rfl dX0_putAt_38 ?_
        refine g_iload_n (pc := 41) G dX0_putAt_41 rfl ?_
        refine g_iconst (pc := 42) G dX0_putAt_42 ?_
        refine g_isub (pc := 43) G dX0_putAt_43 ?_
        refine g_iald (pc := 44) G (aCopy60 i 1 hi (by omega) (by omega)) (by omega) dX0_putAt_44 ?_
        refine g_iast (pc := 45) G (aCopy60 i 1 hi (by omega) (by omega)) (by omega) dX0_putAt_45 ?_
        have e1 : (M1 (29 + 5 * i + 1) (p - 1)).toInt = vX M i 1 (p - 1) := by rw [← vX_j M1 i 1 (p - 1) (by omega), hv1]; unfold aSh; rw [if_pos rfl, if_neg (by omega)]
        refine g_mem (fun M2 L2 hM2 hL2 => ?_)
        subst hL2
        have hv2 : vX M2 i = aUp (aSh (vX M i) p) 1 p (vX M i 1 (p - 1)) := by rw [hM2, vX_U _ i 1 _ _ (by omega), hv1, iI_toInt (rg _), e1]
        have ho2 : onC M M2 i := by rw [hM2]; exact onC_tr ho1 (onC_U _ i 1 _ _ (by omega))
        clear hM2
        refine g_aload_n (pc := 46) G dX0_putAt_46 rfl ?_
        refine g_aload_n (pc := 47) G dX0_putAt_47 rfl ?_
        refine g_getR (pc := 48) G hinX0 (oCopy i hi) rfl 1 (by decide) f15 rfl rfl dX0_putAt_48 ?_
        refine g_iload_n (pc := 51) G dX0_putAt_51 rfl ?_
        refine g_iald (pc := 52) G (aCopy60 i 1 hi (by omega) (by omega)) (by omega) dX0_putAt_52 ?_
        refine g_iload_n (pc := 53) G dX0_putAt_53 rfl ?_
        refine g_call (pc := 54) (n := 2) (As := [_, _]) G (kX0_setPlace hD i hi _ p (rg _) M2 L2) gX0_putAt_X0_setPlace (oCopy i hi) rfl rfl hdX0_setPlace rfl rfl ⟨Nat.le_of_ble_eq_true rfl, Nat.le_of_ble_eq_true rfl⟩ rfl rfl (Nat.le_of_ble_eq_true rfl) dX0_putAt_54 ?_
        rintro _ M3 _ ⟨rfl, rfl, hM3⟩
        have e2 : (M2 (29 + 5 * i + 1) p).toInt = vX M i 1 (p - 1) := by rw [← vX_j M2 i 1 p (by omega), hv2]; exact aUp_eq
        rw [e2, if_pos ⟨hsq.1, hsq.2.1⟩] at hM3
        have hv3 : vX M3 i = aSh (vX M i) (p - 1) := by rw [hM3, vX_U _ i 2 _ _ (by omega), hv2, iI_toInt ⟨by omega, by omega⟩]; exact aSh_step hs (by omega) (by omega)
        have ho3 : onC M M3 i := by rw [hM3]; exact onC_tr ho2 (onC_U _ i 2 _ _ (by omega))
        clear hM3
        refine g_iinc (pc := 57) (lv' := [_, _, _, _]) G dX0_putAt_57 (by decide) rfl rfl ?_
        refine g_goto (pc := 60) G 27 dX0_putAt_60 (by decide) ?_
        exact ih (p - 1) M3 (by omega) (by omega) (by omega) ho3 hv3
  refine g_iload_n (pc := 0) G dX0_putAt_0 rfl ?_
  refine g_if_lt (pc := 1) G (by first | assumption | omega) 21 dX0_putAt_1 (by decide) (fun h1 => ?_) (fun h1 => ?_)
  · -- 1 t
    exfalso
    omega
  · -- 1 f
    refine g_iload_n (pc := 4) G dX0_putAt_4 rfl ?_
    refine g_aload_n (pc := 5) G dX0_putAt_5 rfl ?_
    refine g_getI (pc := 6) G hinX0 (oCopy i hi) rfl 5 (by decide) f32 rfl rfl dX0_putAt_6 ?_
    refine g_icmp_gt (pc := 9) G (by first | assumption | omega) (rg _) 21 dX0_putAt_9 (by decide) (fun h9 => ?_) (fun h9 => ?_)
    · -- 9 t
      exfalso
      omega
    · -- 9 f
      refine g_aload_n (pc := 12) G dX0_putAt_12 rfl ?_
      refine g_getI (pc := 13) G hinX0 (oCopy i hi) rfl 5 (by decide) f32 rfl rfl dX0_putAt_13 ?_
      refine g_bipush (pc := 16) G dX0_putAt_16 rfl ?_
      refine g_icmp_lt (pc := 18) G (rg _) (by first | assumption | omega) 22 dX0_putAt_18 (by decide) (fun h18 => ?_) (fun h18 => ?_)
      · -- 18 t
        refine g_aload_n (pc := 22) G dX0_putAt_22 rfl ?_
        refine g_getI (pc := 23) G hinX0 (oCopy i hi) rfl 5 (by decide) f32 rfl rfl dX0_putAt_23 ?_
        refine g_istore_n (pc := 26) (lv' := [_, _, _, _]) G dX0_putAt_26 (by decide) rfl ?_
        rw [hln]
        exact loop _ _ M ha1 (Int.le_refl _) (Nat.lt_succ_self _) (onC_rf M i) (aSh_top hs).symm
      · -- 18 f
        exfalso
        omega
