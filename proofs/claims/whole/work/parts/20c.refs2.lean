theorem lay_on {X : aS} {M M4 : sjM} {i c at0 : Int} (qo : ∀ k, k ≠ 13 → k ≠ 14 → k ≠ 15 → M4 k = M k) (q13 : ∀ z, M4 13 z = if z = 60 * i + at0 then iI c else if 60 * i + at0 < z ∧ z ≤ 60 * i + X 0 0 then M 13 (z - 1) else M 13 z) (q14 : ∀ z, M4 14 z = if z = i then iI (X 0 0 + 1) else M 14 z) (q15 : ∀ z, M4 15 z = if z = 60 * i + c then iI 1 else M 15 z) (ha0 : 0 ≤ at0) (ha1 : at0 ≤ X 0 0) (hc0 : 0 ≤ c) (hc1 : c < 60) (h60 : X 0 0 < 60) : onR M M4 i := by
  refine ⟨fun k h1 h2 => qo k (by omega) (by omega) (by omega), ⟨qo 18 (by omega) (by omega) (by omega), qo 19 (by omega) (by omega) (by omega), qo 23 (by omega) (by omega) (by omega), qo 24 (by omega) (by omega) (by omega), by rw [qo 0 (by omega) (by omega) (by omega)], by rw [qo 0 (by omega) (by omega) (by omega)]⟩, fun z hz => ⟨?_, ?_, by rw [qo 16 (by omega) (by omega) (by omega)]⟩, fun z hz => by rw [q14, if_neg hz], fun z hz => by rw [qo 17 (by omega) (by omega) (by omega)]⟩
  · rw [q13, if_neg (by omega), if_neg (by omega)]
  · rw [q15, if_neg (by omega)]
theorem lay_rX {T X : aS} {M M4 : sjM} {i c at0 : Int} (hX : rX X M i) (hcp : cpOK T X) (qo : ∀ k, k ≠ 13 → k ≠ 14 → k ≠ 15 → M4 k = M k) (q13 : ∀ z, M4 13 z = if z = 60 * i + at0 then iI c else if 60 * i + at0 < z ∧ z ≤ 60 * i + X 0 0 then M 13 (z - 1) else M 13 z) (q14 : ∀ z, M4 14 z = if z = i then iI (X 0 0 + 1) else M 14 z) (q15 : ∀ z, M4 15 z = if z = 60 * i + c then iI 1 else M 15 z) (ha0 : 0 ≤ at0) (ha1 : at0 ≤ X 0 0) (hc0 : 0 ≤ c) (hc1 : c < 60) (h60 : X 0 0 < 60) (hn : X 2 c = -2) : rX (aIns X c at0) M4 i := by
  obtain ⟨x1, x2, x3, x4⟩ := hX
  refine ⟨?_, fun q q0 q1 => ?_, fun z z0 z1 => ⟨?_, ?_⟩, fun k k0 k1 => ?_⟩
  · rw [q14, if_pos rfl, aIns_0, if_neg (by omega), if_neg (by omega), if_pos rfl]
  · rw [aIns_0, if_neg (by omega), if_neg (by omega), if_pos rfl] at q1
    rw [q13, aIns_1]
    by_cases hq : q = at0
    · rw [if_pos (by omega), if_pos hq]
    · rw [if_neg (by omega), if_neg hq]
      by_cases hl : at0 < q
      · rw [if_pos (by omega), if_pos (by omega), show 60 * i + q - 1 = 60 * i + (q - 1) by omega]
        exact x2 (q - 1) (by omega) (by omega)
      · rw [if_neg (by omega), if_neg (by omega)]
        exact x2 q q0 (by omega)
  · rw [q15]
    have hp := ins_pres (cpOK_seq hcp) hc0 hc1 ha0 z z0 z1
    by_cases hz : z = c
    · rw [if_pos (by omega), if_neg (fun w => (hp.mp w).2 hz)]
    · rw [if_neg (by omega), (x3 z z0 z1).1]
      by_cases hw : X 2 z = -2
      · rw [if_pos hw, if_pos (hp.mpr ⟨hw, hz⟩)]
      · rw [if_neg hw, if_neg (fun w => hw (hp.mp w).1)]
  · rw [qo 16 (by omega) (by omega) (by omega), aIns_3]
    exact (x3 z z0 z1).2
  · rw [qo 17 (by omega) (by omega) (by omega), aIns_4]
    exact x4 k k0 k1
set_option maxHeartbeats 4000000 in
set_option maxRecDepth 100000 in
theorem kX4_lay {l : Launch} {D : va_G} {cI cZ cJ cT cC : ClassId} {ad : Nat → Nat} {A : Nat → Prop} (hD : ∀ g : Nat → va_E, va_D A (sjW 26 ad g)) (i : Int) (hi0 : 0 ≤ i) (hi1 : i ≤ 10) (c at0 : Int) (hc0 : 0 ≤ c) (hc1 : c < 60) (ha0 : 0 ≤ at0) (M : sjM) (L : sjL) (T X : aS) (lt : Int → Int → Prop) (hX : rX X M i) (hI : cpOK T X ∧ srtL lt X) (ha1 : at0 ≤ X 0 0) (h60 : X 0 0 < 60) (hn : X 2 c = -2) : Met l yX4_lay wsX4_lay { frames := 0, cells := 0, slots := 0, locals := 0 } (sjA D cI cZ cJ cT cC 26 ad (kR cI cZ cJ ad) [.ref (ad 0), .int (iI i), .int (iI c), .int (iI at0)] M L) (sjZ D 26 ad (kR cI cZ cJ ad) A (fun v M' L' => v = none ∧ L = L' ∧ onR M M' i ∧ (∀ k, k ≠ 13 → k ≠ 14 → k ≠ 15 → M' k = M k) ∧ rX (aIns X c at0) M' i)) 0 0 A := by
  refine g_met (cc := cX4_lay) (maxL := 5) (ret := none) (lv := [_, _, _, _, _]) (by decide) rfl hD kR_loc (List.forall_mem_cons.mpr ⟨rfl, List.forall_mem_cons.mpr ⟨rfl, List.forall_mem_cons.mpr ⟨rfl, List.forall_mem_cons.mpr ⟨rfl, fun _ h => absurd h List.not_mem_nil⟩⟩⟩⟩) (Nat.le_of_ble_eq_true rfl) rfl ?_
  intro J G
  have f47 : Cond.fieldLink RX4 47 "SharedPageModel" "row" "[I" ∈ wsX4_lay := by decide +kernel
  have f50 : Cond.fieldLink RX4 50 "SharedPageModel" "many" "[I" ∈ wsX4_lay := by decide +kernel
  have f53 : Cond.fieldLink RX4 53 "SharedPageModel" "has" "[Z" ∈ wsX4_lay := by decide +kernel
  have hinX4 : ∀ w ∈ u_ws RX4 TX4 29, w ∈ wsX4_lay := fun w h => List.mem_cons_of_mem _ (List.mem_append_right _ h)
  have hlen0 := hI.1.1
  have loop : ∀ (f : Nat) (p : Int) (M1 : sjM), at0 ≤ p → p ≤ X 0 0 → p.toNat < f → (∀ k, k ≠ 13 → M1 k = M k) → (∀ z, M1 13 z = if 60 * i + p < z ∧ z ≤ 60 * i + X 0 0 then M 13 (z - 1) else M 13 z) → J 8 M1 L [some (.ref (ad 0)), some (.int (iI i)), some (.int (iI c)), some (.int (iI at0)), some (.int (iI p))] [] := by
    intro f
    induction f with
    | zero => intro p M1 _ _ h; omega
    | succ f ih =>
      intro p M1 hp0 hp1 hf ho1 h13
      refine g_iload (pc := 8) G dX4_lay_8 rfl ?_
      refine g_iload_n (pc := 10) G dX4_lay_10 rfl ?_
      refine g_icmp_le (pc := 11) G (by omega) (by omega) 46 dX4_lay_11 (by decide) (fun h11 => ?_) (fun h11 => ?_)
      · -- 11 t
        refine g_aload_n (pc := 46) G dX4_lay_46 rfl ?_
        refine g_getR (pc := 47) G hinX4 oModel rfl 13 (by decide) f47 rfl rfl dX4_lay_47 ?_
        refine g_bipush (pc := 50) G dX4_lay_50 rfl ?_
        refine g_iload_n (pc := 52) G dX4_lay_52 rfl ?_
        refine g_imul (pc := 53) G dX4_lay_53 ?_
        refine g_iload_n (pc := 54) G dX4_lay_54 rfl ?_
        refine g_iadd (pc := 55) G dX4_lay_55 ?_
        refine g_iload_n (pc := 56) G dX4_lay_56 rfl ?_
        refine g_iast (pc := 57) G rRow (by omega) dX4_lay_57 ?_
        refine g_mem (fun M2 L2 hM2 hL2 => ?_)
        obtain rfl : L = L2 := hL2.symm
        refine g_aload_n (pc := 58) G dX4_lay_58 rfl ?_
        refine g_getR (pc := 59) G hinX4 oModel rfl 14 (by decide) f50 rfl rfl dX4_lay_59 ?_
        refine g_iload_n (pc := 62) G dX4_lay_62 rfl ?_
        refine g_aload_n (pc := 63) G dX4_lay_63 rfl ?_
        refine g_getR (pc := 64) G hinX4 oModel rfl 14 (by decide) f50 rfl rfl dX4_lay_64 ?_
        refine g_iload_n (pc := 67) G dX4_lay_67 rfl ?_
        refine g_iald (pc := 68) G rMany (by omega) dX4_lay_68 ?_
        refine g_top (ld (show M2 14 i = iI (X 0 0) by rw [hM2, sjU_o (by omega), ho1 14 (by omega)]; exact hX.1)) ?_
        refine g_iconst (pc := 69) G dX4_lay_69 ?_
        refine g_iadd (pc := 70) G dX4_lay_70 ?_
        refine g_iast (pc := 71) G rMany (by omega) dX4_lay_71 ?_
        refine g_mem (fun M3 L3 hM3 hL3 => ?_)
        obtain rfl : L = L3 := hL3.symm
        refine g_aload_n (pc := 72) G dX4_lay_72 rfl ?_
        refine g_getR (pc := 73) G hinX4 oModel rfl 15 (by decide) f53 rfl rfl dX4_lay_73 ?_
        refine g_bipush (pc := 76) G dX4_lay_76 rfl ?_
        refine g_iload_n (pc := 78) G dX4_lay_78 rfl ?_
        refine g_imul (pc := 79) G dX4_lay_79 ?_
        refine g_iload_n (pc := 80) G dX4_lay_80 rfl ?_
        refine g_iadd (pc := 81) G dX4_lay_81 ?_
        refine g_iconst (pc := 82) G dX4_lay_82 ?_
        refine g_zast (pc := 83) G rHas (by omega) rfl dX4_lay_83 ?_
        refine g_mem (fun M4 L4 hM4 hL4 => ?_)
        obtain rfl : L = L4 := hL4.symm
        refine g_vret (pc := 84) G dX4_lay_84 ?_
        have q13 : ∀ z, M4 13 z = if z = 60 * i + at0 then iI c else if 60 * i + at0 < z ∧ z ≤ 60 * i + X 0 0 then M 13 (z - 1) else M 13 z := by
          intro z
          rw [hM4, sjU_o (by omega), hM3, sjU_o (by omega), hM2, sjU_s, h13 z, show p = at0 by omega]
        have q14 : ∀ z, M4 14 z = if z = i then iI (X 0 0 + 1) else M 14 z := by
          intro z
          rw [hM4, sjU_o (by omega), hM3, sjU_s, hM2, sjU_o (by omega), ho1 14 (by omega)]
        have q15 : ∀ z, M4 15 z = if z = 60 * i + c then iI 1 else M 15 z := by
          intro z
          rw [hM4, sjU_s, hM3, sjU_o (by omega), hM2, sjU_o (by omega), ho1 15 (by omega)]
        have qo : ∀ k, k ≠ 13 → k ≠ 14 → k ≠ 15 → M4 k = M k := by
          intro k k1 k2 k3
          rw [hM4, sjU_o k3, hM3, sjU_o k2, hM2, sjU_o k1, ho1 k k1]
        exact ⟨rfl, rfl, lay_on qo q13 q14 q15 ha0 ha1 hc0 hc1 h60, qo, lay_rX hX hI.1 qo q13 q14 q15 ha0 ha1 hc0 hc1 h60 hn⟩
      · -- 11 f
        refine g_aload_n (pc := 14) G dX4_lay_14 rfl ?_
        refine g_getR (pc := 15) G hinX4 oModel rfl 13 (by decide) f47 rfl rfl dX4_lay_15 ?_
        refine g_bipush (pc := 18) G dX4_lay_18 rfl ?_
        refine g_iload_n (pc := 20) G dX4_lay_20 rfl ?_
        refine g_imul (pc := 21) G dX4_lay_21 ?_
        refine g_iload (pc := 22) G dX4_lay_22 rfl ?_
        refine g_iadd (pc := 24) G dX4_lay_24 ?_
        refine g_aload_n (pc := 25) G dX4_lay_25 rfl ?_
        refine g_getR (pc := 26) G hinX4 oModel rfl 13 (by decide) f47 rfl rfl dX4_lay_26 ?_
        refine g_bipush (pc := 29) G dX4_lay_29 rfl ?_
        refine g_iload_n (pc := 31) G dX4_lay_31 rfl ?_
        refine g_imul (pc := 32) G dX4_lay_32 ?_
        refine g_iload (pc := 33) G dX4_lay_33 rfl ?_
        refine g_iadd (pc := 35) G dX4_lay_35 ?_
        refine g_iconst (pc := 36) G dX4_lay_36 ?_
        refine g_isub (pc := 37) G dX4_lay_37 ?_
        refine g_iald (pc := 38) G rRow (by omega) dX4_lay_38 ?_
        refine g_iast (pc := 39) G rRow (by omega) dX4_lay_39 ?_
        refine g_mem (fun M2 L2 hM2 hL2 => ?_)
        obtain rfl : L = L2 := hL2.symm
        have ho2 : ∀ k, k ≠ 13 → M2 k = M k := fun k hk => by rw [hM2, sjU_o hk]; exact ho1 k hk
        have h132 : ∀ z, M2 13 z = if 60 * i + (p + -1) < z ∧ z ≤ 60 * i + X 0 0 then M 13 (z - 1) else M 13 z := by
          intro z
          rw [hM2, sjU_s, iI_of, h13 z, h13 (60 * i + p - 1)]
          by_cases hz : z = 60 * i + p
          · rw [if_pos hz, if_neg (by omega), if_pos (by omega), hz]
          · rw [if_neg hz]
            by_cases hc : 60 * i + p < z ∧ z ≤ 60 * i + X 0 0
            · rw [if_pos hc, if_pos (by omega)]
            · rw [if_neg hc, if_neg (by omega)]
        clear hM2
        refine g_iinc (pc := 40) (lv' := [_, _, _, _, _]) G dX4_lay_40 (by decide) rfl rfl ?_
        refine g_goto (pc := 43) G 8 dX4_lay_43 (by decide) ?_
        exact ih (p + -1) M2 (by omega) (by omega) (by omega) ho2 h132
  refine g_aload_n (pc := 0) G dX4_lay_0 rfl ?_
  refine g_getR (pc := 1) G hinX4 oModel rfl 14 (by decide) f50 rfl rfl dX4_lay_1 ?_
  refine g_iload_n (pc := 4) G dX4_lay_4 rfl ?_
  refine g_iald (pc := 5) G rMany (by omega) dX4_lay_5 ?_
  refine g_top (ld (hX.1)) ?_
  refine g_istore (pc := 6) (lv' := [_, _, _, _, _]) G dX4_lay_6 (by decide) rfl ?_
  exact loop _ (X 0 0) M (by omega) (by omega) (Nat.lt_succ_self _) (fun _ _ => rfl) (fun z => by rw [if_neg (by omega)])
set_option maxHeartbeats 4000000 in
set_option maxRecDepth 100000 in
theorem kX4_can {l : Launch} {D : va_G} {cI cZ cJ cT cC : ClassId} {ad : Nat → Nat} {A : Nat → Prop} (hD : ∀ g : Nat → va_E, va_D A (sjW 26 ad g)) (i : Int) (hi0 : 0 ≤ i) (hi1 : i ≤ 10) (t : Int) (ht0 : 0 ≤ t) (ht1 : t < 2) (k : Int) (M : sjM) (L : sjL) (T X : aS) (lt : Int → Int → Prop) (hX : rX X M i) (hI : cpOK T X ∧ srtL lt X) (hT : rT T M t) (hG : tInv T) (hk : aHasM T k) : Met l yX4_can wsX4_can { frames := 1, cells := 0, slots := 0, locals := 22 } (sjA D cI cZ cJ cT cC 26 ad (kR cI cZ cJ ad) [.ref (ad 0), .int (iI i), .int (iI t), .int (iI k)] M L) (sjZ D 26 ad (kR cI cZ cJ ad) A (fun v M' L' => M = M' ∧ L = L' ∧ v = some (.int (iI (if aCan T X k then 1 else 0))))) 0 0 A := by
  refine g_met (cc := cX4_can) (maxL := 5) (ret := (some .boolean)) (lv := [_, _, _, _, _]) (by decide) rfl hD kR_loc (List.forall_mem_cons.mpr ⟨rfl, List.forall_mem_cons.mpr ⟨rfl, List.forall_mem_cons.mpr ⟨rfl, List.forall_mem_cons.mpr ⟨rfl, fun _ h => absurd h List.not_mem_nil⟩⟩⟩⟩) (Nat.le_of_ble_eq_true rfl) rfl ?_
  intro J G
  have f22 : Cond.fieldLink RX4 22 "SharedPageModel" "leftOf" "[I" ∈ wsX4_can := by decide +kernel
  have f25 : Cond.fieldLink RX4 25 "SharedPageModel" "rightOf" "[I" ∈ wsX4_can := by decide +kernel
  have f37 : Cond.fieldLink RX4 37 "SharedPageModel" "isErase" "[Z" ∈ wsX4_can := by decide +kernel
  have f41 : Cond.fieldLink RX4 41 "SharedPageModel" "charOf" "[I" ∈ wsX4_can := by decide +kernel
  have hinX4 : ∀ w ∈ u_ws RX4 TX4 29, w ∈ wsX4_can := fun w h => List.mem_cons_of_mem _ (List.mem_append_right _ h)
  have h6 := (hG.2.2.2.2.2.1 k hk).1
  have h8 := (hG.2.2.2.2.2.1 k hk).2
  have e8 := h8.2.2
  have e80 := h8.1
  have hlr := hG.2.2.2.2.1 (T 8 k) h8
  refine g_aload_n (pc := 0) G dX4_can_0 rfl ?_
  refine g_getR (pc := 1) G hinX4 oModel rfl 11 (by decide) f41 rfl rfl dX4_can_1 ?_
  refine g_sipush (pc := 4) G dX4_can_4 rfl ?_
  refine g_iload_n (pc := 7) G dX4_can_7 rfl ?_
  refine g_imul (pc := 8) G dX4_can_8 ?_
  refine g_iload_n (pc := 9) G dX4_can_9 rfl ?_
  refine g_iadd (pc := 10) G dX4_can_10 ?_
  refine g_iald (pc := 11) G rChar (by omega) dX4_can_11 ?_
  refine g_top (ld ((hT.2.2.2 k hk.1 hk.2.2).2.1)) ?_
  refine g_istore (pc := 12) (lv' := [_, _, _, _, _]) G dX4_can_12 (by decide) rfl ?_
  refine g_aload_n (pc := 14) G dX4_can_14 rfl ?_
  refine g_getR (pc := 15) G hinX4 oModel rfl 10 (by decide) f37 rfl rfl dX4_can_15 ?_
  refine g_sipush (pc := 18) G dX4_can_18 rfl ?_
  refine g_iload_n (pc := 21) G dX4_can_21 rfl ?_
  refine g_imul (pc := 22) G dX4_can_22 ?_
  refine g_iload_n (pc := 23) G dX4_can_23 rfl ?_
  refine g_iadd (pc := 24) G dX4_can_24 ?_
  refine g_zald (pc := 25) G rIsE (by omega) dX4_can_25 ?_
  refine g_top (ld ((hT.2.2.2 k hk.1 hk.2.2).1)) ?_
  refine g_if_eq (pc := 26) G (by rcases h6 with w | w <;> omega) 37 dX4_can_26 (by decide) (fun h26 => ?_) (fun h26 => ?_)
  · -- 26 t
    refine g_aload_n (pc := 37) G dX4_can_37 rfl ?_
    refine g_iload_n (pc := 38) G dX4_can_38 rfl ?_
    refine g_aload_n (pc := 39) G dX4_can_39 rfl ?_
    refine g_getR (pc := 40) G hinX4 oModel rfl 5 (by decide) f22 rfl rfl dX4_can_40 ?_
    refine g_bipush (pc := 43) G dX4_can_43 rfl ?_
    refine g_iload_n (pc := 45) G dX4_can_45 rfl ?_
    refine g_imul (pc := 46) G dX4_can_46 ?_
    refine g_iload (pc := 47) G dX4_can_47 rfl ?_
    refine g_iadd (pc := 49) G dX4_can_49 ?_
    refine g_iald (pc := 50) G rLeft (by omega) dX4_can_50 ?_
    refine g_top (ld (show M 5 (60 * t + T 8 k) = iI (aLeft T (T 8 k)) by rw [(hT.2.1 (T 8 k) h8.1 h8.2.2).2.2.2.1]; unfold aLeft; rw [if_pos h8])) ?_
    refine g_call (pc := 51) (n := 2) (As := [_, _]) G (kX4_isThere hD i hi0 hi1 (aLeft T (T 8 k)) (by omega) (by omega) M L X hX hI.1.1) gX4_can_X4_isThere oModel rfl rfl hdX4_isThere rfl rfl ⟨Nat.le_of_ble_eq_true rfl, Nat.le_of_ble_eq_true rfl⟩ rfl rfl (Nat.le_of_ble_eq_true rfl) dX4_can_51 ?_
    rintro _ _ _ ⟨rfl, rfl, rfl⟩
    by_cases qb : aPl X (aLeft T (T 8 k)) = -2
    · rw [if_pos qb]
      refine g_if_eq (pc := 54) G (by omega) 81 dX4_can_54 (by decide) (fun _ => ?_) (fun h => absurd h (by decide))
      refine g_iconst (pc := 81) G dX4_can_81 ?_
      refine g_zret (pc := 82) G rfl dX4_can_82 ?_
      refine ⟨rfl, rfl, ?_⟩
      first
      | (rw [if_neg]; unfold aCan; rw [kind_in hk, subj_in hk]; rintro (w | w); exact w.2 qa; exact w.1 (by omega))
      | (rw [if_pos]; unfold aCan; rw [kind_in hk, subj_in hk]; exact Or.inl ⟨by omega, qa⟩)
      | (rw [if_neg]; unfold aCan; rw [kind_in hk, subj_in hk]; rintro (w | w); exact absurd w.1 (by omega); exact w.2.1 qb)
      | (rw [if_neg]; unfold aCan; rw [kind_in hk, subj_in hk]; rintro (w | w); exact absurd w.1 (by omega); exact w.2.2 qc)
      | (rw [if_pos]; unfold aCan; rw [kind_in hk, subj_in hk]; exact Or.inr ⟨by omega, qb, qc⟩)
    · rw [if_neg qb]
      refine g_if_eq (pc := 54) G (by omega) 81 dX4_can_54 (by decide) (fun h => absurd h (by decide)) (fun _ => ?_)
      refine g_aload_n (pc := 57) G dX4_can_57 rfl ?_
      refine g_iload_n (pc := 58) G dX4_can_58 rfl ?_
      refine g_aload_n (pc := 59) G dX4_can_59 rfl ?_
      refine g_getR (pc := 60) G hinX4 oModel rfl 6 (by decide) f25 rfl rfl dX4_can_60 ?_
      refine g_bipush (pc := 63) G dX4_can_63 rfl ?_
      refine g_iload_n (pc := 65) G dX4_can_65 rfl ?_
      refine g_imul (pc := 66) G dX4_can_66 ?_
      refine g_iload (pc := 67) G dX4_can_67 rfl ?_
      refine g_iadd (pc := 69) G dX4_can_69 ?_
      refine g_iald (pc := 70) G rRight (by omega) dX4_can_70 ?_
      refine g_top (ld (show M 6 (60 * t + T 8 k) = iI (aRight T (T 8 k)) by rw [(hT.2.1 (T 8 k) h8.1 h8.2.2).2.2.2.2]; unfold aRight; rw [if_pos h8])) ?_
      refine g_call (pc := 71) (n := 2) (As := [_, _]) G (kX4_isThere hD i hi0 hi1 (aRight T (T 8 k)) (by omega) (by omega) M L X hX hI.1.1) gX4_can_X4_isThere oModel rfl rfl hdX4_isThere rfl rfl ⟨Nat.le_of_ble_eq_true rfl, Nat.le_of_ble_eq_true rfl⟩ rfl rfl (Nat.le_of_ble_eq_true rfl) dX4_can_71 ?_
      rintro _ _ _ ⟨rfl, rfl, rfl⟩
      by_cases qc : aPl X (aRight T (T 8 k)) = -2
      · rw [if_pos qc]
        refine g_if_eq (pc := 74) G (by omega) 81 dX4_can_74 (by decide) (fun _ => ?_) (fun h => absurd h (by decide))
        refine g_iconst (pc := 81) G dX4_can_81 ?_
        refine g_zret (pc := 82) G rfl dX4_can_82 ?_
        refine ⟨rfl, rfl, ?_⟩
        first
        | (rw [if_neg]; unfold aCan; rw [kind_in hk, subj_in hk]; rintro (w | w); exact w.2 qa; exact w.1 (by omega))
        | (rw [if_pos]; unfold aCan; rw [kind_in hk, subj_in hk]; exact Or.inl ⟨by omega, qa⟩)
        | (rw [if_neg]; unfold aCan; rw [kind_in hk, subj_in hk]; rintro (w | w); exact absurd w.1 (by omega); exact w.2.1 qb)
        | (rw [if_neg]; unfold aCan; rw [kind_in hk, subj_in hk]; rintro (w | w); exact absurd w.1 (by omega); exact w.2.2 qc)
        | (rw [if_pos]; unfold aCan; rw [kind_in hk, subj_in hk]; exact Or.inr ⟨by omega, qb, qc⟩)
      · rw [if_neg qc]
        refine g_if_eq (pc := 74) G (by omega) 81 dX4_can_74 (by decide) (fun h => absurd h (by decide)) (fun _ => ?_)
        refine g_iconst (pc := 77) G dX4_can_77 ?_
        refine g_goto (pc := 78) G 82 dX4_can_78 (by decide) ?_
        refine g_zret (pc := 82) G rfl dX4_can_82 ?_
        refine ⟨rfl, rfl, ?_⟩
        first
        | (rw [if_neg]; unfold aCan; rw [kind_in hk, subj_in hk]; rintro (w | w); exact w.2 qa; exact w.1 (by omega))
        | (rw [if_pos]; unfold aCan; rw [kind_in hk, subj_in hk]; exact Or.inl ⟨by omega, qa⟩)
        | (rw [if_neg]; unfold aCan; rw [kind_in hk, subj_in hk]; rintro (w | w); exact absurd w.1 (by omega); exact w.2.1 qb)
        | (rw [if_neg]; unfold aCan; rw [kind_in hk, subj_in hk]; rintro (w | w); exact absurd w.1 (by omega); exact w.2.2 qc)
        | (rw [if_pos]; unfold aCan; rw [kind_in hk, subj_in hk]; exact Or.inr ⟨by omega, qb, qc⟩)
  · -- 26 f
    refine g_aload_n (pc := 29) G dX4_can_29 rfl ?_
    refine g_iload_n (pc := 30) G dX4_can_30 rfl ?_
    refine g_iload (pc := 31) G dX4_can_31 rfl ?_
    refine g_call (pc := 33) (n := 2) (As := [_, _]) G (kX4_isThere hD i hi0 hi1 (T 8 k) (by omega) (by omega) M L X hX hI.1.1) gX4_can_X4_isThere oModel rfl rfl hdX4_isThere rfl rfl ⟨Nat.le_of_ble_eq_true rfl, Nat.le_of_ble_eq_true rfl⟩ rfl rfl (Nat.le_of_ble_eq_true rfl) dX4_can_33 ?_
    rintro _ _ _ ⟨rfl, rfl, rfl⟩
    by_cases qa : aPl X (T 8 k) = -2
    · rw [if_pos qa]
      refine g_zret (pc := 36) G rfl dX4_can_36 ?_
      refine ⟨rfl, rfl, ?_⟩
      first
      | (rw [if_neg]; unfold aCan; rw [kind_in hk, subj_in hk]; rintro (w | w); exact w.2 qa; exact w.1 (by omega))
      | (rw [if_pos]; unfold aCan; rw [kind_in hk, subj_in hk]; exact Or.inl ⟨by omega, qa⟩)
      | (rw [if_neg]; unfold aCan; rw [kind_in hk, subj_in hk]; rintro (w | w); exact absurd w.1 (by omega); exact w.2.1 qb)
      | (rw [if_neg]; unfold aCan; rw [kind_in hk, subj_in hk]; rintro (w | w); exact absurd w.1 (by omega); exact w.2.2 qc)
      | (rw [if_pos]; unfold aCan; rw [kind_in hk, subj_in hk]; exact Or.inr ⟨by omega, qb, qc⟩)
    · rw [if_neg qa]
      refine g_zret (pc := 36) G rfl dX4_can_36 ?_
      refine ⟨rfl, rfl, ?_⟩
      first
      | (rw [if_neg]; unfold aCan; rw [kind_in hk, subj_in hk]; rintro (w | w); exact w.2 qa; exact w.1 (by omega))
      | (rw [if_pos]; unfold aCan; rw [kind_in hk, subj_in hk]; exact Or.inl ⟨by omega, qa⟩)
      | (rw [if_neg]; unfold aCan; rw [kind_in hk, subj_in hk]; rintro (w | w); exact absurd w.1 (by omega); exact w.2.1 qb)
      | (rw [if_neg]; unfold aCan; rw [kind_in hk, subj_in hk]; rintro (w | w); exact absurd w.1 (by omega); exact w.2.2 qc)
      | (rw [if_pos]; unfold aCan; rw [kind_in hk, subj_in hk]; exact Or.inr ⟨by omega, qb, qc⟩)
