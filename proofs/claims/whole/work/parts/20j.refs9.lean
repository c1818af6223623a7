set_option maxHeartbeats 4000000 in
set_option maxRecDepth 100000 in
theorem kX4_isSame {l : Launch} {D : va_G} {cI cZ cJ cT cC : ClassId} {ad : Nat → Nat} {A : Nat → Prop} (hD : ∀ g : Nat → va_E, va_D A (sjW 26 ad g)) (i : Int) (hi0 : 0 ≤ i) (hi1 : i ≤ 10) (j : Int) (hj0 : 0 ≤ j) (hj1 : j ≤ 10) (M : sjM) (L : sjL) (T X Y : aS) (hX : rX X M i) (hY : rX Y M j) (hcp : cpOK T X) (hcy : cpOK T Y) (h3X : ∀ c, 0 ≤ c → c < 60 → X 3 c = 0 ∨ X 3 c = 1) (h3Y : ∀ c, 0 ≤ c → c < 60 → Y 3 c = 0 ∨ Y 3 c = 1) : Met l yX4_isSame wsX4_isSame { frames := 0, cells := 0, slots := 0, locals := 0 } (sjA D cI cZ cJ cT cC 26 ad (kR cI cZ cJ ad) [.ref (ad 0), .int (iI i), .int (iI j)] M L) (sjZ D 26 ad (kR cI cZ cJ ad) A (fun v M' L' => M = M' ∧ L = L' ∧ v = some (.int (iI (aAlike X Y))))) 0 0 A := by
  refine g_met (cc := cX4_isSame) (maxL := 5) (ret := (some .boolean)) (lv := [_, _, _, _, _]) (by decide) rfl hD kR_loc (List.forall_mem_cons.mpr ⟨rfl, List.forall_mem_cons.mpr ⟨rfl, List.forall_mem_cons.mpr ⟨rfl, fun _ h => absurd h List.not_mem_nil⟩⟩⟩) (Nat.le_of_ble_eq_true rfl) rfl ?_
  intro J G
  have f47 : Cond.fieldLink RX4 47 "SharedPageModel" "row" "[I" ∈ wsX4_isSame := by decide +kernel
  have f50 : Cond.fieldLink RX4 50 "SharedPageModel" "many" "[I" ∈ wsX4_isSame := by decide +kernel
  have f56 : Cond.fieldLink RX4 56 "SharedPageModel" "erased" "[Z" ∈ wsX4_isSame := by decide +kernel
  have hinX4 : ∀ w ∈ u_ws RX4 TX4 29, w ∈ wsX4_isSame := fun w h => List.mem_cons_of_mem _ (List.mem_append_right _ h)
  have hx0 := hcp.1
  have hx1 := hcp.2.1
  have hy0 := hcy.1
  have hy1 := hcy.2.1
  refine g_aload_n (pc := 0) G dX4_isSame_0 rfl ?_
  refine g_getR (pc := 1) G hinX4 oModel rfl 14 (by decide) f50 rfl rfl dX4_isSame_1 ?_
  refine g_iload_n (pc := 4) G dX4_isSame_4 rfl ?_
  refine g_iald (pc := 5) G rMany (by omega) dX4_isSame_5 ?_
  refine g_top (ld (hX.1)) ?_
  refine g_aload_n (pc := 6) G dX4_isSame_6 rfl ?_
  refine g_getR (pc := 7) G hinX4 oModel rfl 14 (by decide) f50 rfl rfl dX4_isSame_7 ?_
  refine g_iload_n (pc := 10) G dX4_isSame_10 rfl ?_
  refine g_iald (pc := 11) G rMany (by omega) dX4_isSame_11 ?_
  refine g_top (ld (hY.1)) ?_
  refine g_icmp_eq (pc := 12) G (by omega) (by omega) 17 dX4_isSame_12 (by decide) (fun h12 => ?_) (fun h12 => ?_)
  · -- 12 t
    refine g_iconst (pc := 17) G dX4_isSame_17 ?_
    refine g_istore_n (pc := 18) (lv' := [_, _, _, _, _]) G dX4_isSame_18 (by decide) rfl ?_
    have heq : X 0 0 = Y 0 0 := h12
    have loop : ∀ (f : Nat) (q : Int) (x4 : Option Value), 0 ≤ q → q ≤ X 0 0 → (X 0 0 - q).toNat < f → aLik X Y (X 0 0 - q).toNat q = aLik X Y (X 0 0).toNat 0 → J 19 M L [some (.ref (ad 0)), some (.int (iI i)), some (.int (iI j)), some (.int (iI q)), x4] [] := by
      intro f
      induction f with
      | zero => intro q x4 _ _ h; omega
      | succ f ih =>
        intro q x4 hq0 hq1 hf hR
        refine g_iload_n (pc := 19) G dX4_isSame_19 rfl ?_
        refine g_aload_n (pc := 20) G dX4_isSame_20 rfl ?_
        refine g_getR (pc := 21) G hinX4 oModel rfl 14 (by decide) f50 rfl rfl dX4_isSame_21 ?_
        refine g_iload_n (pc := 24) G dX4_isSame_24 rfl ?_
        refine g_iald (pc := 25) G rMany (by omega) dX4_isSame_25 ?_
        refine g_top (ld (hX.1)) ?_
        refine g_icmp_ge (pc := 26) G (by omega) (by omega) 93 dX4_isSame_26 (by decide) (fun h26 => ?_) (fun h26 => ?_)
        · -- 26 t
          rw [show (X 0 0 - q).toNat = 0 by clear hR; omega, aLik] at hR
          --go
          refine g_iconst (pc := 93) G dX4_isSame_93 ?_
          refine g_zret (pc := 94) G rfl dX4_isSame_94 ?_
          refine ⟨rfl, rfl, ?_⟩
          unfold aAlike
          rw [if_pos heq, ← hR]
        · -- 26 f
          rw [show (X 0 0 - q).toNat = (X 0 0 - (q + 1)).toNat + 1 by clear hR; omega, aLik, at_in hq0 (show q < X 0 0 by clear hR; omega) hcp.2.1, at_in hq0 (show q < Y 0 0 by clear hR; omega) hcy.2.1] at hR
          have hbx := (hcp.2.2.1 q hq0 (by omega)).1
          have hb0 := hbx.1
          have hb1 := hbx.2.2
          have hsx := seen_iff hcp hq0 (show q < X 0 0 by clear hR; omega)
          --go
          refine g_aload_n (pc := 29) G dX4_isSame_29 rfl ?_
          refine g_getR (pc := 30) G hinX4 oModel rfl 13 (by decide) f47 rfl rfl dX4_isSame_30 ?_
          refine g_bipush (pc := 33) G dX4_isSame_33 rfl ?_
          refine g_iload_n (pc := 35) G dX4_isSame_35 rfl ?_
          refine g_imul (pc := 36) G dX4_isSame_36 ?_
          refine g_iload_n (pc := 37) G dX4_isSame_37 rfl ?_
          refine g_iadd (pc := 38) G dX4_isSame_38 ?_
          refine g_iald (pc := 39) G rRow (by omega) dX4_isSame_39 ?_
          refine g_top (ld (hX.2.1 q hq0 (by omega))) ?_
          refine g_istore (pc := 40) (lv' := [_, _, _, _, _]) G dX4_isSame_40 (by decide) rfl ?_
          refine g_aload_n (pc := 42) G dX4_isSame_42 rfl ?_
          refine g_getR (pc := 43) G hinX4 oModel rfl 13 (by decide) f47 rfl rfl dX4_isSame_43 ?_
          refine g_bipush (pc := 46) G dX4_isSame_46 rfl ?_
          refine g_iload_n (pc := 48) G dX4_isSame_48 rfl ?_
          refine g_imul (pc := 49) G dX4_isSame_49 ?_
          refine g_iload_n (pc := 50) G dX4_isSame_50 rfl ?_
          refine g_iadd (pc := 51) G dX4_isSame_51 ?_
          refine g_iald (pc := 52) G rRow (by omega) dX4_isSame_52 ?_
          refine g_top (ld (hY.2.1 q hq0 (by omega))) ?_
          refine g_iload (pc := 53) G dX4_isSame_53 rfl ?_
          refine g_icmp_ne (pc := 55) G (by have := (hcy.2.2.1 q hq0 (by omega)).1.1; have := (hcy.2.2.1 q hq0 (by omega)).1.2.2; omega) (by omega) 85 dX4_isSame_55 (by decide) (fun h55 => ?_) (fun h55 => ?_)
          · -- 55 t
            rw [if_neg (fun w => h55 w.1.symm)] at hR
            --go
            refine g_iconst (pc := 85) G dX4_isSame_85 ?_
            refine g_zret (pc := 86) G rfl dX4_isSame_86 ?_
            refine ⟨rfl, rfl, ?_⟩
            unfold aAlike
            rw [if_pos heq, ← hR]
          · -- 55 f
            have hsy := seen_iff hcy hq0 (show q < Y 0 0 by clear hR; omega)
            rw [h55] at hsy
            --go
            refine g_aload_n (pc := 58) G dX4_isSame_58 rfl ?_
            refine g_getR (pc := 59) G hinX4 oModel rfl 16 (by decide) f56 rfl rfl dX4_isSame_59 ?_
            refine g_bipush (pc := 62) G dX4_isSame_62 rfl ?_
            refine g_iload_n (pc := 64) G dX4_isSame_64 rfl ?_
            refine g_imul (pc := 65) G dX4_isSame_65 ?_
            refine g_iload (pc := 66) G dX4_isSame_66 rfl ?_
            refine g_iadd (pc := 68) G dX4_isSame_68 ?_
            refine g_zald (pc := 69) G rErased (by omega) dX4_isSame_69 ?_
            refine g_top (ld ((hX.2.2.1 _ hb0 hb1).2)) ?_
            refine g_aload_n (pc := 70) G dX4_isSame_70 rfl ?_
            refine g_getR (pc := 71) G hinX4 oModel rfl 16 (by decide) f56 rfl rfl dX4_isSame_71 ?_
            refine g_bipush (pc := 74) G dX4_isSame_74 rfl ?_
            refine g_iload_n (pc := 76) G dX4_isSame_76 rfl ?_
            refine g_imul (pc := 77) G dX4_isSame_77 ?_
            refine g_iload (pc := 78) G dX4_isSame_78 rfl ?_
            refine g_iadd (pc := 80) G dX4_isSame_80 ?_
            refine g_zald (pc := 81) G rErased (by omega) dX4_isSame_81 ?_
            refine g_top (ld ((hY.2.2.1 _ hb0 hb1).2)) ?_
            refine g_icmp_eq (pc := 82) G (by rcases h3X _ hb0 hb1 with w | w <;> omega) (by rcases h3Y _ hb0 hb1 with w | w <;> omega) 87 dX4_isSame_82 (by decide) (fun h82 => ?_) (fun h82 => ?_)
            · -- 82 t
              refine g_iinc (pc := 87) (lv' := [_, _, _, _, _]) G dX4_isSame_87 (by decide) rfl rfl ?_
              refine g_goto (pc := 90) G 19 dX4_isSame_90 (by decide) ?_
              refine ih (q + 1) _ (by omega) (by omega) (by clear hR; omega) ?_
              rw [if_pos ⟨h55.symm, by rw [hsx, hsy, h82]⟩] at hR
              exact hR
            · -- 82 f
              rw [if_neg (fun w => h82 (by
                have hw := w.2
                rw [hsx, hsy] at hw
                rcases h3X _ hb0 hb1 with w1 | w1
                · rw [w1, hw.mp w1]
                · rcases h3Y _ hb0 hb1 with w2 | w2
                  · have := hw.mpr w2; omega
                  · rw [w1, w2]))] at hR
              --go
              refine g_iconst (pc := 85) G dX4_isSame_85 ?_
              refine g_zret (pc := 86) G rfl dX4_isSame_86 ?_
              refine ⟨rfl, rfl, ?_⟩
              unfold aAlike
              rw [if_pos heq, ← hR]
    exact loop _ 0 _ (by omega) (by omega) (Nat.lt_succ_self _) (by rw [Int.sub_zero])
  · -- 12 f
    refine g_iconst (pc := 15) G dX4_isSame_15 ?_
    refine g_zret (pc := 16) G rfl dX4_isSame_16 ?_
    refine ⟨rfl, rfl, ?_⟩
    unfold aAlike
    rw [if_neg h12]
set_option maxHeartbeats 4000000 in
set_option maxRecDepth 100000 in
theorem kX4_same {l : Launch} {D : va_G} {cI cZ cJ cT cC : ClassId} {ad : Nat → Nat} {A : Nat → Prop} (hD : ∀ g : Nat → va_E, va_D A (sjW 26 ad g)) (x a b : Int) (hx : rng x) (ha : rng a) (hb : rng b) (M : sjM) (L : sjL) (Tf Xf : Int → aS) (lts : Int → Int → Int → Prop) (hA : rAll Tf Xf M) (hg : gAll Tf Xf lts) : Met l yX4_same wsX4_same { frames := 1, cells := 0, slots := 0, locals := 24 } (sjA D cI cZ cJ cT cC 26 ad (kR cI cZ cJ ad) [.ref (ad 0), .int (iI x), .int (iI a), .int (iI b)] M L) (sjZ D 26 ad (kR cI cZ cJ ad) A (fun v M' L' => M' = sjU M 0 0 (iI 0) ∧ L = L' ∧ v = some (.int (iI (if okTS x a ∧ okTS x b then aAlike (Xf (5 * x + a)) (Xf (5 * x + b)) else 0))))) 0 0 A := by
  refine g_met (cc := cX4_same) (maxL := 4) (ret := (some .boolean)) (lv := [_, _, _, _]) (by decide) rfl hD kR_loc (List.forall_mem_cons.mpr ⟨rfl, List.forall_mem_cons.mpr ⟨rfl, List.forall_mem_cons.mpr ⟨rfl, List.forall_mem_cons.mpr ⟨rfl, fun _ h => absurd h List.not_mem_nil⟩⟩⟩⟩) (Nat.le_of_ble_eq_true rfl) rfl ?_
  intro J G
  have f87 : Cond.fieldLink RX4 87 "SharedPageModel" "told" "I" ∈ wsX4_same := by decide +kernel
  have hinX4 : ∀ w ∈ u_ws RX4 TX4 29, w ∈ wsX4_same := fun w h => List.mem_cons_of_mem _ (List.mem_append_right _ h)
  refine g_aload_n (pc := 0) G dX4_same_0 rfl ?_
  refine g_iconst (pc := 1) G dX4_same_1 ?_
  refine g_put (pc := 2) G tyX4 tyX4_ok nmX4 hinX4 oModel rfl 0 (by decide) pModel0 f87 rfl rfl rfl dX4_same_2 ?_
  refine g_mem (fun M1 L1 hM1 hL1 => ?_)
  obtain rfl : L = L1 := hL1.symm
  have hA1 : rAll Tf Xf M1 := by rw [hM1]; exact rAll_0 hA
  have hK1 : rKeep M M1 := ⟨by rw [hM1, sjU_o (by omega)], by rw [hM1, sjU_s, if_neg (by omega)]⟩
  refine g_aload_n (pc := 5) G dX4_same_5 rfl ?_
  refine g_iload_n (pc := 6) G dX4_same_6 rfl ?_
  refine g_call (pc := 7) (n := 1) (As := [_]) G (kX4_isText hD x hx M1 L) gX4_same_X4_isText oModel rfl rfl hdX4_isText rfl rfl ⟨Nat.le_of_ble_eq_true rfl, Nat.le_of_ble_eq_true rfl⟩ rfl rfl (Nat.le_of_ble_eq_true rfl) dX4_same_7 ?_
  rintro _ _ _ ⟨rfl, rfl, rfl⟩
  by_cases qx : 0 ≤ x ∧ x < 2
  · rw [if_pos qx]
    refine g_if_eq (pc := 10) G (by omega) 50 dX4_same_10 (by decide) (fun h => absurd h (by decide)) (fun _ => ?_)
    refine g_aload_n (pc := 13) G dX4_same_13 rfl ?_
    refine g_iload_n (pc := 14) G dX4_same_14 rfl ?_
    refine g_call (pc := 15) (n := 1) (As := [_]) G (kX4_isSite hD a ha M1 L) gX4_same_X4_isSite oModel rfl rfl hdX4_isSite rfl rfl ⟨Nat.le_of_ble_eq_true rfl, Nat.le_of_ble_eq_true rfl⟩ rfl rfl (Nat.le_of_ble_eq_true rfl) dX4_same_15 ?_
    rintro _ _ _ ⟨rfl, rfl, rfl⟩
    by_cases qa : 0 ≤ a ∧ a < 5
    · rw [if_pos qa]
      refine g_if_eq (pc := 18) G (by omega) 50 dX4_same_18 (by decide) (fun h => absurd h (by decide)) (fun _ => ?_)
      refine g_aload_n (pc := 21) G dX4_same_21 rfl ?_
      refine g_iload_n (pc := 22) G dX4_same_22 rfl ?_
      refine g_call (pc := 23) (n := 1) (As := [_]) G (kX4_isSite hD b hb M1 L) gX4_same_X4_isSite oModel rfl rfl hdX4_isSite rfl rfl ⟨Nat.le_of_ble_eq_true rfl, Nat.le_of_ble_eq_true rfl⟩ rfl rfl (Nat.le_of_ble_eq_true rfl) dX4_same_23 ?_
      rintro _ _ _ ⟨rfl, rfl, rfl⟩
      by_cases qb : 0 ≤ b ∧ b < 5
      · rw [if_pos qb]
        refine g_if_eq (pc := 26) G (by omega) 50 dX4_same_26 (by decide) (fun h => absurd h (by decide)) (fun _ => ?_)
        refine g_aload_n (pc := 29) G dX4_same_29 rfl ?_
        refine g_iconst (pc := 30) G dX4_same_30 ?_
        refine g_iload_n (pc := 31) G dX4_same_31 rfl ?_
        refine g_imul (pc := 32) G dX4_same_32 ?_
        refine g_iload_n (pc := 33) G dX4_same_33 rfl ?_
        refine g_iadd (pc := 34) G dX4_same_34 ?_
        refine g_iconst (pc := 35) G dX4_same_35 ?_
        refine g_iload_n (pc := 36) G dX4_same_36 rfl ?_
        refine g_imul (pc := 37) G dX4_same_37 ?_
        refine g_iload_n (pc := 38) G dX4_same_38 rfl ?_
        refine g_iadd (pc := 39) G dX4_same_39 ?_
        refine g_call (pc := 40) (n := 2) (As := [_, _]) G (kX4_isSame hD (5 * x + a) (by omega) (by omega) (5 * x + b) (by omega) (by omega) M1 L (Tf x) (Xf (5 * x + a)) (Xf (5 * x + b)) (hA1.2 _ (by omega) (by omega)).1 (hA1.2 _ (by omega) (by omega)).1 (hg.2 x a qx.1 qx.2 qa.1 qa.2).1.1 (hg.2 x b qx.1 qx.2 qb.1 qb.2).1.1 (e3_of (hg.2 x a qx.1 qx.2 qa.1 qa.2).1.2.2.1) (e3_of (hg.2 x b qx.1 qx.2 qb.1 qb.2).1.2.2.1)) gX4_same_X4_isSame oModel rfl rfl hdX4_isSame rfl rfl ⟨Nat.le_of_ble_eq_true rfl, Nat.le_of_ble_eq_true rfl⟩ rfl rfl (Nat.le_of_ble_eq_true rfl) dX4_same_40 ?_
        rintro _ _ _ ⟨rfl, rfl, rfl⟩
        have hts : okTS x a ∧ okTS x b := ⟨⟨qx.1, qx.2, qa.1, qa.2⟩, qx.1, qx.2, qb.1, qb.2⟩
        rcases aAlike_01 (Xf (5 * x + a)) (Xf (5 * x + b)) with h01 | h01
        · rw [h01]
          refine g_if_eq (pc := 43) G (by omega) 50 dX4_same_43 (by decide) (fun _ => ?_) (fun h => absurd h (by decide))
          refine g_iconst (pc := 50) G dX4_same_50 ?_
          refine g_zret (pc := 51) G rfl dX4_same_51 ?_
          first
          | (refine ⟨hM1, rfl, ?_⟩; rw [if_pos hts, h01])
          | (refine ⟨hM1, rfl, ?_⟩
             rw [if_neg]
             intro w
             first
             | exact qx ⟨w.1.1, w.1.2.1⟩
             | exact qa ⟨w.1.2.2.1, w.1.2.2.2⟩
             | exact qb ⟨w.2.2.2.1, w.2.2.2.2⟩)
        · rw [h01]
          refine g_if_eq (pc := 43) G (by omega) 50 dX4_same_43 (by decide) (fun h => absurd h (by decide)) (fun _ => ?_)
          refine g_iconst (pc := 46) G dX4_same_46 ?_
          refine g_goto (pc := 47) G 51 dX4_same_47 (by decide) ?_
          refine g_zret (pc := 51) G rfl dX4_same_51 ?_
          first
          | (refine ⟨hM1, rfl, ?_⟩; rw [if_pos hts, h01])
          | (refine ⟨hM1, rfl, ?_⟩
             rw [if_neg]
             intro w
             first
             | exact qx ⟨w.1.1, w.1.2.1⟩
             | exact qa ⟨w.1.2.2.1, w.1.2.2.2⟩
             | exact qb ⟨w.2.2.2.1, w.2.2.2.2⟩)
      · rw [if_neg qb]
        refine g_if_eq (pc := 26) G (by omega) 50 dX4_same_26 (by decide) (fun _ => ?_) (fun h => absurd h (by decide))
        refine g_iconst (pc := 50) G dX4_same_50 ?_
        refine g_zret (pc := 51) G rfl dX4_same_51 ?_
        first
        | (refine ⟨hM1, rfl, ?_⟩; rw [if_pos hts, h01])
        | (refine ⟨hM1, rfl, ?_⟩
           rw [if_neg]
           intro w
           first
           | exact qx ⟨w.1.1, w.1.2.1⟩
           | exact qa ⟨w.1.2.2.1, w.1.2.2.2⟩
           | exact qb ⟨w.2.2.2.1, w.2.2.2.2⟩)
    · rw [if_neg qa]
      refine g_if_eq (pc := 18) G (by omega) 50 dX4_same_18 (by decide) (fun _ => ?_) (fun h => absurd h (by decide))
      refine g_iconst (pc := 50) G dX4_same_50 ?_
      refine g_zret (pc := 51) G rfl dX4_same_51 ?_
      first
      | (refine ⟨hM1, rfl, ?_⟩; rw [if_pos hts, h01])
      | (refine ⟨hM1, rfl, ?_⟩
         rw [if_neg]
         intro w
         first
         | exact qx ⟨w.1.1, w.1.2.1⟩
         | exact qa ⟨w.1.2.2.1, w.1.2.2.2⟩
         | exact qb ⟨w.2.2.2.1, w.2.2.2.2⟩)
  · rw [if_neg qx]
    refine g_if_eq (pc := 10) G (by omega) 50 dX4_same_10 (by decide) (fun _ => ?_) (fun h => absurd h (by decide))
    refine g_iconst (pc := 50) G dX4_same_50 ?_
    refine g_zret (pc := 51) G rfl dX4_same_51 ?_
    first
    | (refine ⟨hM1, rfl, ?_⟩; rw [if_pos hts, h01])
    | (refine ⟨hM1, rfl, ?_⟩
       rw [if_neg]
       intro w
       first
       | exact qx ⟨w.1.1, w.1.2.1⟩
       | exact qa ⟨w.1.2.2.1, w.1.2.2.2⟩
       | exact qb ⟨w.2.2.2.1, w.2.2.2.2⟩)
set_option maxHeartbeats 4000000 in
set_option maxRecDepth 100000 in
theorem kX4_write {l : Launch} {D : va_G} {cI cZ cJ cT cC : ClassId} {ad : Nat → Nat} {A : Nat → Prop} (hD : ∀ g : Nat → va_E, va_D A (sjW 26 ad g)) (x y : Int) (hx : rng x) (hy : rng y) (M : sjM) (L : sjL) (Tf Xf : Int → aS) (lts : Int → Int → Int → Prop) (hA : rAll Tf Xf M) (hg : gAll Tf Xf lts) (O : Int → Int) : Met l yX4_write wsX4_write { frames := 1, cells := 0, slots := 0, locals := 21 } (sjA D cI cZ cJ cT cC 26 ad (kR cI cZ cJ ad) [.ref (ad 0), .int (iI x), .int (iI y)] M L) (sjZ D 26 ad (kR cI cZ cJ ad) A (fun v M' L' => L = L' ∧ ((okTS x y ∧ rAll Tf Xf M' ∧ M' 0 3 = iI (aWrF (Tf x) (Xf (5 * x + y)) (Xf (5 * x + y) 0 0).toNat 0 0 O).1 ∧ (∀ z, 0 ≤ z → z < (aWrF (Tf x) (Xf (5 * x + y)) (Xf (5 * x + y) 0 0).toNat 0 0 O).1 → M' 19 z = iI ((aWrF (Tf x) (Xf (5 * x + y)) (Xf (5 * x + y) 0 0).toNat 0 0 O).2 z)) ∧ v = some (.int (iI (aWrF (Tf x) (Xf (5 * x + y)) (Xf (5 * x + y) 0 0).toNat 0 0 O).1))) ∨ (¬ okTS x y ∧ rAll Tf Xf M' ∧ rKeep M M' ∧ v = some (.int (iI (-1))))))) 0 0 A := by
  refine g_met (cc := cX4_write) (maxL := 6) (ret := (some .int)) (lv := [_, _, _, _, _, _]) (by decide) rfl hD kR_loc (List.forall_mem_cons.mpr ⟨rfl, List.forall_mem_cons.mpr ⟨rfl, List.forall_mem_cons.mpr ⟨rfl, fun _ h => absurd h List.not_mem_nil⟩⟩⟩) (Nat.le_of_ble_eq_true rfl) rfl ?_
  intro J G
  have f19 : Cond.fieldLink RX4 19 "SharedPageModel" "letterOf" "[I" ∈ wsX4_write := by decide +kernel
  have f47 : Cond.fieldLink RX4 47 "SharedPageModel" "row" "[I" ∈ wsX4_write := by decide +kernel
  have f50 : Cond.fieldLink RX4 50 "SharedPageModel" "many" "[I" ∈ wsX4_write := by decide +kernel
  have f56 : Cond.fieldLink RX4 56 "SharedPageModel" "erased" "[Z" ∈ wsX4_write := by decide +kernel
  have f65 : Cond.fieldLink RX4 65 "SharedPageModel" "out" "[I" ∈ wsX4_write := by decide +kernel
  have f87 : Cond.fieldLink RX4 87 "SharedPageModel" "told" "I" ∈ wsX4_write := by decide +kernel
  have f167 : Cond.fieldLink RX4 167 "SharedPageModel" "outs" "I" ∈ wsX4_write := by decide +kernel
  have hinX4 : ∀ w ∈ u_ws RX4 TX4 29, w ∈ wsX4_write := fun w h => List.mem_cons_of_mem _ (List.mem_append_right _ h)
  refine g_aload_n (pc := 0) G dX4_write_0 rfl ?_
  refine g_iconst (pc := 1) G dX4_write_1 ?_
  refine g_put (pc := 2) G tyX4 tyX4_ok nmX4 hinX4 oModel rfl 0 (by decide) pModel0 f87 rfl rfl rfl dX4_write_2 ?_
  refine g_mem (fun M1 L1 hM1 hL1 => ?_)
  obtain rfl : L = L1 := hL1.symm
  have hA1 : rAll Tf Xf M1 := by rw [hM1]; exact rAll_0 hA
  have hK1 : rKeep M M1 := ⟨by rw [hM1, sjU_o (by omega)], by rw [hM1, sjU_s, if_neg (by omega)]⟩
  refine g_aload_n (pc := 5) G dX4_write_5 rfl ?_
  refine g_iload_n (pc := 6) G dX4_write_6 rfl ?_
  refine g_call (pc := 7) (n := 1) (As := [_]) G (kX4_isText hD x hx M1 L) gX4_write_X4_isText oModel rfl rfl hdX4_isText rfl rfl ⟨Nat.le_of_ble_eq_true rfl, Nat.le_of_ble_eq_true rfl⟩ rfl rfl (Nat.le_of_ble_eq_true rfl) dX4_write_7 ?_
  rintro _ _ _ ⟨rfl, rfl, rfl⟩
  by_cases qx : 0 ≤ x ∧ x < 2
  · rw [if_pos qx]
    refine g_if_eq (pc := 10) G (by omega) 21 dX4_write_10 (by decide) (fun h => absurd h (by decide)) (fun _ => ?_)
    refine g_aload_n (pc := 13) G dX4_write_13 rfl ?_
    refine g_iload_n (pc := 14) G dX4_write_14 rfl ?_
    refine g_call (pc := 15) (n := 1) (As := [_]) G (kX4_isSite hD y hy M1 L) gX4_write_X4_isSite oModel rfl rfl hdX4_isSite rfl rfl ⟨Nat.le_of_ble_eq_true rfl, Nat.le_of_ble_eq_true rfl⟩ rfl rfl (Nat.le_of_ble_eq_true rfl) dX4_write_15 ?_
    rintro _ _ _ ⟨rfl, rfl, rfl⟩
    by_cases qy : 0 ≤ y ∧ y < 5
    · rw [if_pos qy]
      refine g_if_ne (pc := 18) G (by omega) 23 dX4_write_18 (by decide) (fun _ => ?_) (fun h => absurd h (by decide))
      refine g_iconst (pc := 23) G dX4_write_23 ?_
      refine g_iload_n (pc := 24) G dX4_write_24 rfl ?_
      refine g_imul (pc := 25) G dX4_write_25 ?_
      refine g_iload_n (pc := 26) G dX4_write_26 rfl ?_
      refine g_iadd (pc := 27) G dX4_write_27 ?_
      refine g_istore_n (pc := 28) (lv' := [_, _, _, _, _, _]) G dX4_write_28 (by decide) rfl ?_
      refine g_aload_n (pc := 29) G dX4_write_29 rfl ?_
      refine g_iconst (pc := 30) G dX4_write_30 ?_
      refine g_put (pc := 31) G tyX4 tyX4_ok nmX4 hinX4 oModel rfl 22 (by decide) pModel3 f167 rfl rfl rfl dX4_write_31 ?_
      refine g_mem (fun M2 L2 hM2 hL2 => ?_)
      obtain rfl : L = L2 := hL2.symm
      have h030 : M2 0 3 = iI 0 := by rw [hM2, sjU_s, if_pos rfl]
      have ho20 : ∀ k, 1 ≤ k → k ≤ 18 → M2 k = M k := fun k h1 h2 => by rw [hM2, sjU_o (by omega), hM1, sjU_o (by omega)]
      refine g_iconst (pc := 34) G dX4_write_34 ?_
      refine g_istore (pc := 35) (lv' := [_, _, _, _, _, _]) G dX4_write_35 (by decide) rfl ?_
      have hI := (hg.2 x y qx.1 qx.2 qy.1 qy.2).1
      have hl0 := hI.1.1
      have hl1 := hI.1.2.1
      have loop : ∀ (f : Nat) (q n : Int) (O1 : Int → Int) (M2 : sjM) (x5 : Option Value), 0 ≤ q → q ≤ (Xf (5 * x + y)) 0 0 → ((Xf (5 * x + y)) 0 0 - q).toNat < f → 0 ≤ n → n ≤ q → (∀ k, 1 ≤ k → k ≤ 18 → M2 k = M k) → M2 0 3 = iI n → (∀ z, 0 ≤ z → z < n → M2 19 z = iI (O1 z)) → aWrF (Tf x) (Xf (5 * x + y)) ((Xf (5 * x + y)) 0 0 - q).toNat q n O1 = (aWrF (Tf x) (Xf (5 * x + y)) (Xf (5 * x + y) 0 0).toNat 0 0 O) → J 37 M2 L [some (.ref (ad 0)), some (.int (iI x)), some (.int (iI y)), some (.int (iI (5 * x + y))), some (.int (iI q)), x5] [] := by
        intro f
        induction f with
        | zero => intro q n O1 M2 x5 _ _ h; omega
        | succ f ih =>
          intro q n O1 M2 x5 hq0 hq1 hf hn0 hn1 ho2 h03 hO1 hR
          have hA2 : rAll Tf Xf M2 := rAll_of hA ho2
          refine g_iload (pc := 37) G dX4_write_37 rfl ?_
          refine g_aload_n (pc := 39) G dX4_write_39 rfl ?_
          refine g_getR (pc := 40) G hinX4 oModel rfl 14 (by decide) f50 rfl rfl dX4_write_40 ?_
          refine g_iload_n (pc := 43) G dX4_write_43 rfl ?_
          refine g_iald (pc := 44) G rMany (by clear hR; omega) dX4_write_44 ?_
          refine g_top (ld ((hA2.2 _ (by omega) (by omega)).1.1)) ?_
          refine g_icmp_ge (pc := 45) G (by clear hR; omega) (by clear hR; omega) 117 dX4_write_45 (by decide) (fun h45 => ?_) (fun h45 => ?_)
          · -- 45 t
            rw [show ((Xf (5 * x + y)) 0 0 - q).toNat = 0 by clear hR; omega, aWrF] at hR
            --go
            refine g_aload_n (pc := 117) G dX4_write_117 rfl ?_
            refine g_getI (pc := 118) G hinX4 oModel rfl 22 (by decide) f167 rfl rfl dX4_write_118 ?_
            refine g_top (ld (h03)) ?_
            refine g_iret (pc := 121) G dX4_write_121 ?_
            refine ⟨rfl, Or.inl ⟨⟨qx.1, qx.2, qy.1, qy.2⟩, hA2, ?_, ?_, ?_⟩⟩
            · rw [← hR]; exact h03
            · rw [← hR]; exact hO1
            · rw [← hR]
          · -- 45 f
            rw [show ((Xf (5 * x + y)) 0 0 - q).toNat = ((Xf (5 * x + y)) 0 0 - (q + 1)).toNat + 1 by clear hR; omega, aWrF, at_in hq0 (show q < (Xf (5 * x + y)) 0 0 by clear hR; omega) hI.1.2.1] at hR
            have hbx := (hI.1.2.2.1 q hq0 (by clear hR; omega)).1
            have hb0 := hbx.1
            have hb1 := hbx.2.2
            have hsx := seen_iff hI.1 hq0 (show q < (Xf (5 * x + y)) 0 0 by clear hR; omega)
            --go
            refine g_aload_n (pc := 48) G dX4_write_48 rfl ?_
            refine g_getR (pc := 49) G hinX4 oModel rfl 13 (by decide) f47 rfl rfl dX4_write_49 ?_
            refine g_bipush (pc := 52) G dX4_write_52 rfl ?_
            refine g_iload_n (pc := 54) G dX4_write_54 rfl ?_
            refine g_imul (pc := 55) G dX4_write_55 ?_
            refine g_iload (pc := 56) G dX4_write_56 rfl ?_
            refine g_iadd (pc := 58) G dX4_write_58 ?_
            refine g_iald (pc := 59) G rRow (by clear hR; omega) dX4_write_59 ?_
            refine g_top (ld ((hA2.2 _ (by omega) (by omega)).1.2.1 q hq0 (by omega))) ?_
            refine g_istore (pc := 60) (lv' := [_, _, _, _, _, _]) G dX4_write_60 (by decide) rfl ?_
            refine g_aload_n (pc := 62) G dX4_write_62 rfl ?_
            refine g_getR (pc := 63) G hinX4 oModel rfl 16 (by decide) f56 rfl rfl dX4_write_63 ?_
            refine g_bipush (pc := 66) G dX4_write_66 rfl ?_
            refine g_iload_n (pc := 68) G dX4_write_68 rfl ?_
            refine g_imul (pc := 69) G dX4_write_69 ?_
            refine g_iload (pc := 70) G dX4_write_70 rfl ?_
            refine g_iadd (pc := 72) G dX4_write_72 ?_
            refine g_zald (pc := 73) G rErased (by clear hR; omega) dX4_write_73 ?_
            refine g_top (ld (((hA2.2 _ (by omega) (by omega)).1.2.2.1 _ hb0 hb1).2)) ?_
            refine g_if_eq (pc := 74) G (by rcases e3_of hI.2.2.1 _ hb0 hb1 with w | w <;> omega) 80 dX4_write_74 (by decide) (fun h74 => ?_) (fun h74 => ?_)
            · -- 74 t
              rw [if_pos ⟨hsx.mpr h74, by clear hR; omega⟩] at hR
              --go
              refine g_aload_n (pc := 80) G dX4_write_80 rfl ?_
              refine g_getR (pc := 81) G hinX4 oModel rfl 21 (by decide) f65 rfl rfl dX4_write_81 ?_
              refine g_aload_n (pc := 84) G dX4_write_84 rfl ?_
              refine g_getI (pc := 85) G hinX4 oModel rfl 22 (by decide) f167 rfl rfl dX4_write_85 ?_
              refine g_top (ld (h03)) ?_
              refine g_aload_n (pc := 88) G dX4_write_88 rfl ?_
              refine g_getR (pc := 89) G hinX4 oModel rfl 4 (by decide) f19 rfl rfl dX4_write_89 ?_
              refine g_bipush (pc := 92) G dX4_write_92 rfl ?_
              refine g_iload_n (pc := 94) G dX4_write_94 rfl ?_
              refine g_imul (pc := 95) G dX4_write_95 ?_
              refine g_iload (pc := 96) G dX4_write_96 rfl ?_
              refine g_iadd (pc := 98) G dX4_write_98 ?_
              refine g_iald (pc := 99) G rLetter (by clear hR; omega) dX4_write_99 ?_
              refine g_top (ld (((hA2.1 x qx.1 qx.2).2.1 _ hb0 hb1).2.2.1)) ?_
              refine g_iast (pc := 100) G rOut (by clear hR; omega) dX4_write_100 ?_
              refine g_mem (fun M3 L3 hM3 hL3 => ?_)
              obtain rfl : L = L3 := hL3.symm
              have h03b : M3 0 3 = iI n := by rw [hM3, sjU_o (by omega)]; exact h03
              refine g_aload_n (pc := 101) G dX4_write_101 rfl ?_
              refine g_aload_n (pc := 102) G dX4_write_102 rfl ?_
              refine g_getI (pc := 103) G hinX4 oModel rfl 22 (by decide) f167 rfl rfl dX4_write_103 ?_
              refine g_top (ld (h03b)) ?_
              refine g_iconst (pc := 106) G dX4_write_106 ?_
              refine g_iadd (pc := 107) G dX4_write_107 ?_
              refine g_put (pc := 108) G tyX4 tyX4_ok nmX4 hinX4 oModel rfl 22 (by decide) pModel3 f167 rfl rfl rfl dX4_write_108 ?_
              refine g_mem (fun M4 L4 hM4 hL4 => ?_)
              obtain rfl : L = L4 := hL4.symm
              have h034 : M4 0 3 = iI (n + 1) := by rw [hM4, sjU_s, if_pos rfl]
              have ho4 : ∀ k, 1 ≤ k → k ≤ 18 → M4 k = M k := fun k h1 h2 => by rw [hM4, sjU_o (by omega), hM3, sjU_o (by omega)]; exact ho2 k h1 h2
              have hO4 : ∀ z, 0 ≤ z → z < n + 1 → M4 19 z = iI ((fun z => if z = n then aLetter (Tf x) ((Xf (5 * x + y)) 1 q) else O1 z) z) := by
                intro z z0 z1
                show M4 19 z = iI (if z = n then aLetter (Tf x) ((Xf (5 * x + y)) 1 q) else O1 z)
                rw [hM4, sjU_o (by omega), hM3, sjU_s]
                by_cases hz : z = n
                · rw [if_pos hz, if_pos hz]; unfold aLetter; rw [if_pos hbx]
                · rw [if_neg hz, if_neg hz]; exact hO1 z z0 (by omega)
              refine g_iinc (pc := 111) (lv' := [_, _, _, _, _, _]) G dX4_write_111 (by decide) rfl rfl ?_
              refine g_goto (pc := 114) G 37 dX4_write_114 (by decide) ?_
              exact ih (q + 1) (n + 1) _ M4 _ (by clear hR; omega) (by clear hR; omega) (by clear hR; omega) (by clear hR; omega) (by clear hR; omega) ho4 h034 hO4 hR
            · -- 74 f
              rw [if_neg (fun w => h74 (hsx.mp w.1))] at hR
              --go
              refine g_goto (pc := 77) G 111 dX4_write_77 (by decide) ?_
              refine g_iinc (pc := 111) (lv' := [_, _, _, _, _, _]) G dX4_write_111 (by decide) rfl rfl ?_
              refine g_goto (pc := 114) G 37 dX4_write_114 (by decide) ?_
              exact ih (q + 1) n O1 M2 _ (by clear hR; omega) (by clear hR; omega) (by clear hR; omega) hn0 (by clear hR; omega) ho2 h03 hO1 hR
      exact loop _ 0 0 O M2 _ (by omega) (by omega) (Nat.lt_succ_self _) (by omega) (by omega) ho20 h030 (fun z z0 z1 => by omega) (by rw [Int.sub_zero])
    · rw [if_neg qy]
      refine g_if_ne (pc := 18) G (by omega) 23 dX4_write_18 (by decide) (fun h => absurd h (by decide)) (fun _ => ?_)
      refine g_iconst (pc := 21) G dX4_write_21 ?_
      refine g_iret (pc := 22) G dX4_write_22 ?_
      refine ⟨rfl, Or.inr ⟨?_, hA1, hK1, rfl⟩⟩
      intro w
      first
      | exact qx ⟨w.1, w.2.1⟩
      | exact qy ⟨w.2.2.1, w.2.2.2⟩
  · rw [if_neg qx]
    refine g_if_eq (pc := 10) G (by omega) 21 dX4_write_10 (by decide) (fun _ => ?_) (fun h => absurd h (by decide))
    refine g_iconst (pc := 21) G dX4_write_21 ?_
    refine g_iret (pc := 22) G dX4_write_22 ?_
    refine ⟨rfl, Or.inr ⟨?_, hA1, hK1, rfl⟩⟩
    intro w
    first
    | exact qx ⟨w.1, w.2.1⟩
    | exact qy ⟨w.2.2.1, w.2.2.2⟩
