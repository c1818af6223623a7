set_option maxHeartbeats 4000000 in
set_option maxRecDepth 100000 in
theorem kX4_orders {l : Launch} {D : va_G} {cI cZ cJ cT cC : ClassId} {ad : Nat → Nat} {A : Nat → Prop} (hD : ∀ g : Nat → va_E, va_D A (sjW 26 ad g)) (x y : Int) (hx : rng x) (hy : rng y) (M : sjM) (L : sjL) (Tf Xf : Int → aS) (lts : Int → Int → Int → Prop) (hA : rAll Tf Xf M) (hg : gAll Tf Xf lts) : Met l yX4_orders wsX4_orders { frames := 2, cells := 0, slots := 0, locals := 51 } (sjA D cI cZ cJ cT cC 26 ad (kR cI cZ cJ ad) [.ref (ad 0), .int (iI x), .int (iI y)] M L) (sjZ D 26 ad (kR cI cZ cJ ad) A (fun v M' L' => rKeep M M' ∧ rAll Tf Xf M' ∧ (((okTS x y ∧ (Xf (5 * x + y)) 0 0 ≤ 12) ∧ ∃ R : Nat → Int64, recU ((Xf (5 * x + y)) 0 0).toNat (prX (Tf x) (Xf (5 * x + y))) R ∧ v = some (.long (R 0))) ∨ (¬ (okTS x y ∧ (Xf (5 * x + y)) 0 0 ≤ 12) ∧ v = some (.long (-1)))))) 0 0 A := by
  refine g_met (cc := cX4_orders) (maxL := 3) (ret := (some .long)) (lv := [_, _, _]) (by decide) rfl hD kR_loc (List.forall_mem_cons.mpr ⟨rfl, List.forall_mem_cons.mpr ⟨rfl, List.forall_mem_cons.mpr ⟨rfl, fun _ h => absurd h List.not_mem_nil⟩⟩⟩) (Nat.le_of_ble_eq_true rfl) rfl ?_
  intro J G
  have f50 : Cond.fieldLink RX4 50 "SharedPageModel" "many" "[I" ∈ wsX4_orders := by decide +kernel
  have f83 : Cond.fieldLink RX4 83 "SharedPageModel" "ways" "[J" ∈ wsX4_orders := by decide +kernel
  have f87 : Cond.fieldLink RX4 87 "SharedPageModel" "told" "I" ∈ wsX4_orders := by decide +kernel
  have hinX4 : ∀ w ∈ u_ws RX4 TX4 29, w ∈ wsX4_orders := fun w h => List.mem_cons_of_mem _ (List.mem_append_right _ h)
  refine g_aload_n (pc := 0) G dX4_orders_0 rfl ?_
  refine g_iconst (pc := 1) G dX4_orders_1 ?_
  refine g_put (pc := 2) G tyX4 tyX4_ok nmX4 hinX4 oModel rfl 0 (by decide) pModel0 f87 rfl rfl rfl dX4_orders_2 ?_
  refine g_mem (fun M1 L1 hM1 hL1 => ?_)
  obtain rfl : L = L1 := hL1.symm
  have hA1 : rAll Tf Xf M1 := by rw [hM1]; exact rAll_0 hA
  have hK1 : rKeep M M1 := ⟨by rw [hM1, sjU_o (by omega)], by rw [hM1, sjU_s, if_neg (by omega)]⟩
  refine g_aload_n (pc := 5) G dX4_orders_5 rfl ?_
  refine g_iload_n (pc := 6) G dX4_orders_6 rfl ?_
  refine g_call (pc := 7) (n := 1) (As := [_]) G (kX4_isText hD x hx M1 L) gX4_orders_X4_isText oModel rfl rfl hdX4_isText rfl rfl ⟨Nat.le_of_ble_eq_true rfl, Nat.le_of_ble_eq_true rfl⟩ rfl rfl (Nat.le_of_ble_eq_true rfl) dX4_orders_7 ?_
  rintro _ _ _ ⟨rfl, rfl, rfl⟩
  by_cases qx : 0 ≤ x ∧ x < 2
  · rw [if_pos qx]
    refine g_if_eq (pc := 10) G (by omega) 36 dX4_orders_10 (by decide) (fun h => absurd h (by decide)) (fun _ => ?_)
    refine g_aload_n (pc := 13) G dX4_orders_13 rfl ?_
    refine g_iload_n (pc := 14) G dX4_orders_14 rfl ?_
    refine g_call (pc := 15) (n := 1) (As := [_]) G (kX4_isSite hD y hy M1 L) gX4_orders_X4_isSite oModel rfl rfl hdX4_isSite rfl rfl ⟨Nat.le_of_ble_eq_true rfl, Nat.le_of_ble_eq_true rfl⟩ rfl rfl (Nat.le_of_ble_eq_true rfl) dX4_orders_15 ?_
    rintro _ _ _ ⟨rfl, rfl, rfl⟩
    by_cases qy : 0 ≤ y ∧ y < 5
    · rw [if_pos qy]
      refine g_if_eq (pc := 18) G (by omega) 36 dX4_orders_18 (by decide) (fun h => absurd h (by decide)) (fun _ => ?_)
      have hI := (hg.2 x y qx.1 qx.2 qy.1 qy.2).1
      have hl0 := hI.1.1
      have hl1 := hI.1.2.1
      have hG := (hg.1 x qx.1 qx.2).1
      refine g_aload_n (pc := 21) G dX4_orders_21 rfl ?_
      refine g_getR (pc := 22) G hinX4 oModel rfl 14 (by decide) f50 rfl rfl dX4_orders_22 ?_
      refine g_iconst (pc := 25) G dX4_orders_25 ?_
      refine g_iload_n (pc := 26) G dX4_orders_26 rfl ?_
      refine g_imul (pc := 27) G dX4_orders_27 ?_
      refine g_iload_n (pc := 28) G dX4_orders_28 rfl ?_
      refine g_iadd (pc := 29) G dX4_orders_29 ?_
      refine g_iald (pc := 30) G rMany (by omega) dX4_orders_30 ?_
      refine g_top (ld ((hA1.2 (5 * x + y) (by omega) (by omega)).1.1)) ?_
      refine g_bipush (pc := 31) G dX4_orders_31 rfl ?_
      refine g_icmp_le (pc := 33) G (by omega) (by omega) 40 dX4_orders_33 (by decide) (fun h33 => ?_) (fun h33 => ?_)
      · -- 33 t
        refine g_aload_n (pc := 40) G dX4_orders_40 rfl ?_
        refine g_iconst (pc := 41) G dX4_orders_41 ?_
        refine g_iload_n (pc := 42) G dX4_orders_42 rfl ?_
        refine g_imul (pc := 43) G dX4_orders_43 ?_
        refine g_iload_n (pc := 44) G dX4_orders_44 rfl ?_
        refine g_iadd (pc := 45) G dX4_orders_45 ?_
        refine g_iload_n (pc := 46) G dX4_orders_46 rfl ?_
        refine g_call (pc := 47) (n := 2) (As := [_, _]) G (kX4_counts hD (5 * x + y) (by omega) (by omega) x qx.1 qx.2 M1 L (Tf x) (Xf (5 * x + y)) (lts x) (hA1.2 _ (by omega) (by omega)).1 ⟨hI.1, hI.2.1⟩ (hA1.1 x qx.1 qx.2) hG.1 h33) gX4_orders_X4_counts oModel rfl rfl hdX4_counts rfl rfl ⟨Nat.le_of_ble_eq_true rfl, Nat.le_of_ble_eq_true rfl⟩ rfl rfl (Nat.le_of_ble_eq_true rfl) dX4_orders_47 ?_
        rintro _ M2 L2 ⟨rfl, hM2, hru, hfm⟩
        have hA2 : rAll Tf Xf M2 := rAll_of hA1 (fun k a b => hM2 k (by omega))
        have hK2 : rKeep M M2 := ⟨(hM2 19 (by omega)).trans hK1.1, by rw [hM2 0 (by omega)]; exact hK1.2⟩
        refine g_aload_n (pc := 50) G dX4_orders_50 rfl ?_
        refine g_getR (pc := 51) G hinX4 oModel rfl 28 (by decide) f83 rfl rfl dX4_orders_51 ?_
        refine g_iconst (pc := 54) G dX4_orders_54 ?_
        refine g_lald (pc := 55) G rWays (by omega) dX4_orders_55 ?_
        refine g_lret (pc := 56) G dX4_orders_56 ?_
        exact ⟨hK2, hA2, Or.inl ⟨⟨⟨qx.1, qx.2, qy.1, qy.2⟩, h33⟩, fun S : Nat => L2 25 (S : Int), hru, rfl⟩⟩
      · -- 33 f
        refine g_ldc2 (pc := 36) (v := -1) G (by decide +kernel) dX4_orders_36 ?_
        refine g_lret (pc := 39) G dX4_orders_39 ?_
        refine ⟨hK1, hA1, Or.inr ⟨fun w => ?_, rfl⟩⟩
        first
        | exact qx ⟨w.1.1, w.1.2.1⟩
        | exact qy ⟨w.1.2.2.1, w.1.2.2.2⟩
        | (have := w.2; omega)
    · rw [if_neg qy]
      refine g_if_eq (pc := 18) G (by omega) 36 dX4_orders_18 (by decide) (fun _ => ?_) (fun h => absurd h (by decide))
      refine g_ldc2 (pc := 36) (v := -1) G (by decide +kernel) dX4_orders_36 ?_
      refine g_lret (pc := 39) G dX4_orders_39 ?_
      refine ⟨hK1, hA1, Or.inr ⟨fun w => ?_, rfl⟩⟩
      first
      | exact qx ⟨w.1.1, w.1.2.1⟩
      | exact qy ⟨w.1.2.2.1, w.1.2.2.2⟩
      | (have := w.2; omega)
  · rw [if_neg qx]
    refine g_if_eq (pc := 10) G (by omega) 36 dX4_orders_10 (by decide) (fun _ => ?_) (fun h => absurd h (by decide))
    refine g_ldc2 (pc := 36) (v := -1) G (by decide +kernel) dX4_orders_36 ?_
    refine g_lret (pc := 39) G dX4_orders_39 ?_
    refine ⟨hK1, hA1, Or.inr ⟨fun w => ?_, rfl⟩⟩
    first
    | exact qx ⟨w.1.1, w.1.2.1⟩
    | exact qy ⟨w.1.2.2.1, w.1.2.2.2⟩
    | (have := w.2; omega)
set_option maxHeartbeats 4000000 in
set_option maxRecDepth 100000 in
theorem kX4_number {l : Launch} {D : va_G} {cI cZ cJ cT cC : ClassId} {ad : Nat → Nat} {A : Nat → Prop} (hD : ∀ g : Nat → va_E, va_D A (sjW 26 ad g)) (x y : Int) (hx : rng x) (hy : rng y) (M : sjM) (L : sjL) (Tf Xf : Int → aS) (lts : Int → Int → Int → Prop) (hA : rAll Tf Xf M) (hg : gAll Tf Xf lts) : Met l yX4_number wsX4_number { frames := 2, cells := 0, slots := 0, locals := 51 } (sjA D cI cZ cJ cT cC 26 ad (kR cI cZ cJ ad) [.ref (ad 0), .int (iI x), .int (iI y)] M L) (sjZ D 26 ad (kR cI cZ cJ ad) A (fun v M' L' => rKeep M M' ∧ rAll Tf Xf M' ∧ (((okTS x y ∧ (Xf (5 * x + y)) 0 0 ≤ 12) ∧ ∃ R : Nat → Int64, recU ((Xf (5 * x + y)) 0 0).toNat (prX (Tf x) (Xf (5 * x + y))) R ∧ v = some (.long (ruS (prX (Tf x) (Xf (5 * x + y))) (Tf x) (Xf (5 * x + y)) R ((Xf (5 * x + y)) 0 0).toNat))) ∨ (¬ (okTS x y ∧ (Xf (5 * x + y)) 0 0 ≤ 12) ∧ v = some (.long (-1)))))) 0 0 A := by
  refine g_met (cc := cX4_number) (maxL := 11) (ret := (some .long)) (lv := [_, _, _, _, _, _, _, _, _, _, _]) (by decide) rfl hD kR_loc (List.forall_mem_cons.mpr ⟨rfl, List.forall_mem_cons.mpr ⟨rfl, List.forall_mem_cons.mpr ⟨rfl, fun _ h => absurd h List.not_mem_nil⟩⟩⟩) (Nat.le_of_ble_eq_true rfl) rfl ?_
  intro J G
  have f47 : Cond.fieldLink RX4 47 "SharedPageModel" "row" "[I" ∈ wsX4_number := by decide +kernel
  have f50 : Cond.fieldLink RX4 50 "SharedPageModel" "many" "[I" ∈ wsX4_number := by decide +kernel
  have f80 : Cond.fieldLink RX4 80 "SharedPageModel" "ahead" "[I" ∈ wsX4_number := by decide +kernel
  have f83 : Cond.fieldLink RX4 83 "SharedPageModel" "ways" "[J" ∈ wsX4_number := by decide +kernel
  have f87 : Cond.fieldLink RX4 87 "SharedPageModel" "told" "I" ∈ wsX4_number := by decide +kernel
  have hinX4 : ∀ w ∈ u_ws RX4 TX4 29, w ∈ wsX4_number := fun w h => List.mem_cons_of_mem _ (List.mem_append_right _ h)
  refine g_aload_n (pc := 0) G dX4_number_0 rfl ?_
  refine g_iconst (pc := 1) G dX4_number_1 ?_
  refine g_put (pc := 2) G tyX4 tyX4_ok nmX4 hinX4 oModel rfl 0 (by decide) pModel0 f87 rfl rfl rfl dX4_number_2 ?_
  refine g_mem (fun M1 L1 hM1 hL1 => ?_)
  obtain rfl : L = L1 := hL1.symm
  have hA1 : rAll Tf Xf M1 := by rw [hM1]; exact rAll_0 hA
  have hK1 : rKeep M M1 := ⟨by rw [hM1, sjU_o (by omega)], by rw [hM1, sjU_s, if_neg (by omega)]⟩
  refine g_aload_n (pc := 5) G dX4_number_5 rfl ?_
  refine g_iload_n (pc := 6) G dX4_number_6 rfl ?_
  refine g_call (pc := 7) (n := 1) (As := [_]) G (kX4_isText hD x hx M1 L) gX4_number_X4_isText oModel rfl rfl hdX4_isText rfl rfl ⟨Nat.le_of_ble_eq_true rfl, Nat.le_of_ble_eq_true rfl⟩ rfl rfl (Nat.le_of_ble_eq_true rfl) dX4_number_7 ?_
  rintro _ _ _ ⟨rfl, rfl, rfl⟩
  by_cases qx : 0 ≤ x ∧ x < 2
  · rw [if_pos qx]
    refine g_if_eq (pc := 10) G (by omega) 36 dX4_number_10 (by decide) (fun h => absurd h (by decide)) (fun _ => ?_)
    refine g_aload_n (pc := 13) G dX4_number_13 rfl ?_
    refine g_iload_n (pc := 14) G dX4_number_14 rfl ?_
    refine g_call (pc := 15) (n := 1) (As := [_]) G (kX4_isSite hD y hy M1 L) gX4_number_X4_isSite oModel rfl rfl hdX4_isSite rfl rfl ⟨Nat.le_of_ble_eq_true rfl, Nat.le_of_ble_eq_true rfl⟩ rfl rfl (Nat.le_of_ble_eq_true rfl) dX4_number_15 ?_
    rintro _ _ _ ⟨rfl, rfl, rfl⟩
    by_cases qy : 0 ≤ y ∧ y < 5
    · rw [if_pos qy]
      refine g_if_eq (pc := 18) G (by omega) 36 dX4_number_18 (by decide) (fun h => absurd h (by decide)) (fun _ => ?_)
      have hI := (hg.2 x y qx.1 qx.2 qy.1 qy.2).1
      have hl0 := hI.1.1
      have hl1 := hI.1.2.1
      have hG := (hg.1 x qx.1 qx.2).1
      refine g_aload_n (pc := 21) G dX4_number_21 rfl ?_
      refine g_getR (pc := 22) G hinX4 oModel rfl 14 (by decide) f50 rfl rfl dX4_number_22 ?_
      refine g_iconst (pc := 25) G dX4_number_25 ?_
      refine g_iload_n (pc := 26) G dX4_number_26 rfl ?_
      refine g_imul (pc := 27) G dX4_number_27 ?_
      refine g_iload_n (pc := 28) G dX4_number_28 rfl ?_
      refine g_iadd (pc := 29) G dX4_number_29 ?_
      refine g_iald (pc := 30) G rMany (by omega) dX4_number_30 ?_
      refine g_top (ld ((hA1.2 (5 * x + y) (by omega) (by omega)).1.1)) ?_
      refine g_bipush (pc := 31) G dX4_number_31 rfl ?_
      refine g_icmp_le (pc := 33) G (by omega) (by omega) 40 dX4_number_33 (by decide) (fun h33 => ?_) (fun h33 => ?_)
      · -- 33 t
        refine g_iconst (pc := 40) G dX4_number_40 ?_
        refine g_iload_n (pc := 41) G dX4_number_41 rfl ?_
        refine g_imul (pc := 42) G dX4_number_42 ?_
        refine g_iload_n (pc := 43) G dX4_number_43 rfl ?_
        refine g_iadd (pc := 44) G dX4_number_44 ?_
        refine g_istore_n (pc := 45) (lv' := [_, _, _, _, _, _, _, _, _, _, _]) G dX4_number_45 (by decide) rfl ?_
        refine g_aload_n (pc := 46) G dX4_number_46 rfl ?_
        refine g_iload_n (pc := 47) G dX4_number_47 rfl ?_
        refine g_iload_n (pc := 48) G dX4_number_48 rfl ?_
        refine g_call (pc := 49) (n := 2) (As := [_, _]) G (kX4_counts hD (5 * x + y) (by omega) (by omega) x qx.1 qx.2 M1 L (Tf x) (Xf (5 * x + y)) (lts x) (hA1.2 _ (by omega) (by omega)).1 ⟨hI.1, hI.2.1⟩ (hA1.1 x qx.1 qx.2) hG.1 h33) gX4_number_X4_counts oModel rfl rfl hdX4_counts rfl rfl ⟨Nat.le_of_ble_eq_true rfl, Nat.le_of_ble_eq_true rfl⟩ rfl rfl (Nat.le_of_ble_eq_true rfl) dX4_number_49 ?_
        rintro _ M2 L2 ⟨rfl, hM2, hru, hfm⟩
        have hA2 : rAll Tf Xf M2 := rAll_of hA1 (fun k a b => hM2 k (by omega))
        have hK2 : rKeep M M2 := ⟨(hM2 19 (by omega)).trans hK1.1, by rw [hM2 0 (by omega)]; exact hK1.2⟩
        refine g_lconst (pc := 52) (v := 0) G dX4_number_52 rfl ?_
        refine g_lstore (pc := 53) (lv' := [_, _, _, _, _, _, _, _, _, _, _]) G dX4_number_53 (by decide) rfl ?_
        refine g_iconst (pc := 55) G dX4_number_55 ?_
        refine g_istore (pc := 56) (lv' := [_, _, _, _, _, _, _, _, _, _, _]) G dX4_number_56 (by decide) rfl ?_
        refine g_iconst (pc := 58) G dX4_number_58 ?_
        refine g_istore (pc := 59) (lv' := [_, _, _, _, _, _, _, _, _, _, _]) G dX4_number_59 (by decide) rfl ?_
        obtain ⟨n, hnn⟩ : ∃ n : Nat, n = ((Xf (5 * x + y)) 0 0).toNat := ⟨_, rfl⟩
        have hx0 : (Xf (5 * x + y)) 0 0 = (n : Int) := by omega
        have hn12 : n ≤ 12 := by omega
        have hp12 := p12 hn12
        have hp0 := Nat.two_pow_pos n
        rw [← hnn] at hfm
        have loop : ∀ (f a : Nat) (acc : Int64) (x8 x9 x10 : Option Value), a ≤ n → n - a < f → acc = (sm (fun a => sm (ruT (prX (Tf x) (Xf (5 * x + y))) (Tf x) (Xf (5 * x + y)) (fun S : Nat => L2 25 (S : Int)) a) n) a) → J 61 M2 L2 [some (.ref (ad 0)), some (.int (iI x)), some (.int (iI y)), some (.int (iI (5 * x + y))), some (.long acc), none, some (.int (iI ((2 ^ a - 1 : Nat) : Int))), some (.int (iI (a : Int))), x8, x9, x10] [] := by
          intro f
          induction f with
          | zero => intro a acc x8 x9 x10 _ h; omega
          | succ f ih =>
            intro a acc x8 x9 x10 ha1 hf hacc
            have hpz := Nat.two_pow_pos a
            refine g_iload (pc := 61) G dX4_number_61 rfl ?_
            refine g_aload_n (pc := 63) G dX4_number_63 rfl ?_
            refine g_getR (pc := 64) G hinX4 oModel rfl 14 (by decide) f50 rfl rfl dX4_number_64 ?_
            refine g_iload_n (pc := 67) G dX4_number_67 rfl ?_
            refine g_iald (pc := 68) G rMany (by omega) dX4_number_68 ?_
            refine g_top (ld ((hA2.2 (5 * x + y) (by omega) (by omega)).1.1.trans (congrArg iI hx0))) ?_
            refine g_icmp_ge (pc := 69) G (by omega) (by omega) 202 dX4_number_69 (by decide) (fun h69 => ?_) (fun h69 => ?_)
            · -- 69 t
              refine g_lload (pc := 202) G dX4_number_202 rfl ?_
              refine g_lret (pc := 204) G dX4_number_204 ?_
              exact ⟨hK2, hA2, Or.inl ⟨⟨⟨qx.1, qx.2, qy.1, qy.2⟩, h33⟩, (fun S : Nat => L2 25 (S : Int)), hru, by unfold ruS; rw [hacc, ← hnn, show a = n by omega]⟩⟩
            · -- 69 f
              have ha : a < n := by omega
              have hpa := Nat.pow_lt_pow_right (a := 2) (by omega) ha
              have after : ∀ (acc : Int64) (x8 x9 x10 : Option Value), a < n → acc = (sm (fun a => sm (ruT (prX (Tf x) (Xf (5 * x + y))) (Tf x) (Xf (5 * x + y)) (fun S : Nat => L2 25 (S : Int)) a) n) a) + sm (ruT (prX (Tf x) (Xf (5 * x + y))) (Tf x) (Xf (5 * x + y)) (fun S : Nat => L2 25 (S : Int)) a) n → J 187 M2 L2 [some (.ref (ad 0)), some (.int (iI x)), some (.int (iI y)), some (.int (iI (5 * x + y))), some (.long acc), none, some (.int (iI ((2 ^ a - 1 : Nat) : Int))), some (.int (iI (a : Int))), x8, x9, x10] [] := by
                intro acc x8 x9 x10 ha hacc
                refine g_iload (pc := 187) G dX4_number_187 rfl ?_
                refine g_iconst (pc := 189) G dX4_number_189 ?_
                refine g_iload (pc := 190) G dX4_number_190 rfl ?_
                refine g_ishl (pc := 192) G dX4_number_192 ?_
                refine g_top (bit_N (x := a) (by omega)) ?_
                refine g_ior (pc := 193) G dX4_number_193 ?_
                refine g_top ((or_I _ _).trans (by rw [pow_or])) ?_
                refine g_istore (pc := 194) (lv' := [_, _, _, _, _, _, _, _, _, _, _]) G dX4_number_194 (by decide) rfl ?_
                refine g_iinc (pc := 196) (lv' := [_, _, _, _, _, _, _, _, _, _, _]) G dX4_number_196 (by decide) rfl rfl ?_
                refine g_goto (pc := 199) G 61 dX4_number_199 (by decide) ?_
                rw [show (a : Int) + 1 = ((a + 1 : Nat) : Int) by omega]
                exact ih (a + 1) _ _ _ _ (by omega) (by omega) (by rw [hacc, sm])
              have loopj : ∀ (g j : Nat) (acc : Int64) (x10 : Option Value), j ≤ n → n - j < g → acc = (sm (fun a => sm (ruT (prX (Tf x) (Xf (5 * x + y))) (Tf x) (Xf (5 * x + y)) (fun S : Nat => L2 25 (S : Int)) a) n) a) + sm (ruT (prX (Tf x) (Xf (5 * x + y))) (Tf x) (Xf (5 * x + y)) (fun S : Nat => L2 25 (S : Int)) a) j → J 94 M2 L2 [some (.ref (ad 0)), some (.int (iI x)), some (.int (iI y)), some (.int (iI (5 * x + y))), some (.long acc), none, some (.int (iI ((2 ^ a - 1 : Nat) : Int))), some (.int (iI (a : Int))), some (.int (iI (aMark (Tf x) ((Xf (5 * x + y)) 1 (a : Int))))), some (.int (iI (j : Int))), x10] [] := by
                intro g
                induction g with
                | zero => intro j acc x10 _ h; omega
                | succ g ihj =>
                  intro j acc x10 hj hg hacc
                  refine g_iload (pc := 94) G dX4_number_94 rfl ?_
                  refine g_aload_n (pc := 96) G dX4_number_96 rfl ?_
                  refine g_getR (pc := 97) G hinX4 oModel rfl 14 (by decide) f50 rfl rfl dX4_number_97 ?_
                  refine g_iload_n (pc := 100) G dX4_number_100 rfl ?_
                  refine g_iald (pc := 101) G rMany (by omega) dX4_number_101 ?_
                  refine g_top (ld ((hA2.2 (5 * x + y) (by omega) (by omega)).1.1.trans (congrArg iI hx0))) ?_
                  refine g_icmp_ge (pc := 102) G (by omega) (by omega) 187 dX4_number_102 (by decide) (fun h102 => ?_) (fun h102 => ?_)
                  · -- 102 t
                    exact after _ _ _ _ ha (by rw [hacc, show j = n by omega])
                  · -- 102 f
                    obtain ⟨m, m1, m2, m3⟩ := hfm j (by omega)
                    --go
                    refine g_iload (pc := 105) G dX4_number_105 rfl ?_
                    refine g_iload (pc := 107) G dX4_number_107 rfl ?_
                    refine g_ishr (pc := 109) G dX4_number_109 ?_
                    refine g_iconst (pc := 110) G dX4_number_110 ?_
                    refine g_iand (pc := 111) G dX4_number_111 ?_
                    refine g_top (bit0 (S := 2 ^ a - 1) (j := j) (by omega) (by omega)) ?_
                    refine g_if_ne (pc := 112) G (by omega) 134 dX4_number_112 (by decide) (fun h112 => ?_) (fun h112 => ?_)
                    · -- 112 t
                      have hnu : ¬ okU (prX (Tf x) (Xf (5 * x + y))) (2 ^ a - 1) j := fun q => h112 (by have := (sb0 (2 ^ a - 1) j).mpr q.1; omega)
                      --go
                      refine g_iconst (pc := 134) G dX4_number_134 ?_
                      refine g_istore (pc := 135) (lv' := [_, _, _, _, _, _, _, _, _, _, _]) G dX4_number_135 (by decide) rfl ?_
                      refine g_iload (pc := 137) G dX4_number_137 rfl ?_
                      refine g_if_eq (pc := 139) G (by omega) 181 dX4_number_139 (by decide) (fun _ => ?_) (fun h => absurd h (by decide))
                      refine g_iinc (pc := 181) (lv' := [_, _, _, _, _, _, _, _, _, _, _]) G dX4_number_181 (by decide) rfl rfl ?_
                      refine g_goto (pc := 184) G 94 dX4_number_184 (by decide) ?_
                      rw [show (j : Int) + 1 = ((j + 1 : Nat) : Int) by omega]
                      exact ihj (j + 1) _ _ (by omega) (by omega) (by
                        rw [hacc, sm]
                        unfold ruT
                        rw [cif_neg (fun q => hnu q.1), Int64.add_zero])
                    · -- 112 f
                      refine g_aload_n (pc := 115) G dX4_number_115 rfl ?_
                      refine g_getR (pc := 116) G hinX4 oModel rfl 27 (by decide) f80 rfl rfl dX4_number_116 ?_
                      refine g_iload (pc := 119) G dX4_number_119 rfl ?_
                      refine g_iald (pc := 121) G rAhead (by omega) dX4_number_121 ?_
                      refine g_top (ld (m2)) ?_
                      refine g_iload (pc := 122) G dX4_number_122 rfl ?_
                      refine g_iconst (pc := 124) G dX4_number_124 ?_
                      refine g_ixor (pc := 125) G dX4_number_125 ?_
                      refine g_iand (pc := 126) G dX4_number_126 ?_
                      refine g_top (mn_I m (2 ^ a - 1)) ?_
                      refine g_if_ne (pc := 127) G (by have := mn_lt (S := 2 ^ a - 1) (show m < 4096 by omega); omega) 134 dX4_number_127 (by decide) (fun h127 => ?_) (fun h127 => ?_)
                      · -- 127 t
                        have hnu : ¬ okU (prX (Tf x) (Xf (5 * x + y))) (2 ^ a - 1) j := fun q => h127 (by have := (mn_0 (S := 2 ^ a - 1) (show m < 4096 by omega)).mpr (fun r hr => q.2 r ((m3 r).mp hr)); omega)
                        --go
                        refine g_iconst (pc := 134) G dX4_number_134 ?_
                        refine g_istore (pc := 135) (lv' := [_, _, _, _, _, _, _, _, _, _, _]) G dX4_number_135 (by decide) rfl ?_
                        refine g_iload (pc := 137) G dX4_number_137 rfl ?_
                        refine g_if_eq (pc := 139) G (by omega) 181 dX4_number_139 (by decide) (fun _ => ?_) (fun h => absurd h (by decide))
                        refine g_iinc (pc := 181) (lv' := [_, _, _, _, _, _, _, _, _, _, _]) G dX4_number_181 (by decide) rfl rfl ?_
                        refine g_goto (pc := 184) G 94 dX4_number_184 (by decide) ?_
                        rw [show (j : Int) + 1 = ((j + 1 : Nat) : Int) by omega]
                        exact ihj (j + 1) _ _ (by omega) (by omega) (by
                          rw [hacc, sm]
                          unfold ruT
                          rw [cif_neg (fun q => hnu q.1), Int64.add_zero])
                      · -- 127 f
                        have hu : okU (prX (Tf x) (Xf (5 * x + y))) (2 ^ a - 1) j := ⟨(sb0 (2 ^ a - 1) j).mp (by omega), fun r hr => (mn_0 (S := 2 ^ a - 1) (show m < 4096 by omega)).mp (by omega) r ((m3 r).mpr hr)⟩
                        --go
                        refine g_iconst (pc := 130) G dX4_number_130 ?_
                        refine g_goto (pc := 131) G 135 dX4_number_131 (by decide) ?_
                        refine g_istore (pc := 135) (lv' := [_, _, _, _, _, _, _, _, _, _, _]) G dX4_number_135 (by decide) rfl ?_
                        refine g_iload (pc := 137) G dX4_number_137 rfl ?_
                        refine g_if_eq (pc := 139) G (by omega) 181 dX4_number_139 (by decide) (fun h => absurd h (by decide)) (fun _ => ?_)
                        refine g_aload_n (pc := 142) G dX4_number_142 rfl ?_
                        refine g_iload_n (pc := 143) G dX4_number_143 rfl ?_
                        refine g_aload_n (pc := 144) G dX4_number_144 rfl ?_
                        refine g_getR (pc := 145) G hinX4 oModel rfl 13 (by decide) f47 rfl rfl dX4_number_145 ?_
                        refine g_bipush (pc := 148) G dX4_number_148 rfl ?_
                        refine g_iload_n (pc := 150) G dX4_number_150 rfl ?_
                        refine g_imul (pc := 151) G dX4_number_151 ?_
                        refine g_iload (pc := 152) G dX4_number_152 rfl ?_
                        refine g_iadd (pc := 154) G dX4_number_154 ?_
                        refine g_iald (pc := 155) G rRow (by omega) dX4_number_155 ?_
                        refine g_top (ld ((hA2.2 (5 * x + y) (by omega) (by omega)).1.2.1 (j : Int) (by omega) (by omega))) ?_
                        refine g_call (pc := 156) (n := 2) (As := [_, _]) G (kX4_mark hD x qx.1 qx.2 ((Xf (5 * x + y)) 1 (j : Int)) M2 L2 (Tf x) (hA2.1 x qx.1 qx.2) (Or.inr (Or.inr (hI.1.2.2.1 (j : Int) (by omega) (by omega)).1))) gX4_number_X4_mark oModel rfl rfl hdX4_mark rfl rfl ⟨Nat.le_of_ble_eq_true rfl, Nat.le_of_ble_eq_true rfl⟩ rfl rfl (Nat.le_of_ble_eq_true rfl) dX4_number_156 ?_
                        rintro _ _ _ ⟨rfl, rfl, rfl⟩
                        refine g_iload (pc := 159) G dX4_number_159 rfl ?_
                        refine g_icmp_ge (pc := 161) G (by have := mark_rg hG (hI.1.2.2.1 (j : Int) (by omega) (by omega)).1; omega) (by have := mark_rg hG (hI.1.2.2.1 (a : Int) (by omega) (by omega)).1; omega) 181 dX4_number_161 (by decide) (fun h161 => ?_) (fun h161 => ?_)
                        · -- 161 t
                          refine g_iinc (pc := 181) (lv' := [_, _, _, _, _, _, _, _, _, _, _]) G dX4_number_181 (by decide) rfl rfl ?_
                          refine g_goto (pc := 184) G 94 dX4_number_184 (by decide) ?_
                          rw [show (j : Int) + 1 = ((j + 1 : Nat) : Int) by omega]
                          exact ihj (j + 1) _ _ (by omega) (by omega) (by
                            rw [hacc, sm]
                            unfold ruT
                            rw [cif_neg (fun q => by have := q.2; omega), Int64.add_zero])
                        · -- 161 f
                          refine g_lload (pc := 164) G dX4_number_164 rfl ?_
                          refine g_aload_n (pc := 166) G dX4_number_166 rfl ?_
                          refine g_getR (pc := 167) G hinX4 oModel rfl 28 (by decide) f83 rfl rfl dX4_number_167 ?_
                          refine g_iload (pc := 170) G dX4_number_170 rfl ?_
                          refine g_iconst (pc := 172) G dX4_number_172 ?_
                          refine g_iload (pc := 173) G dX4_number_173 rfl ?_
                          refine g_ishl (pc := 175) G dX4_number_175 ?_
                          refine g_top (bit_N (x := j) (by omega)) ?_
                          refine g_ior (pc := 176) G dX4_number_176 ?_
                          refine g_top (or_I _ _) ?_
                          refine g_lald (pc := 177) G rWays (by have := rk_lt (a := a) (x := j) hn12 ha (by omega); omega) dX4_number_177 ?_
                          refine g_ladd (pc := 178) G dX4_number_178 ?_
                          refine g_lstore (pc := 179) (lv' := [_, _, _, _, _, _, _, _, _, _, _]) G dX4_number_179 (by decide) rfl ?_
                          refine g_iinc (pc := 181) (lv' := [_, _, _, _, _, _, _, _, _, _, _]) G dX4_number_181 (by decide) rfl rfl ?_
                          refine g_goto (pc := 184) G 94 dX4_number_184 (by decide) ?_
                          rw [show (j : Int) + 1 = ((j + 1 : Nat) : Int) by omega]
                          exact ihj (j + 1) _ _ (by omega) (by omega) (by
                            rw [hacc, sm, Int64.add_assoc]
                            congr 2
                            unfold ruT
                            rw [cif_pos ⟨hu, by omega⟩])
              --go
              refine g_aload_n (pc := 72) G dX4_number_72 rfl ?_
              refine g_iload_n (pc := 73) G dX4_number_73 rfl ?_
              refine g_aload_n (pc := 74) G dX4_number_74 rfl ?_
              refine g_getR (pc := 75) G hinX4 oModel rfl 13 (by decide) f47 rfl rfl dX4_number_75 ?_
              refine g_bipush (pc := 78) G dX4_number_78 rfl ?_
              refine g_iload_n (pc := 80) G dX4_number_80 rfl ?_
              refine g_imul (pc := 81) G dX4_number_81 ?_
              refine g_iload (pc := 82) G dX4_number_82 rfl ?_
              refine g_iadd (pc := 84) G dX4_number_84 ?_
              refine g_iald (pc := 85) G rRow (by omega) dX4_number_85 ?_
              refine g_top (ld ((hA2.2 (5 * x + y) (by omega) (by omega)).1.2.1 (a : Int) (by omega) (by omega))) ?_
              refine g_call (pc := 86) (n := 2) (As := [_, _]) G (kX4_mark hD x qx.1 qx.2 ((Xf (5 * x + y)) 1 (a : Int)) M2 L2 (Tf x) (hA2.1 x qx.1 qx.2) (Or.inr (Or.inr (hI.1.2.2.1 (a : Int) (by omega) (by omega)).1))) gX4_number_X4_mark oModel rfl rfl hdX4_mark rfl rfl ⟨Nat.le_of_ble_eq_true rfl, Nat.le_of_ble_eq_true rfl⟩ rfl rfl (Nat.le_of_ble_eq_true rfl) dX4_number_86 ?_
              rintro _ _ _ ⟨rfl, rfl, rfl⟩
              refine g_istore (pc := 89) (lv' := [_, _, _, _, _, _, _, _, _, _, _]) G dX4_number_89 (by decide) rfl ?_
              refine g_iconst (pc := 91) G dX4_number_91 ?_
              refine g_istore (pc := 92) (lv' := [_, _, _, _, _, _, _, _, _, _, _]) G dX4_number_92 (by decide) rfl ?_
              exact loopj _ 0 _ _ (by omega) (Nat.lt_succ_self _) (by rw [hacc]; exact (Int64.add_zero _).symm)
        exact loop _ 0 0 _ _ _ (by omega) (Nat.lt_succ_self _) rfl
      · -- 33 f
        refine g_ldc2 (pc := 36) (v := -1) G (by decide +kernel) dX4_number_36 ?_
        refine g_lret (pc := 39) G dX4_number_39 ?_
        refine ⟨hK1, hA1, Or.inr ⟨fun w => ?_, rfl⟩⟩
        first
        | exact qx ⟨w.1.1, w.1.2.1⟩
        | exact qy ⟨w.1.2.2.1, w.1.2.2.2⟩
        | (have := w.2; omega)
    · rw [if_neg qy]
      refine g_if_eq (pc := 18) G (by omega) 36 dX4_number_18 (by decide) (fun _ => ?_) (fun h => absurd h (by decide))
      refine g_ldc2 (pc := 36) (v := -1) G (by decide +kernel) dX4_number_36 ?_
      refine g_lret (pc := 39) G dX4_number_39 ?_
      refine ⟨hK1, hA1, Or.inr ⟨fun w => ?_, rfl⟩⟩
      first
      | exact qx ⟨w.1.1, w.1.2.1⟩
      | exact qy ⟨w.1.2.2.1, w.1.2.2.2⟩
      | (have := w.2; omega)
  · rw [if_neg qx]
    refine g_if_eq (pc := 10) G (by omega) 36 dX4_number_10 (by decide) (fun _ => ?_) (fun h => absurd h (by decide))
    refine g_ldc2 (pc := 36) (v := -1) G (by decide +kernel) dX4_number_36 ?_
    refine g_lret (pc := 39) G dX4_number_39 ?_
    refine ⟨hK1, hA1, Or.inr ⟨fun w => ?_, rfl⟩⟩
    first
    | exact qx ⟨w.1.1, w.1.2.1⟩
    | exact qy ⟨w.1.2.2.1, w.1.2.2.2⟩
    | (have := w.2; omega)
