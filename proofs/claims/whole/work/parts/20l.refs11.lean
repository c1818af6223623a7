set_option maxHeartbeats 4000000 in
set_option maxRecDepth 100000 in
theorem kX4_insert {l : Launch} {D : va_G} {cI cZ cJ cT cC : ClassId} {ad : Nat → Nat} {A : Nat → Prop} (hD : ∀ g : Nat → va_E, va_D A (sjW 26 ad g)) (x y z lr : Int) (hx : rng x) (hy : rng y) (hz : rng z) (hlr : rng lr) (M : sjM) (L : sjL) (Tf Xf : Int → aS) (lts : Int → Int → Int → Prop) (hA : rAll Tf Xf M) (hg : gAll Tf Xf lts) : Met l yX4_insert wsX4_insert { frames := 5, cells := 0, slots := 0, locals := 125 } (sjA D cI cZ cJ cT cC 26 ad (kR cI cZ cJ ad) [.ref (ad 0), .int (iI x), .int (iI y), .int (iI z), .int (iI lr)] M L) (sjZ D 26 ad (kR cI cZ cJ ad) A (fun v M' L' => L = L' ∧ rKeep M M' ∧ (((okTS x y ∧ 0 ≤ z ∧ z ≤ (Xf (5 * x + y)) 0 1 ∧ 32 ≤ lr ∧ lr ≤ 126 ∧ Tf x 0 0 < 60) ∧ rAll (updF Tf x (tIns (Tf x) y (aLFP (Xf (5 * x + y)) z) (aRFP (Xf (5 * x + y)) (decide (x = 0)) z) lr)) (updF Xf (5 * x + y) (aEnd (aDo (tIns (Tf x) y (aLFP (Xf (5 * x + y)) z) (aRFP (Xf (5 * x + y)) (decide (x = 0)) z) lr) (decide (x = 0)) (aStart (Xf (5 * x + y))) (Tf x 0 1)))) M' ∧ v = some (.int (iI (Tf x 0 1)))) ∨ (¬ (okTS x y ∧ 0 ≤ z ∧ z ≤ (Xf (5 * x + y)) 0 1 ∧ 32 ≤ lr ∧ lr ≤ 126 ∧ Tf x 0 0 < 60) ∧ rAll Tf Xf M' ∧ v = some (.int (iI (-1))))))) 0 0 A := by
  refine g_met (cc := cX4_insert) (maxL := 10) (ret := (some .int)) (lv := [_, _, _, _, _, _, _, _, _, _]) (by decide) rfl hD kR_loc (List.forall_mem_cons.mpr ⟨rfl, List.forall_mem_cons.mpr ⟨rfl, List.forall_mem_cons.mpr ⟨rfl, List.forall_mem_cons.mpr ⟨rfl, List.forall_mem_cons.mpr ⟨rfl, fun _ h => absurd h List.not_mem_nil⟩⟩⟩⟩⟩) (Nat.le_of_ble_eq_true rfl) rfl ?_
  intro J G
  have f7 : Cond.fieldLink RX4 7 "SharedPageModel" "made" "[I" ∈ wsX4_insert := by decide +kernel
  have f13 : Cond.fieldLink RX4 13 "SharedPageModel" "siteOf" "[I" ∈ wsX4_insert := by decide +kernel
  have f16 : Cond.fieldLink RX4 16 "SharedPageModel" "clockOf" "[I" ∈ wsX4_insert := by decide +kernel
  have f19 : Cond.fieldLink RX4 19 "SharedPageModel" "letterOf" "[I" ∈ wsX4_insert := by decide +kernel
  have f22 : Cond.fieldLink RX4 22 "SharedPageModel" "leftOf" "[I" ∈ wsX4_insert := by decide +kernel
  have f25 : Cond.fieldLink RX4 25 "SharedPageModel" "rightOf" "[I" ∈ wsX4_insert := by decide +kernel
  have f28 : Cond.fieldLink RX4 28 "SharedPageModel" "clocks" "[I" ∈ wsX4_insert := by decide +kernel
  have f47 : Cond.fieldLink RX4 47 "SharedPageModel" "row" "[I" ∈ wsX4_insert := by decide +kernel
  have f50 : Cond.fieldLink RX4 50 "SharedPageModel" "many" "[I" ∈ wsX4_insert := by decide +kernel
  have f87 : Cond.fieldLink RX4 87 "SharedPageModel" "told" "I" ∈ wsX4_insert := by decide +kernel
  have hinX4 : ∀ w ∈ u_ws RX4 TX4 29, w ∈ wsX4_insert := fun w h => List.mem_cons_of_mem _ (List.mem_append_right _ h)
  refine g_aload_n (pc := 0) G dX4_insert_0 rfl ?_
  refine g_iconst (pc := 1) G dX4_insert_1 ?_
  refine g_put (pc := 2) G tyX4 tyX4_ok nmX4 hinX4 oModel rfl 0 (by decide) pModel0 f87 rfl rfl rfl dX4_insert_2 ?_
  refine g_mem (fun M1 L1 hM1 hL1 => ?_)
  obtain rfl : L = L1 := hL1.symm
  have hA1 : rAll Tf Xf M1 := by rw [hM1]; exact rAll_0 hA
  have hK1 : rKeep M M1 := ⟨by rw [hM1, sjU_o (by omega)], by rw [hM1, sjU_s, if_neg (by omega)]⟩
  refine g_aload_n (pc := 5) G dX4_insert_5 rfl ?_
  refine g_iload_n (pc := 6) G dX4_insert_6 rfl ?_
  refine g_call (pc := 7) (n := 1) (As := [_]) G (kX4_isText hD x hx M1 L) gX4_insert_X4_isText oModel rfl rfl hdX4_isText rfl rfl ⟨Nat.le_of_ble_eq_true rfl, Nat.le_of_ble_eq_true rfl⟩ rfl rfl (Nat.le_of_ble_eq_true rfl) dX4_insert_7 ?_
  rintro _ _ _ ⟨rfl, rfl, rfl⟩
  by_cases qx : 0 ≤ x ∧ x < 2
  · rw [if_pos qx]
    refine g_if_eq (pc := 10) G (by omega) 35 dX4_insert_10 (by decide) (fun h => absurd h (by decide)) (fun _ => ?_)
    refine g_aload_n (pc := 13) G dX4_insert_13 rfl ?_
    refine g_iload_n (pc := 14) G dX4_insert_14 rfl ?_
    refine g_call (pc := 15) (n := 1) (As := [_]) G (kX4_isSite hD y hy M1 L) gX4_insert_X4_isSite oModel rfl rfl hdX4_isSite rfl rfl ⟨Nat.le_of_ble_eq_true rfl, Nat.le_of_ble_eq_true rfl⟩ rfl rfl (Nat.le_of_ble_eq_true rfl) dX4_insert_15 ?_
    rintro _ _ _ ⟨rfl, rfl, rfl⟩
    by_cases qy : 0 ≤ y ∧ y < 5
    · rw [if_pos qy]
      refine g_if_eq (pc := 18) G (by omega) 35 dX4_insert_18 (by decide) (fun h => absurd h (by decide)) (fun _ => ?_)
      refine g_iload (pc := 21) G dX4_insert_21 rfl ?_
      refine g_bipush (pc := 23) G dX4_insert_23 rfl ?_
      refine g_icmp_lt (pc := 25) G hlr (by omega) 35 dX4_insert_25 (by decide) (fun h25 => ?_) (fun h25 => ?_)
      · -- 25 t
        refine g_iconst (pc := 35) G dX4_insert_35 ?_
        refine g_iret (pc := 36) G dX4_insert_36 ?_
        refine ⟨rfl, hK1, Or.inr ⟨?_, hA1, rfl⟩⟩
        rintro ⟨w1, w2, w3, w4, w5, w6⟩
        first
        | exact qx ⟨w1.1, w1.2.1⟩
        | exact qy ⟨w1.2.2.1, w1.2.2.2⟩
        | omega
      · -- 25 f
        refine g_iload (pc := 28) G dX4_insert_28 rfl ?_
        refine g_bipush (pc := 30) G dX4_insert_30 rfl ?_
        refine g_icmp_le (pc := 32) G hlr (by omega) 37 dX4_insert_32 (by decide) (fun h32 => ?_) (fun h32 => ?_)
        · -- 32 t
          have hlr0 : 32 ≤ lr := by omega
          have hlr1 : lr ≤ 126 := h32
          --go
          refine g_iconst (pc := 37) G dX4_insert_37 ?_
          refine g_iload_n (pc := 38) G dX4_insert_38 rfl ?_
          refine g_imul (pc := 39) G dX4_insert_39 ?_
          refine g_iload_n (pc := 40) G dX4_insert_40 rfl ?_
          refine g_iadd (pc := 41) G dX4_insert_41 ?_
          refine g_istore (pc := 42) (lv' := [_, _, _, _, _, _, _, _, _, _]) G dX4_insert_42 (by decide) rfl ?_
          refine g_iload_n (pc := 44) G dX4_insert_44 rfl ?_
          refine g_if_lt (pc := 45) G hz 69 dX4_insert_45 (by decide) (fun h45 => ?_) (fun h45 => ?_)
          · -- 45 t
            refine g_iconst (pc := 69) G dX4_insert_69 ?_
            refine g_iret (pc := 70) G dX4_insert_70 ?_
            refine ⟨rfl, hK1, Or.inr ⟨?_, hA1, rfl⟩⟩
            rintro ⟨w1, w2, w3, w4, w5, w6⟩
            first
            | exact qx ⟨w1.1, w1.2.1⟩
            | exact qy ⟨w1.2.2.1, w1.2.2.2⟩
            | omega
          · -- 45 f
            have hz0 : 0 ≤ z := by omega
            --go
            refine g_iload_n (pc := 48) G dX4_insert_48 rfl ?_
            refine g_aload_n (pc := 49) G dX4_insert_49 rfl ?_
            refine g_iload (pc := 50) G dX4_insert_50 rfl ?_
            refine g_call (pc := 52) (n := 1) (As := [_]) G (kX4_allSeen hD (5 * x + y) (by omega) (by omega) M1 L (Tf x) (Xf (5 * x + y)) (lts x) (hA1.2 (5 * x + y) (by omega) (by omega)).1 (hg.2 x y qx.1 qx.2 qy.1 qy.2).1) gX4_insert_X4_allSeen oModel rfl rfl hdX4_allSeen rfl rfl ⟨Nat.le_of_ble_eq_true rfl, Nat.le_of_ble_eq_true rfl⟩ rfl rfl (Nat.le_of_ble_eq_true rfl) dX4_insert_52 ?_
            rintro _ _ _ ⟨rfl, rfl, rfl⟩
            have hs8 := seen_len (hg.2 x y qx.1 qx.2 qy.1 qy.2).1
            have hs7 := sc_b (hg.2 x y qx.1 qx.2 qy.1 qy.2).1 (hg.2 x y qx.1 qx.2 qy.1 qy.2).1.1.1 (Int.le_refl _)
            have h600 := (hg.1 x qx.1 qx.2).1.1.2.1
            have h601 := (hg.1 x qx.1 qx.2).1.1.1
            refine g_icmp_gt (pc := 55) G hz (by omega) 69 dX4_insert_55 (by decide) (fun h55 => ?_) (fun h55 => ?_)
            · -- 55 t
              refine g_iconst (pc := 69) G dX4_insert_69 ?_
              refine g_iret (pc := 70) G dX4_insert_70 ?_
              refine ⟨rfl, hK1, Or.inr ⟨?_, hA1, rfl⟩⟩
              rintro ⟨w1, w2, w3, w4, w5, w6⟩
              first
              | exact qx ⟨w1.1, w1.2.1⟩
              | exact qy ⟨w1.2.2.1, w1.2.2.2⟩
              | omega
            · -- 55 f
              refine g_aload_n (pc := 58) G dX4_insert_58 rfl ?_
              refine g_getR (pc := 59) G hinX4 oModel rfl 1 (by decide) f7 rfl rfl dX4_insert_59 ?_
              refine g_iload_n (pc := 62) G dX4_insert_62 rfl ?_
              refine g_iald (pc := 63) G rMade (by omega) dX4_insert_63 ?_
              refine g_top (ld ((hA1.1 x qx.1 qx.2).1.1)) ?_
              refine g_bipush (pc := 64) G dX4_insert_64 rfl ?_
              refine g_icmp_ne (pc := 66) G (by omega) (by omega) 71 dX4_insert_66 (by decide) (fun h66 => ?_) (fun h66 => ?_)
              · -- 66 t
                obtain ⟨hG, hO⟩ := hg.1 x qx.1 qx.2
                obtain ⟨hI, hown, hset0⟩ := hg.2 x y qx.1 qx.2 qy.1 qy.2
                have hcp := hI.1
                have hl0 := hcp.1
                have hl1 := hcp.2.1
                have hs9 := seen_len hI
                have hz1 : z ≤ (Xf (5 * x + y)) 0 1 := by omega
                have hc0 := hG.1.1
                have h60a := hG.1.2.1
                have h60 : Tf x 0 0 < 60 := by omega
                have hm0 := hG.1.2.2.1
                have hmm := hG.2.1
                obtain ⟨g1, g2, g3, lt', g4, g5⟩ := ins_all (lr := lr) hG hO hI hown qy.1 qy.2 h60 hz0 hz1
                obtain ⟨e1, d1, d2, hset, hown', hhe, hkm⟩ := own_all hG g1 g4 g2 g5 hI hown hset0 (ti_01 _ _ _ _ _) (fun _ => by rw [ti_8, if_pos rfl]) g3
                obtain ⟨a, b, n1, n2, n3, n4, n5, n6, n7⟩ := ins_nb hI hz0 hz1 (decide (x = 0))
                obtain ⟨nx, hnx⟩ : ∃ nx : Int, nx = if b < (Xf (5 * x + y)) 0 0 then b else -1 := ⟨_, rfl⟩
                have hnxb : -1 ≤ nx ∧ nx < (Xf (5 * x + y)) 0 0 := by rw [hnx]; split <;> omega
                have hnx2 : ¬ nx = -1 → nx = b ∧ b < (Xf (5 * x + y)) 0 0 := by
                  intro h
                  rw [hnx] at h ⊢
                  split at h
                  · rename_i h9; rw [if_pos h9]; exact ⟨rfl, h9⟩
                  · omega
                have hnx3 : nx = -1 → (aRFP (Xf (5 * x + y)) (decide (x = 0)) z) = 60 := by
                  intro h
                  rw [hnx] at h
                  split at h
                  · omega
                  · rcases n7 with w | w
                    · exact w.2
                    · omega
                have hnx4 : b < (Xf (5 * x + y)) 0 0 → (aRFP (Xf (5 * x + y)) (decide (x = 0)) z) = (Xf (5 * x + y)) 1 b := by
                  intro h
                  rcases n7 with w | w
                  · omega
                  · exact w.2
                have ha2 : 0 ≤ a → (aLFP (Xf (5 * x + y)) z) = (Xf (5 * x + y)) 1 a := by
                  intro h
                  rcases n6 with w | w
                  · omega
                  · exact w.2
                have ha3 : a < 0 → (aLFP (Xf (5 * x + y)) z) = -1 := by
                  intro h
                  rcases n6 with w | w
                  · exact w.2
                  · omega
                have hat0 : z = 0 → a = -1 := by
                  intro h
                  rcases n6 with w | ⟨w0, w⟩
                  · exact w.1
                  · have h9 := (hcp.2.2.1 a w0 (by omega)).1.1
                    rw [← w] at h9
                    unfold aLFP at h9
                    rw [if_pos (by omega)] at h9
                    omega
                have hat1 : ¬ z = 0 → aSP (Xf (5 * x + y)) (z - 1) = a := by
                  intro h
                  have hlf : (aLFP (Xf (5 * x + y)) z) = aSeenAt (Xf (5 * x + y)) (z - 1) := by unfold aLFP; rw [if_neg (by omega)]
                  rcases n6 with w | ⟨w0, w⟩
                  · obtain ⟨p, p0, p1, p2, p3, p4⟩ := seenAt_in hI (i := z - 1) (by omega) (by omega)
                    have h9 := (hcp.2.2.1 p p0 p1).1.1
                    rw [← p2, ← hlf, w.2] at h9
                    omega
                  · have h9 := hcp.2.2.1 a w0 (by omega)
                    unfold aSP
                    rw [← hlf, w, if_neg (by have := h9.1.2.2; omega), h9.2]
                have hnw : x = 0 → aSP (Xf (5 * x + y)) z = nx := by
                  intro h
                  have hrf : (aRFP (Xf (5 * x + y)) (decide (x = 0)) z) = aSeenAt (Xf (5 * x + y)) z := by unfold aRFP; rw [if_pos (by simp [h])]
                  unfold aSP
                  rw [← hrf, hnx]
                  rcases n7 with ⟨w0, w⟩ | ⟨w0, w⟩
                  · rw [w, if_pos rfl, if_neg (by omega)]
                  · have h9 := hcp.2.2.1 b (by omega) w0
                    rw [w, if_neg (by have := h9.1.2.2; omega), if_pos w0, h9.2]
                have hny1 : ¬ x = 0 → a + 1 < (Xf (5 * x + y)) 0 0 → a + 1 = nx := by
                  intro h h1
                  have h4 := n4 (by simp [h])
                  rw [hnx, if_pos (by omega), h4]
                have hny2 : ¬ x = 0 → (Xf (5 * x + y)) 0 0 ≤ a + 1 → -1 = nx := by
                  intro h h1
                  have h4 := n4 (by simp [h])
                  rw [hnx, if_neg (by omega)]
                have k277 : J 277 (sjU (sjU (sjU (sjU (sjU (sjU M1 1 x (iI (Tf x 0 0 + 1))) 2 (60 * x + Tf x 0 0) (iI y)) 3 (60 * x + Tf x 0 0) (iI (Tf x 9 y))) 7 (5 * x + y) (iI (Tf x 9 y + 1))) 4 (60 * x + Tf x 0 0) (iI lr)) 5 (60 * x + Tf x 0 0) (iI (aLFP (Xf (5 * x + y)) z))) L [some (.ref (ad 0)), some (.int (iI x)), some (.int (iI y)), some (.int (iI z)), some (.int (iI lr)), some (.int (iI (5 * x + y))), some (.int (iI a)), some (.int (iI nx)), some (.int (iI (Tf x 0 0))), none] [.int (iI (aRFP (Xf (5 * x + y)) (decide (x = 0)) z)), .int (iI (60 * x + Tf x 0 0)), .ref (ad 6)] := by
                  refine g_iast (pc := 277) G rRight (by omega) dX4_insert_277 ?_
                  refine g_mem (fun M8 L8 hM8 hL8 => ?_)
                  obtain rfl : L = L8 := hL8.symm
                  obtain ⟨hT8, ho8⟩ := chr_rT (hA1.1 x qx.1 qx.2) hc0 h60 qy.1 qy.2 hM8
                  have e01 : (aChr (Tf x) y (aLFP (Xf (5 * x + y)) z) (aRFP (Xf (5 * x + y)) (decide (x = 0)) z) lr) 0 1 = Tf x 0 1 := by simp [aChr, aUp]
                  have hk81 : ∀ k, k = 0 ∨ 13 ≤ k → M8 k = M1 k := ho8.1
                  clear hM8
                  refine g_aload_n (pc := 278) G dX4_insert_278 rfl ?_
                  refine g_iload_n (pc := 279) G dX4_insert_279 rfl ?_
                  refine g_iload_n (pc := 280) G dX4_insert_280 rfl ?_
                  refine g_iload (pc := 281) G dX4_insert_281 rfl ?_
                  refine g_iconst (pc := 283) G dX4_insert_283 ?_
                  refine g_call (pc := 284) (n := 4) (As := [_, _, _, _]) G (kX4_message hD x qx.1 qx.2 y (Tf x 0 0) 0 (Or.inl rfl) M8 L (aChr (Tf x) y (aLFP (Xf (5 * x + y)) z) (aRFP (Xf (5 * x + y)) (decide (x = 0)) z) lr) hT8 (by rw [e01]; omega) (by rw [e01]; omega)) gX4_insert_X4_message oModel rfl rfl hdX4_message rfl rfl ⟨Nat.le_of_ble_eq_true rfl, Nat.le_of_ble_eq_true rfl⟩ rfl rfl (Nat.le_of_ble_eq_true rfl) dX4_insert_284 ?_
                  rintro _ M9 _ ⟨rfl, hT9, ho9, rfl⟩
                  rw [e01]
                  have hA9 : rAll (updF Tf x (tIns (Tf x) y (aLFP (Xf (5 * x + y)) z) (aRFP (Xf (5 * x + y)) (decide (x = 0)) z) lr)) Xf M9 := rAll_tx hA1 (onTx_tr ho8 ho9) hT9
                  have hk91 : rKeep M1 M9 := ⟨by rw [ho9.1 19 (by omega), ho8.1 19 (by omega)], by rw [ho9.1 0 (by omega), ho8.1 0 (by omega)]⟩
                  refine g_istore (pc := 287) (lv' := [_, _, _, _, _, _, _, _, _, _]) G dX4_insert_287 (by decide) rfl ?_
                  refine g_aload_n (pc := 289) G dX4_insert_289 rfl ?_
                  refine g_call (pc := 290) (n := 0) (As := []) G (kX4_begins hD M9 L) gX4_insert_X4_begins oModel rfl rfl hdX4_begins rfl rfl ⟨Nat.le_of_ble_eq_true rfl, Nat.le_of_ble_eq_true rfl⟩ rfl rfl (Nat.le_of_ble_eq_true rfl) dX4_insert_290 ?_
                  rintro _ M10 _ ⟨rfl, rfl, hb10⟩
                  obtain ⟨hA10, hX10, hK10, hl1, hl2⟩ := call_begin (i := 5 * x + y) hA9 hb10 (by omega) (by omega)
                  have hTn : rT (tIns (Tf x) y (aLFP (Xf (5 * x + y)) z) (aRFP (Xf (5 * x + y)) (decide (x = 0)) z) lr) M10 x := by have h9 := hA10.1 x qx.1 qx.2; rw [updF_i] at h9; exact h9
                  refine g_aload_n (pc := 293) G dX4_insert_293 rfl ?_
                  refine g_iload (pc := 294) G dX4_insert_294 rfl ?_
                  refine g_iload_n (pc := 296) G dX4_insert_296 rfl ?_
                  refine g_iload (pc := 297) G dX4_insert_297 rfl ?_
                  refine g_call (pc := 299) (n := 3) (As := [_, _, _]) G (kX4_hears hD (5 * x + y) (by omega) (by omega) x qx.1 qx.2 (Tf x 0 1) M10 L (tIns (Tf x) y (aLFP (Xf (5 * x + y)) z) (aRFP (Xf (5 * x + y)) (decide (x = 0)) z) lr) (aStart (Xf (5 * x + y))) lt' hX10 (start_inv (e1 _ _ hI g5)) hTn g1 g4 hkm) gX4_insert_X4_hears oModel rfl rfl hdX4_hears rfl rfl ⟨Nat.le_of_ble_eq_true rfl, Nat.le_of_ble_eq_true rfl⟩ rfl rfl (Nat.le_of_ble_eq_true rfl) dX4_insert_299 ?_
                  rintro _ M11 _ ⟨rfl, ho11, hX11, hlk, rfl⟩
                  have h04 := hear_04 (T := (tIns (Tf x) y (aLFP (Xf (5 * x + y)) z) (aRFP (Xf (5 * x + y)) (decide (x = 0)) z) lr)) (w := (decide (x = 0))) (X := aStart (Xf (5 * x + y))) (k := Tf x 0 1)
                  have h06 := hear_06 (k := Tf x 0 1) g1.1 (gO_o g1.1.2.2.2.2.1 g4) (start_inv (e1 _ _ hI g5))
                  rw [hhe] at hX11 hlk h04 h06
                  obtain ⟨h5, h6⟩ := lk_start hl1 hl2 hlk
                  refine g_pop (pc := 302) G dX4_insert_302 rfl ?_
                  refine g_aload_n (pc := 303) G dX4_insert_303 rfl ?_
                  refine g_iload (pc := 304) G dX4_insert_304 rfl ?_
                  refine g_call (pc := 306) (n := 1) (As := [_]) G (kX4_ends hD (5 * x + y) (by omega) (by omega) M11 L) gX4_insert_X4_ends oModel rfl rfl hdX4_ends rfl rfl ⟨Nat.le_of_ble_eq_true rfl, Nat.le_of_ble_eq_true rfl⟩ rfl rfl (Nat.le_of_ble_eq_true rfl) dX4_insert_306 ?_
                  rintro _ M12 _ ⟨rfl, rfl, he12⟩
                  refine g_iload (pc := 309) G dX4_insert_309 rfl ?_
                  refine g_iret (pc := 311) G dX4_insert_311 ?_
                  obtain ⟨hA12, hK12⟩ := call_end hA10 ho11 (by omega) (by omega) hX11 (h04.trans (start_05 _).2.2) h5 h6 h06 (fun j h0 h1 => gAll_60 hg h0 h1) he12
                  exact ⟨rfl, ⟨hK12.1.trans (hK10.1.trans (hk91.1.trans hK1.1)), hK12.2.trans (hK10.2.trans (hk91.2.trans hK1.2))⟩, Or.inl ⟨⟨⟨qx.1, qx.2, qy.1, qy.2⟩, hz0, hz1, hlr0, hlr1, h60⟩, hA12, rfl⟩⟩
                have k241 : J 241 (sjU (sjU (sjU (sjU (sjU M1 1 x (iI (Tf x 0 0 + 1))) 2 (60 * x + Tf x 0 0) (iI y)) 3 (60 * x + Tf x 0 0) (iI (Tf x 9 y))) 7 (5 * x + y) (iI (Tf x 9 y + 1))) 4 (60 * x + Tf x 0 0) (iI lr)) L [some (.ref (ad 0)), some (.int (iI x)), some (.int (iI y)), some (.int (iI z)), some (.int (iI lr)), some (.int (iI (5 * x + y))), some (.int (iI a)), some (.int (iI nx)), some (.int (iI (Tf x 0 0))), none] [.int (iI (aLFP (Xf (5 * x + y)) z)), .int (iI (60 * x + Tf x 0 0)), .ref (ad 5)] := by
                  refine g_iast (pc := 241) G rLeft (by omega) dX4_insert_241 ?_
                  refine g_aload_n (pc := 242) G dX4_insert_242 rfl ?_
                  refine g_getR (pc := 243) G hinX4 oModel rfl 6 (by decide) f25 rfl rfl dX4_insert_243 ?_
                  refine g_bipush (pc := 246) G dX4_insert_246 rfl ?_
                  refine g_iload_n (pc := 248) G dX4_insert_248 rfl ?_
                  refine g_imul (pc := 249) G dX4_insert_249 ?_
                  refine g_iload (pc := 250) G dX4_insert_250 rfl ?_
                  refine g_iadd (pc := 252) G dX4_insert_252 ?_
                  refine g_iload (pc := 253) G dX4_insert_253 rfl ?_
                  refine g_iconst (pc := 255) G dX4_insert_255 ?_
                  refine g_icmp_ne (pc := 256) G (by omega) (by omega) 264 dX4_insert_256 (by decide) (fun h256 => ?_) (fun h256 => ?_)
                  · -- 256 t
                    have hnb : nx = b ∧ b < (Xf (5 * x + y)) 0 0 := hnx2 h256
                    --go
                    refine g_aload_n (pc := 264) G dX4_insert_264 rfl ?_
                    refine g_getR (pc := 265) G hinX4 oModel rfl 13 (by decide) f47 rfl rfl dX4_insert_265 ?_
                    refine g_bipush (pc := 268) G dX4_insert_268 rfl ?_
                    refine g_iload (pc := 270) G dX4_insert_270 rfl ?_
                    refine g_imul (pc := 272) G dX4_insert_272 ?_
                    refine g_iload (pc := 273) G dX4_insert_273 rfl ?_
                    refine g_iadd (pc := 275) G dX4_insert_275 ?_
                    refine g_iald (pc := 276) G rRow (by omega) dX4_insert_276 ?_
                    refine g_top (ld (show (sjU (sjU (sjU (sjU (sjU (sjU M1 1 x (iI (Tf x 0 0 + 1))) 2 (60 * x + Tf x 0 0) (iI y)) 3 (60 * x + Tf x 0 0) (iI (Tf x 9 y))) 7 (5 * x + y) (iI (Tf x 9 y + 1))) 4 (60 * x + Tf x 0 0) (iI lr)) 5 (60 * x + Tf x 0 0) (iI (aLFP (Xf (5 * x + y)) z))) 13 (60 * (5 * x + y) + nx) = iI ((Xf (5 * x + y)) 1 nx) by rw [sjU_o (by omega), sjU_o (by omega), sjU_o (by omega), sjU_o (by omega), sjU_o (by omega), sjU_o (by omega)]; exact (hA1.2 _ (by omega) (by omega)).1.2.1 nx (by omega) (by omega))) ?_
                    first
                    | (refine g_top (show iI 60 = iI (aRFP (Xf (5 * x + y)) (decide (x = 0)) z) by rw [hre]) ?_
                       exact k277)
                    | (refine g_top (show iI ((Xf (5 * x + y)) 1 nx) = iI (aRFP (Xf (5 * x + y)) (decide (x = 0)) z) by rw [hnx4 hnb.2, hnb.1]) ?_
                       exact k277)
                  · -- 256 f
                    have hre : (aRFP (Xf (5 * x + y)) (decide (x = 0)) z) = 60 := hnx3 h256
                    --go
                    refine g_bipush (pc := 259) G dX4_insert_259 rfl ?_
                    refine g_goto (pc := 261) G 277 dX4_insert_261 (by decide) ?_
                    first
                    | (refine g_top (show iI 60 = iI (aRFP (Xf (5 * x + y)) (decide (x = 0)) z) by rw [hre]) ?_
                       exact k277)
                    | (refine g_top (show iI ((Xf (5 * x + y)) 1 nx) = iI (aRFP (Xf (5 * x + y)) (decide (x = 0)) z) by rw [hnx4 hnb.2, hnb.1]) ?_
                       exact k277)
                have k126 : J 126 M1 L [some (.ref (ad 0)), some (.int (iI x)), some (.int (iI y)), some (.int (iI z)), some (.int (iI lr)), some (.int (iI (5 * x + y))), some (.int (iI a)), none, none, none] [.int (iI nx)] := by
                  refine g_istore (pc := 126) (lv' := [_, _, _, _, _, _, _, _, _, _]) G dX4_insert_126 (by decide) rfl ?_
                  refine g_aload_n (pc := 128) G dX4_insert_128 rfl ?_
                  refine g_getR (pc := 129) G hinX4 oModel rfl 1 (by decide) f7 rfl rfl dX4_insert_129 ?_
                  refine g_iload_n (pc := 132) G dX4_insert_132 rfl ?_
                  refine g_iald (pc := 133) G rMade (by omega) dX4_insert_133 ?_
                  refine g_top (ld ((hA1.1 x qx.1 qx.2).1.1)) ?_
                  refine g_istore (pc := 134) (lv' := [_, _, _, _, _, _, _, _, _, _]) G dX4_insert_134 (by decide) rfl ?_
                  refine g_aload_n (pc := 136) G dX4_insert_136 rfl ?_
                  refine g_getR (pc := 137) G hinX4 oModel rfl 1 (by decide) f7 rfl rfl dX4_insert_137 ?_
                  refine g_iload_n (pc := 140) G dX4_insert_140 rfl ?_
                  refine g_iload (pc := 141) G dX4_insert_141 rfl ?_
                  refine g_iconst (pc := 143) G dX4_insert_143 ?_
                  refine g_iadd (pc := 144) G dX4_insert_144 ?_
                  refine g_iast (pc := 145) G rMade (by omega) dX4_insert_145 ?_
                  refine g_aload_n (pc := 146) G dX4_insert_146 rfl ?_
                  refine g_getR (pc := 147) G hinX4 oModel rfl 2 (by decide) f13 rfl rfl dX4_insert_147 ?_
                  refine g_bipush (pc := 150) G dX4_insert_150 rfl ?_
                  refine g_iload_n (pc := 152) G dX4_insert_152 rfl ?_
                  refine g_imul (pc := 153) G dX4_insert_153 ?_
                  refine g_iload (pc := 154) G dX4_insert_154 rfl ?_
                  refine g_iadd (pc := 156) G dX4_insert_156 ?_
                  refine g_iload_n (pc := 157) G dX4_insert_157 rfl ?_
                  refine g_iast (pc := 158) G rSite (by omega) dX4_insert_158 ?_
                  refine g_aload_n (pc := 159) G dX4_insert_159 rfl ?_
                  refine g_getR (pc := 160) G hinX4 oModel rfl 3 (by decide) f16 rfl rfl dX4_insert_160 ?_
                  refine g_bipush (pc := 163) G dX4_insert_163 rfl ?_
                  refine g_iload_n (pc := 165) G dX4_insert_165 rfl ?_
                  refine g_imul (pc := 166) G dX4_insert_166 ?_
                  refine g_iload (pc := 167) G dX4_insert_167 rfl ?_
                  refine g_iadd (pc := 169) G dX4_insert_169 ?_
                  refine g_aload_n (pc := 170) G dX4_insert_170 rfl ?_
                  refine g_getR (pc := 171) G hinX4 oModel rfl 7 (by decide) f28 rfl rfl dX4_insert_171 ?_
                  refine g_iload (pc := 174) G dX4_insert_174 rfl ?_
                  refine g_iald (pc := 176) G rClocks (by omega) dX4_insert_176 ?_
                  refine g_top (ld (show (sjU (sjU M1 1 x (iI (Tf x 0 0 + 1))) 2 (60 * x + Tf x 0 0) (iI y)) 7 (5 * x + y) = iI (Tf x 9 y) by rw [sjU_o (by omega), sjU_o (by omega)]; exact (hA1.1 x qx.1 qx.2).2.2.1 y qy.1 qy.2)) ?_
                  refine g_iast (pc := 177) G rClock (by omega) dX4_insert_177 ?_
                  refine g_aload_n (pc := 178) G dX4_insert_178 rfl ?_
                  refine g_getR (pc := 179) G hinX4 oModel rfl 7 (by decide) f28 rfl rfl dX4_insert_179 ?_
                  refine g_iload (pc := 182) G dX4_insert_182 rfl ?_
                  refine g_aload_n (pc := 184) G dX4_insert_184 rfl ?_
                  refine g_getR (pc := 185) G hinX4 oModel rfl 7 (by decide) f28 rfl rfl dX4_insert_185 ?_
                  refine g_iload (pc := 188) G dX4_insert_188 rfl ?_
                  refine g_iald (pc := 190) G rClocks (by omega) dX4_insert_190 ?_
                  refine g_top (ld (show (sjU (sjU (sjU M1 1 x (iI (Tf x 0 0 + 1))) 2 (60 * x + Tf x 0 0) (iI y)) 3 (60 * x + Tf x 0 0) (iI (Tf x 9 y))) 7 (5 * x + y) = iI (Tf x 9 y) by rw [sjU_o (by omega), sjU_o (by omega), sjU_o (by omega)]; exact (hA1.1 x qx.1 qx.2).2.2.1 y qy.1 qy.2)) ?_
                  refine g_iconst (pc := 191) G dX4_insert_191 ?_
                  refine g_iadd (pc := 192) G dX4_insert_192 ?_
                  refine g_iast (pc := 193) G rClocks (by omega) dX4_insert_193 ?_
                  refine g_aload_n (pc := 194) G dX4_insert_194 rfl ?_
                  refine g_getR (pc := 195) G hinX4 oModel rfl 4 (by decide) f19 rfl rfl dX4_insert_195 ?_
                  refine g_bipush (pc := 198) G dX4_insert_198 rfl ?_
                  refine g_iload_n (pc := 200) G dX4_insert_200 rfl ?_
                  refine g_imul (pc := 201) G dX4_insert_201 ?_
                  refine g_iload (pc := 202) G dX4_insert_202 rfl ?_
                  refine g_iadd (pc := 204) G dX4_insert_204 ?_
                  refine g_iload (pc := 205) G dX4_insert_205 rfl ?_
                  refine g_iast (pc := 207) G rLetter (by omega) dX4_insert_207 ?_
                  refine g_aload_n (pc := 208) G dX4_insert_208 rfl ?_
                  refine g_getR (pc := 209) G hinX4 oModel rfl 5 (by decide) f22 rfl rfl dX4_insert_209 ?_
                  refine g_bipush (pc := 212) G dX4_insert_212 rfl ?_
                  refine g_iload_n (pc := 214) G dX4_insert_214 rfl ?_
                  refine g_imul (pc := 215) G dX4_insert_215 ?_
                  refine g_iload (pc := 216) G dX4_insert_216 rfl ?_
                  refine g_iadd (pc := 218) G dX4_insert_218 ?_
                  refine g_iload (pc := 219) G dX4_insert_219 rfl ?_
                  refine g_if_ge (pc := 221) G (by omega) 228 dX4_insert_221 (by decide) (fun h221 => ?_) (fun h221 => ?_)
                  · -- 221 t
                    have hla : (aLFP (Xf (5 * x + y)) z) = (Xf (5 * x + y)) 1 a := ha2 h221
                    --go
                    refine g_aload_n (pc := 228) G dX4_insert_228 rfl ?_
                    refine g_getR (pc := 229) G hinX4 oModel rfl 13 (by decide) f47 rfl rfl dX4_insert_229 ?_
                    refine g_bipush (pc := 232) G dX4_insert_232 rfl ?_
                    refine g_iload (pc := 234) G dX4_insert_234 rfl ?_
                    refine g_imul (pc := 236) G dX4_insert_236 ?_
                    refine g_iload (pc := 237) G dX4_insert_237 rfl ?_
                    refine g_iadd (pc := 239) G dX4_insert_239 ?_
                    refine g_iald (pc := 240) G rRow (by omega) dX4_insert_240 ?_
                    refine g_top (ld (show (sjU (sjU (sjU (sjU (sjU M1 1 x (iI (Tf x 0 0 + 1))) 2 (60 * x + Tf x 0 0) (iI y)) 3 (60 * x + Tf x 0 0) (iI (Tf x 9 y))) 7 (5 * x + y) (iI (Tf x 9 y + 1))) 4 (60 * x + Tf x 0 0) (iI lr)) 13 (60 * (5 * x + y) + a) = iI ((Xf (5 * x + y)) 1 a) by rw [sjU_o (by omega), sjU_o (by omega), sjU_o (by omega), sjU_o (by omega), sjU_o (by omega)]; exact (hA1.2 _ (by omega) (by omega)).1.2.1 a (by omega) (by omega))) ?_
                    first
                    | (refine g_top (show iI (-1) = iI (aLFP (Xf (5 * x + y)) z) by rw [hla]) ?_
                       exact k241)
                    | (refine g_top (show iI ((Xf (5 * x + y)) 1 a) = iI (aLFP (Xf (5 * x + y)) z) by rw [hla]) ?_
                       exact k241)
                  · -- 221 f
                    have hla : (aLFP (Xf (5 * x + y)) z) = -1 := ha3 h221
                    --go
                    refine g_iconst (pc := 224) G dX4_insert_224 ?_
                    refine g_goto (pc := 225) G 241 dX4_insert_225 (by decide) ?_
                    first
                    | (refine g_top (show iI (-1) = iI (aLFP (Xf (5 * x + y)) z) by rw [hla]) ?_
                       exact k241)
                    | (refine g_top (show iI ((Xf (5 * x + y)) 1 a) = iI (aLFP (Xf (5 * x + y)) z) by rw [hla]) ?_
                       exact k241)
                have k88 : J 88 M1 L [some (.ref (ad 0)), some (.int (iI x)), some (.int (iI y)), some (.int (iI z)), some (.int (iI lr)), some (.int (iI (5 * x + y))), none, none, none, none] [.int (iI a)] := by
                  refine g_istore (pc := 88) (lv' := [_, _, _, _, _, _, _, _, _, _]) G dX4_insert_88 (by decide) rfl ?_
                  refine g_iload_n (pc := 90) G dX4_insert_90 rfl ?_
                  refine g_if_ne (pc := 91) G hx 104 dX4_insert_91 (by decide) (fun h91 => ?_) (fun h91 => ?_)
                  · -- 91 t
                    refine g_iload (pc := 104) G dX4_insert_104 rfl ?_
                    refine g_iconst (pc := 106) G dX4_insert_106 ?_
                    refine g_iadd (pc := 107) G dX4_insert_107 ?_
                    refine g_aload_n (pc := 108) G dX4_insert_108 rfl ?_
                    refine g_getR (pc := 109) G hinX4 oModel rfl 14 (by decide) f50 rfl rfl dX4_insert_109 ?_
                    refine g_iload (pc := 112) G dX4_insert_112 rfl ?_
                    refine g_iald (pc := 114) G rMany (by omega) dX4_insert_114 ?_
                    refine g_top (ld ((hA1.2 (5 * x + y) (by omega) (by omega)).1.1)) ?_
                    refine g_icmp_ge (pc := 115) G (by omega) (by omega) 125 dX4_insert_115 (by decide) (fun h115 => ?_) (fun h115 => ?_)
                    · -- 115 t
                      refine g_iconst (pc := 125) G dX4_insert_125 ?_
                      first
                      | exact k126
                      | (refine g_top (show iI (a + 1) = iI nx by rw [hny1 h91 h115]) ?_
                         exact k126)
                      | (refine g_top (show iI (-1) = iI nx by rw [hny2 h91 h115]) ?_
                         exact k126)
                    · -- 115 f
                      refine g_iload (pc := 118) G dX4_insert_118 rfl ?_
                      refine g_iconst (pc := 120) G dX4_insert_120 ?_
                      refine g_iadd (pc := 121) G dX4_insert_121 ?_
                      refine g_goto (pc := 122) G 126 dX4_insert_122 (by decide) ?_
                      first
                      | exact k126
                      | (refine g_top (show iI (a + 1) = iI nx by rw [hny1 h91 h115]) ?_
                         exact k126)
                      | (refine g_top (show iI (-1) = iI nx by rw [hny2 h91 h115]) ?_
                         exact k126)
                  · -- 91 f
                    refine g_aload_n (pc := 94) G dX4_insert_94 rfl ?_
                    refine g_iload (pc := 95) G dX4_insert_95 rfl ?_
                    refine g_iload_n (pc := 97) G dX4_insert_97 rfl ?_
                    refine g_call (pc := 98) (n := 2) (As := [_, _]) G (kX4_seen hD (5 * x + y) (by omega) (by omega) z hz hz0 M1 L (Tf x) (Xf (5 * x + y)) (lts x) (hA1.2 (5 * x + y) (by omega) (by omega)).1 hI) gX4_insert_X4_seen oModel rfl rfl hdX4_seen rfl rfl ⟨Nat.le_of_ble_eq_true rfl, Nat.le_of_ble_eq_true rfl⟩ rfl rfl (Nat.le_of_ble_eq_true rfl) dX4_insert_98 ?_
                    rintro _ _ _ ⟨rfl, rfl, rfl⟩
                    rw [hnw h91]
                    refine g_goto (pc := 101) G 126 dX4_insert_101 (by decide) ?_
                    first
                    | exact k126
                    | (refine g_top (show iI (a + 1) = iI nx by rw [hny1 h91 h115]) ?_
                       exact k126)
                    | (refine g_top (show iI (-1) = iI nx by rw [hny2 h91 h115]) ?_
                       exact k126)
                refine g_iload_n (pc := 71) G dX4_insert_71 rfl ?_
                refine g_if_ne (pc := 72) G hz 79 dX4_insert_72 (by decide) (fun h72 => ?_) (fun h72 => ?_)
                · -- 72 t
                  refine g_aload_n (pc := 79) G dX4_insert_79 rfl ?_
                  refine g_iload (pc := 80) G dX4_insert_80 rfl ?_
                  refine g_iload_n (pc := 82) G dX4_insert_82 rfl ?_
                  refine g_iconst (pc := 83) G dX4_insert_83 ?_
                  refine g_isub (pc := 84) G dX4_insert_84 ?_
                  refine g_call (pc := 85) (n := 2) (As := [_, _]) G (kX4_seen hD (5 * x + y) (by omega) (by omega) (z - 1) (by omega) (by omega) M1 L (Tf x) (Xf (5 * x + y)) (lts x) (hA1.2 (5 * x + y) (by omega) (by omega)).1 hI) gX4_insert_X4_seen oModel rfl rfl hdX4_seen rfl rfl ⟨Nat.le_of_ble_eq_true rfl, Nat.le_of_ble_eq_true rfl⟩ rfl rfl (Nat.le_of_ble_eq_true rfl) dX4_insert_85 ?_
                  rintro _ _ _ ⟨rfl, rfl, rfl⟩
                  rw [hat1 h72]
                  first
                  | exact k88
                  | (refine g_top (show iI (-1) = iI a by rw [hat0 h72]) ?_
                     exact k88)
                · -- 72 f
                  refine g_iconst (pc := 75) G dX4_insert_75 ?_
                  refine g_goto (pc := 76) G 88 dX4_insert_76 (by decide) ?_
                  first
                  | exact k88
                  | (refine g_top (show iI (-1) = iI a by rw [hat0 h72]) ?_
                     exact k88)
              · -- 66 f
                refine g_iconst (pc := 69) G dX4_insert_69 ?_
                refine g_iret (pc := 70) G dX4_insert_70 ?_
                refine ⟨rfl, hK1, Or.inr ⟨?_, hA1, rfl⟩⟩
                rintro ⟨w1, w2, w3, w4, w5, w6⟩
                first
                | exact qx ⟨w1.1, w1.2.1⟩
                | exact qy ⟨w1.2.2.1, w1.2.2.2⟩
                | omega
        · -- 32 f
          refine g_iconst (pc := 35) G dX4_insert_35 ?_
          refine g_iret (pc := 36) G dX4_insert_36 ?_
          refine ⟨rfl, hK1, Or.inr ⟨?_, hA1, rfl⟩⟩
          rintro ⟨w1, w2, w3, w4, w5, w6⟩
          first
          | exact qx ⟨w1.1, w1.2.1⟩
          | exact qy ⟨w1.2.2.1, w1.2.2.2⟩
          | omega
    · rw [if_neg qy]
      refine g_if_eq (pc := 18) G (by omega) 35 dX4_insert_18 (by decide) (fun _ => ?_) (fun h => absurd h (by decide))
      refine g_iconst (pc := 35) G dX4_insert_35 ?_
      refine g_iret (pc := 36) G dX4_insert_36 ?_
      refine ⟨rfl, hK1, Or.inr ⟨?_, hA1, rfl⟩⟩
      rintro ⟨w1, w2, w3, w4, w5, w6⟩
      first
      | exact qx ⟨w1.1, w1.2.1⟩
      | exact qy ⟨w1.2.2.1, w1.2.2.2⟩
      | omega
  · rw [if_neg qx]
    refine g_if_eq (pc := 10) G (by omega) 35 dX4_insert_10 (by decide) (fun _ => ?_) (fun h => absurd h (by decide))
    refine g_iconst (pc := 35) G dX4_insert_35 ?_
    refine g_iret (pc := 36) G dX4_insert_36 ?_
    refine ⟨rfl, hK1, Or.inr ⟨?_, hA1, rfl⟩⟩
    rintro ⟨w1, w2, w3, w4, w5, w6⟩
    first
    | exact qx ⟨w1.1, w1.2.1⟩
    | exact qy ⟨w1.2.2.1, w1.2.2.2⟩
    | omega
set_option maxHeartbeats 4000000 in
set_option maxRecDepth 100000 in
theorem kX4_erase {l : Launch} {D : va_G} {cI cZ cJ cT cC : ClassId} {ad : Nat → Nat} {A : Nat → Prop} (hD : ∀ g : Nat → va_E, va_D A (sjW 26 ad g)) (x y z : Int) (hx : rng x) (hy : rng y) (hz : rng z) (M : sjM) (L : sjL) (Tf Xf : Int → aS) (lts : Int → Int → Int → Prop) (hA : rAll Tf Xf M) (hg : gAll Tf Xf lts) : Met l yX4_erase wsX4_erase { frames := 5, cells := 0, slots := 0, locals := 125 } (sjA D cI cZ cJ cT cC 26 ad (kR cI cZ cJ ad) [.ref (ad 0), .int (iI x), .int (iI y), .int (iI z)] M L) (sjZ D 26 ad (kR cI cZ cJ ad) A (fun v M' L' => L = L' ∧ rKeep M M' ∧ (((okTS x y ∧ 0 ≤ z ∧ z < (Xf (5 * x + y)) 0 1 ∧ Tf x 0 2 < 100) ∧ rAll (updF Tf x (tErs (Tf x) y (aSeenAt (Xf (5 * x + y)) z))) (updF Xf (5 * x + y) (aEnd (aDo (tErs (Tf x) y (aSeenAt (Xf (5 * x + y)) z)) (decide (x = 0)) (aStart (Xf (5 * x + y))) (Tf x 0 1)))) M' ∧ v = some (.int (iI (Tf x 0 1)))) ∨ (¬ (okTS x y ∧ 0 ≤ z ∧ z < (Xf (5 * x + y)) 0 1 ∧ Tf x 0 2 < 100) ∧ rAll Tf Xf M' ∧ v = some (.int (iI (-1))))))) 0 0 A := by
  refine g_met (cc := cX4_erase) (maxL := 6) (ret := (some .int)) (lv := [_, _, _, _, _, _]) (by decide) rfl hD kR_loc (List.forall_mem_cons.mpr ⟨rfl, List.forall_mem_cons.mpr ⟨rfl, List.forall_mem_cons.mpr ⟨rfl, List.forall_mem_cons.mpr ⟨rfl, fun _ h => absurd h List.not_mem_nil⟩⟩⟩⟩) (Nat.le_of_ble_eq_true rfl) rfl ?_
  intro J G
  have f34 : Cond.fieldLink RX4 34 "SharedPageModel" "erases" "[I" ∈ wsX4_erase := by decide +kernel
  have f47 : Cond.fieldLink RX4 47 "SharedPageModel" "row" "[I" ∈ wsX4_erase := by decide +kernel
  have f87 : Cond.fieldLink RX4 87 "SharedPageModel" "told" "I" ∈ wsX4_erase := by decide +kernel
  have hinX4 : ∀ w ∈ u_ws RX4 TX4 29, w ∈ wsX4_erase := fun w h => List.mem_cons_of_mem _ (List.mem_append_right _ h)
  refine g_aload_n (pc := 0) G dX4_erase_0 rfl ?_
  refine g_iconst (pc := 1) G dX4_erase_1 ?_
  refine g_put (pc := 2) G tyX4 tyX4_ok nmX4 hinX4 oModel rfl 0 (by decide) pModel0 f87 rfl rfl rfl dX4_erase_2 ?_
  refine g_mem (fun M1 L1 hM1 hL1 => ?_)
  obtain rfl : L = L1 := hL1.symm
  have hA1 : rAll Tf Xf M1 := by rw [hM1]; exact rAll_0 hA
  have hK1 : rKeep M M1 := ⟨by rw [hM1, sjU_o (by omega)], by rw [hM1, sjU_s, if_neg (by omega)]⟩
  refine g_aload_n (pc := 5) G dX4_erase_5 rfl ?_
  refine g_iload_n (pc := 6) G dX4_erase_6 rfl ?_
  refine g_call (pc := 7) (n := 1) (As := [_]) G (kX4_isText hD x hx M1 L) gX4_erase_X4_isText oModel rfl rfl hdX4_isText rfl rfl ⟨Nat.le_of_ble_eq_true rfl, Nat.le_of_ble_eq_true rfl⟩ rfl rfl (Nat.le_of_ble_eq_true rfl) dX4_erase_7 ?_
  rintro _ _ _ ⟨rfl, rfl, rfl⟩
  by_cases qx : 0 ≤ x ∧ x < 2
  · rw [if_pos qx]
    refine g_if_eq (pc := 10) G (by omega) 21 dX4_erase_10 (by decide) (fun h => absurd h (by decide)) (fun _ => ?_)
    refine g_aload_n (pc := 13) G dX4_erase_13 rfl ?_
    refine g_iload_n (pc := 14) G dX4_erase_14 rfl ?_
    refine g_call (pc := 15) (n := 1) (As := [_]) G (kX4_isSite hD y hy M1 L) gX4_erase_X4_isSite oModel rfl rfl hdX4_isSite rfl rfl ⟨Nat.le_of_ble_eq_true rfl, Nat.le_of_ble_eq_true rfl⟩ rfl rfl (Nat.le_of_ble_eq_true rfl) dX4_erase_15 ?_
    rintro _ _ _ ⟨rfl, rfl, rfl⟩
    by_cases qy : 0 ≤ y ∧ y < 5
    · rw [if_pos qy]
      refine g_if_ne (pc := 18) G (by omega) 23 dX4_erase_18 (by decide) (fun _ => ?_) (fun h => absurd h (by decide))
      refine g_iconst (pc := 23) G dX4_erase_23 ?_
      refine g_iload_n (pc := 24) G dX4_erase_24 rfl ?_
      refine g_imul (pc := 25) G dX4_erase_25 ?_
      refine g_iload_n (pc := 26) G dX4_erase_26 rfl ?_
      refine g_iadd (pc := 27) G dX4_erase_27 ?_
      refine g_istore (pc := 28) (lv' := [_, _, _, _, _, _]) G dX4_erase_28 (by decide) rfl ?_
      refine g_iload_n (pc := 30) G dX4_erase_30 rfl ?_
      refine g_if_lt (pc := 31) G hz 55 dX4_erase_31 (by decide) (fun h31 => ?_) (fun h31 => ?_)
      · -- 31 t
        refine g_iconst (pc := 55) G dX4_erase_55 ?_
        refine g_iret (pc := 56) G dX4_erase_56 ?_
        refine ⟨rfl, hK1, Or.inr ⟨?_, hA1, rfl⟩⟩
        rintro ⟨w1, w2, w3, w4⟩
        first
        | exact qx ⟨w1.1, w1.2.1⟩
        | exact qy ⟨w1.2.2.1, w1.2.2.2⟩
        | omega
      · -- 31 f
        have hz0 : 0 ≤ z := by omega
        --go
        refine g_iload_n (pc := 34) G dX4_erase_34 rfl ?_
        refine g_aload_n (pc := 35) G dX4_erase_35 rfl ?_
        refine g_iload (pc := 36) G dX4_erase_36 rfl ?_
        refine g_call (pc := 38) (n := 1) (As := [_]) G (kX4_allSeen hD (5 * x + y) (by omega) (by omega) M1 L (Tf x) (Xf (5 * x + y)) (lts x) (hA1.2 (5 * x + y) (by omega) (by omega)).1 (hg.2 x y qx.1 qx.2 qy.1 qy.2).1) gX4_erase_X4_allSeen oModel rfl rfl hdX4_allSeen rfl rfl ⟨Nat.le_of_ble_eq_true rfl, Nat.le_of_ble_eq_true rfl⟩ rfl rfl (Nat.le_of_ble_eq_true rfl) dX4_erase_38 ?_
        rintro _ _ _ ⟨rfl, rfl, rfl⟩
        have hs8 := seen_len (hg.2 x y qx.1 qx.2 qy.1 qy.2).1
        have hs7 := sc_b (hg.2 x y qx.1 qx.2 qy.1 qy.2).1 (hg.2 x y qx.1 qx.2 qy.1 qy.2).1.1.1 (Int.le_refl _)
        have h600 := (hg.1 x qx.1 qx.2).2
        have h601 := (hg.1 x qx.1 qx.2).1.2.1
        refine g_icmp_ge (pc := 41) G hz (by omega) 55 dX4_erase_41 (by decide) (fun h41 => ?_) (fun h41 => ?_)
        · -- 41 t
          refine g_iconst (pc := 55) G dX4_erase_55 ?_
          refine g_iret (pc := 56) G dX4_erase_56 ?_
          refine ⟨rfl, hK1, Or.inr ⟨?_, hA1, rfl⟩⟩
          rintro ⟨w1, w2, w3, w4⟩
          first
          | exact qx ⟨w1.1, w1.2.1⟩
          | exact qy ⟨w1.2.2.1, w1.2.2.2⟩
          | omega
        · -- 41 f
          refine g_aload_n (pc := 44) G dX4_erase_44 rfl ?_
          refine g_getR (pc := 45) G hinX4 oModel rfl 9 (by decide) f34 rfl rfl dX4_erase_45 ?_
          refine g_iload_n (pc := 48) G dX4_erase_48 rfl ?_
          refine g_iald (pc := 49) G rErases (by omega) dX4_erase_49 ?_
          refine g_top (ld ((hA1.1 x qx.1 qx.2).1.2.2)) ?_
          refine g_bipush (pc := 50) G dX4_erase_50 rfl ?_
          refine g_icmp_ne (pc := 52) G (by omega) (by omega) 57 dX4_erase_52 (by decide) (fun h52 => ?_) (fun h52 => ?_)
          · -- 52 t
            obtain ⟨hG, hO⟩ := hg.1 x qx.1 qx.2
            obtain ⟨hI, hown, hset0⟩ := hg.2 x y qx.1 qx.2 qy.1 qy.2
            have hcp := hI.1
            have hl0 := hcp.1
            have hl1 := hcp.2.1
            have hz1 : z < (Xf (5 * x + y)) 0 1 := by omega
            have hmm := hG.2.1
            have hm0 := hG.1.2.2.1
            have h100 : Tf x 0 2 < 100 := by omega
            have h60a := hG.1.2.1
            obtain ⟨p, p0, p1, p2, p3, p4⟩ := seenAt_in hI hz0 hz1
            obtain ⟨hpc, hpp⟩ := hcp.2.2.1 p p0 p1
            have hcc : aHasC (Tf x) (aSeenAt (Xf (5 * x + y)) z) := by rw [p2]; exact hpc
            have hsp : aSP (Xf (5 * x + y)) z = p := by
              unfold aSP
              rw [p2, if_neg (by have := hpc.2.2; omega), hpp]
            have g1 := gT_ers hG qy.1 qy.2 h100 hcc
            have g2 : tExt (Tf x) (tErs (Tf x) y (aSeenAt (Xf (5 * x + y)) z)) := te_ext hm0 (by omega)
            have g4 : gO (tErs (Tf x) y (aSeenAt (Xf (5 * x + y)) z)) (decide (x = 0)) (lts x) := gO_ers hO
            have hkm0 : aHasM (tErs (Tf x) y (aSeenAt (Xf (5 * x + y)) z)) (Tf x 0 1) := (te_M hm0 (by omega)).mpr (Or.inr rfl)
            have g3 : aCan (tErs (Tf x) y (aSeenAt (Xf (5 * x + y)) z)) (Xf (5 * x + y)) (Tf x 0 1) := by
              left
              rw [kind_in hkm0, subj_in hkm0, te_6, if_pos rfl, te_8, if_pos rfl, p2, pl_char hpc.1 hpc.2.2, hpp]
              exact ⟨rfl, by omega⟩
            obtain ⟨e1, d1, d2, hset, hown', hhe, hkm⟩ := own_all hG g1 g4 g2 (fun a b _ _ h => h) hI hown hset0 (te_01 _ _ _) (fun h => by rw [te_6, if_pos rfl] at h; omega) g3
            refine g_aload_n (pc := 57) G dX4_erase_57 rfl ?_
            refine g_getR (pc := 58) G hinX4 oModel rfl 9 (by decide) f34 rfl rfl dX4_erase_58 ?_
            refine g_iload_n (pc := 61) G dX4_erase_61 rfl ?_
            refine g_aload_n (pc := 62) G dX4_erase_62 rfl ?_
            refine g_getR (pc := 63) G hinX4 oModel rfl 9 (by decide) f34 rfl rfl dX4_erase_63 ?_
            refine g_iload_n (pc := 66) G dX4_erase_66 rfl ?_
            refine g_iald (pc := 67) G rErases (by omega) dX4_erase_67 ?_
            refine g_top (ld ((hA1.1 x qx.1 qx.2).1.2.2)) ?_
            refine g_iconst (pc := 68) G dX4_erase_68 ?_
            refine g_iadd (pc := 69) G dX4_erase_69 ?_
            refine g_iast (pc := 70) G rErases (by omega) dX4_erase_70 ?_
            refine g_mem (fun M2 L2 hM2 hL2 => ?_)
            obtain rfl : L = L2 := hL2.symm
            obtain ⟨hT2, ho2⟩ := ers_rT (hA1.1 x qx.1 qx.2) hM2
            have hX2 : rX (Xf (5 * x + y)) M2 (5 * x + y) := rX_of (hA1.2 (5 * x + y) (by omega) (by omega)).1 (fun k h1 h2 => ho2.1 k (by omega))
            have e01 : aErs (Tf x) 0 1 = Tf x 0 1 := by unfold aErs; rw [aUp_ne (by omega)]
            clear hM2
            refine g_aload_n (pc := 71) G dX4_erase_71 rfl ?_
            refine g_iload_n (pc := 72) G dX4_erase_72 rfl ?_
            refine g_iload_n (pc := 73) G dX4_erase_73 rfl ?_
            refine g_aload_n (pc := 74) G dX4_erase_74 rfl ?_
            refine g_getR (pc := 75) G hinX4 oModel rfl 13 (by decide) f47 rfl rfl dX4_erase_75 ?_
            refine g_bipush (pc := 78) G dX4_erase_78 rfl ?_
            refine g_iload (pc := 80) G dX4_erase_80 rfl ?_
            refine g_imul (pc := 82) G dX4_erase_82 ?_
            refine g_aload_n (pc := 83) G dX4_erase_83 rfl ?_
            refine g_iload (pc := 84) G dX4_erase_84 rfl ?_
            refine g_iload_n (pc := 86) G dX4_erase_86 rfl ?_
            refine g_call (pc := 87) (n := 2) (As := [_, _]) G (kX4_seen hD (5 * x + y) (by omega) (by omega) z hz hz0 M2 L (Tf x) (Xf (5 * x + y)) (lts x) hX2 hI) gX4_erase_X4_seen oModel rfl rfl hdX4_seen rfl rfl ⟨Nat.le_of_ble_eq_true rfl, Nat.le_of_ble_eq_true rfl⟩ rfl rfl (Nat.le_of_ble_eq_true rfl) dX4_erase_87 ?_
            rintro _ _ _ ⟨rfl, rfl, rfl⟩
            rw [hsp]
            refine g_iadd (pc := 90) G dX4_erase_90 ?_
            refine g_iald (pc := 91) G rRow (by omega) dX4_erase_91 ?_
            refine g_top (ld (show M2 13 (60 * (5 * x + y) + p) = iI (aSeenAt (Xf (5 * x + y)) z) by rw [p2]; exact hX2.2.1 p p0 p1)) ?_
            refine g_iconst (pc := 92) G dX4_erase_92 ?_
            refine g_call (pc := 93) (n := 4) (As := [_, _, _, _]) G (kX4_message hD x qx.1 qx.2 y (aSeenAt (Xf (5 * x + y)) z) 1 (Or.inr rfl) M2 L (aErs (Tf x)) hT2 (by rw [e01]; omega) (by rw [e01]; omega)) gX4_erase_X4_message oModel rfl rfl hdX4_message rfl rfl ⟨Nat.le_of_ble_eq_true rfl, Nat.le_of_ble_eq_true rfl⟩ rfl rfl (Nat.le_of_ble_eq_true rfl) dX4_erase_93 ?_
            rintro _ M9 _ ⟨rfl, hT9, ho9, rfl⟩
            rw [e01]
            have hA9 : rAll (updF Tf x (tErs (Tf x) y (aSeenAt (Xf (5 * x + y)) z))) Xf M9 := rAll_tx hA1 (onTx_tr ho2 ho9) hT9
            have hk91 : rKeep M1 M9 := ⟨by rw [ho9.1 19 (by omega), ho2.1 19 (by omega)], by rw [ho9.1 0 (by omega), ho2.1 0 (by omega)]⟩
            refine g_istore (pc := 96) (lv' := [_, _, _, _, _, _]) G dX4_erase_96 (by decide) rfl ?_
            refine g_aload_n (pc := 98) G dX4_erase_98 rfl ?_
            refine g_call (pc := 99) (n := 0) (As := []) G (kX4_begins hD M9 L) gX4_erase_X4_begins oModel rfl rfl hdX4_begins rfl rfl ⟨Nat.le_of_ble_eq_true rfl, Nat.le_of_ble_eq_true rfl⟩ rfl rfl (Nat.le_of_ble_eq_true rfl) dX4_erase_99 ?_
            rintro _ M10 _ ⟨rfl, rfl, hb10⟩
            obtain ⟨hA10, hX10, hK10, hl1, hl2⟩ := call_begin (i := 5 * x + y) hA9 hb10 (by omega) (by omega)
            have hTn : rT (tErs (Tf x) y (aSeenAt (Xf (5 * x + y)) z)) M10 x := by have h9 := hA10.1 x qx.1 qx.2; rw [updF_i] at h9; exact h9
            refine g_aload_n (pc := 102) G dX4_erase_102 rfl ?_
            refine g_iload (pc := 103) G dX4_erase_103 rfl ?_
            refine g_iload_n (pc := 105) G dX4_erase_105 rfl ?_
            refine g_iload (pc := 106) G dX4_erase_106 rfl ?_
            refine g_call (pc := 108) (n := 3) (As := [_, _, _]) G (kX4_hears hD (5 * x + y) (by omega) (by omega) x qx.1 qx.2 (Tf x 0 1) M10 L (tErs (Tf x) y (aSeenAt (Xf (5 * x + y)) z)) (aStart (Xf (5 * x + y))) (lts x) hX10 (start_inv (e1 _ _ hI (fun a b _ _ h => h))) hTn g1 g4 hkm) gX4_erase_X4_hears oModel rfl rfl hdX4_hears rfl rfl ⟨Nat.le_of_ble_eq_true rfl, Nat.le_of_ble_eq_true rfl⟩ rfl rfl (Nat.le_of_ble_eq_true rfl) dX4_erase_108 ?_
            rintro _ M11 _ ⟨rfl, ho11, hX11, hlk, rfl⟩
            have h04 := hear_04 (T := (tErs (Tf x) y (aSeenAt (Xf (5 * x + y)) z))) (w := (decide (x = 0))) (X := aStart (Xf (5 * x + y))) (k := Tf x 0 1)
            rw [hhe] at hX11 hlk h04
            have hyk : aEnd (aDo (tErs (Tf x) y (aSeenAt (Xf (5 * x + y)) z)) (decide (x = 0)) (aStart (Xf (5 * x + y))) (Tf x 0 1)) = (aDo (tErs (Tf x) y (aSeenAt (Xf (5 * x + y)) z)) (decide (x = 0)) (aStart (Xf (5 * x + y))) (Tf x 0 1)) := by
              have h06 : (aDo (tErs (Tf x) y (aSeenAt (Xf (5 * x + y)) z)) (decide (x = 0)) (aStart (Xf (5 * x + y))) (Tf x 0 1)) 0 6 = 0 := by
                unfold aDo
                rw [kind_in hkm0, te_6, if_pos rfl, if_pos rfl, strike_0 (by omega), aMk_0, if_neg (by omega)]
                exact (start_05 _).2.1
              unfold aEnd
              rw [if_neg (by omega)]
            refine g_pop (pc := 111) G dX4_erase_111 rfl ?_
            refine g_iload (pc := 112) G dX4_erase_112 rfl ?_
            refine g_iret (pc := 114) G dX4_erase_114 ?_
            have hA11 := rAll_on hA10 ho11 (by omega) (by omega) hX11 (h04.trans (start_05 _).2.2) (fun j h0 h1 => gAll_60 hg h0 h1)
            rw [hyk]
            exact ⟨rfl, ⟨ho11.2.1.2.1.trans (hK10.1.trans (hk91.1.trans hK1.1)), ho11.2.1.2.2.2.2.2.trans (hK10.2.trans (hk91.2.trans hK1.2))⟩, Or.inl ⟨⟨⟨qx.1, qx.2, qy.1, qy.2⟩, hz0, hz1, h100⟩, hA11, rfl⟩⟩
          · -- 52 f
            refine g_iconst (pc := 55) G dX4_erase_55 ?_
            refine g_iret (pc := 56) G dX4_erase_56 ?_
            refine ⟨rfl, hK1, Or.inr ⟨?_, hA1, rfl⟩⟩
            rintro ⟨w1, w2, w3, w4⟩
            first
            | exact qx ⟨w1.1, w1.2.1⟩
            | exact qy ⟨w1.2.2.1, w1.2.2.2⟩
            | omega
    · rw [if_neg qy]
      refine g_if_ne (pc := 18) G (by omega) 23 dX4_erase_18 (by decide) (fun h => absurd h (by decide)) (fun _ => ?_)
      refine g_iconst (pc := 21) G dX4_erase_21 ?_
      refine g_iret (pc := 22) G dX4_erase_22 ?_
      refine ⟨rfl, hK1, Or.inr ⟨?_, hA1, rfl⟩⟩
      rintro ⟨w1, w2, w3, w4⟩
      first
      | exact qx ⟨w1.1, w1.2.1⟩
      | exact qy ⟨w1.2.2.1, w1.2.2.2⟩
      | omega
  · rw [if_neg qx]
    refine g_if_eq (pc := 10) G (by omega) 21 dX4_erase_10 (by decide) (fun _ => ?_) (fun h => absurd h (by decide))
    refine g_iconst (pc := 21) G dX4_erase_21 ?_
    refine g_iret (pc := 22) G dX4_erase_22 ?_
    refine ⟨rfl, hK1, Or.inr ⟨?_, hA1, rfl⟩⟩
    rintro ⟨w1, w2, w3, w4⟩
    first
    | exact qx ⟨w1.1, w1.2.1⟩
    | exact qy ⟨w1.2.2.1, w1.2.2.2⟩
    | omega
