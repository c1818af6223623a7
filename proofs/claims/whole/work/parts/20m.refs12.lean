/-- nothing but the spare copy and the drawing -/
def onS (M M' : sjM) : Prop := (∀ k, 1 ≤ k → k ≤ 12 → M' k = M k) ∧ (M' 18 = M 18 ∧ M' 19 = M 19 ∧ M' 0 3 = M 0 3) ∧ (∀ z, z < 600 → M' 13 z = M 13 z ∧ M' 15 z = M 15 z ∧ M' 16 z = M 16 z) ∧ (∀ z, z < 10 → M' 14 z = M 14 z) ∧ ∀ z, z < 1600 → M' 17 z = M 17 z
theorem onS_rf (M : sjM) : onS M M := ⟨fun _ _ _ => rfl, ⟨rfl, rfl, rfl⟩, fun _ _ => ⟨rfl, rfl, rfl⟩, fun _ _ => rfl, fun _ _ => rfl⟩
theorem onS_tr {M M1 M2 : sjM} (h1 : onS M M1) (h2 : onS M1 M2) : onS M M2 := by
  obtain ⟨a1, ⟨a2, a3, a4⟩, a5, a6, a7⟩ := h1
  obtain ⟨b1, ⟨b2, b3, b4⟩, b5, b6, b7⟩ := h2
  refine ⟨fun k h h' => (b1 k h h').trans (a1 k h h'), ⟨b2.trans a2, b3.trans a3, b4.trans a4⟩, fun z hz => ?_, fun z hz => (b6 z hz).trans (a6 z hz), fun z hz => (b7 z hz).trans (a7 z hz)⟩
  obtain ⟨p1, p2, p3⟩ := a5 z hz
  obtain ⟨q1, q2, q3⟩ := b5 z hz
  exact ⟨q1.trans p1, q2.trans p2, q3.trans p3⟩
theorem onS_R {M M' : sjM} (h : onR M M' 10) : onS M M' := ⟨h.1, ⟨h.2.1.1, h.2.1.2.1, h.2.1.2.2.2.2.2⟩, fun z hz => h.2.2.1 z (by omega), fun z hz => h.2.2.2.1 z (by omega), fun z hz => h.2.2.2.2 z (by omega)⟩
theorem onS_U {M M' : sjM} {k : Nat} {z : Int} {x : Int32} (h : M' = sjU M k z x) (hk : (k = 14 ∧ 10 ≤ z) ∨ (k = 15 ∧ 600 ≤ z) ∨ (k = 16 ∧ 600 ≤ z) ∨ (k = 17 ∧ 1600 ≤ z) ∨ k = 23) : onS M M' := by
  have hs : ∀ (j : Nat) (b : Int), ¬ (j = k ∧ b = z) → M' j b = M j b := fun j b hb => by rw [h]; unfold sjU; rw [if_neg hb]
  refine ⟨fun j h1 h2 => by funext b; exact hs j b (by omega), ⟨by funext b; exact hs 18 b (by omega), by funext b; exact hs 19 b (by omega), hs 0 3 (by omega)⟩, fun b hb => ⟨hs 13 b (by omega), hs 15 b (by omega), hs 16 b (by omega)⟩, fun b hb => hs 14 b (by omega), fun b hb => hs 17 b (by omega)⟩
theorem onS_all {Tf Xf : Int → aS} {M M' : sjM} (h : rAll Tf Xf M) (ho : onS M M') (hl : ∀ j, 0 ≤ j → j < 10 → Xf j 0 0 ≤ 60) : rAll Tf Xf M' := by
  obtain ⟨a1, ⟨a2, a3, a4⟩, a5, a6, a7⟩ := ho
  refine ⟨fun t h0 h1 => rT_of (h.1 t h0 h1) a1, fun i h0 h1 => ⟨?_, by rw [a2]; exact (h.2 i h0 h1).2⟩⟩
  obtain ⟨x1, x2, x3, x4⟩ := (h.2 i h0 h1).1
  have hli := hl i h0 h1
  refine ⟨by rw [a6 i h1]; exact x1, fun q q0 q1 => by rw [(a5 _ (by omega)).1]; exact x2 q q0 q1, fun c c0 c1 => ?_, fun k k0 k1 => by rw [a7 _ (by omega)]; exact x4 k k0 k1⟩
  obtain ⟨_, e2, e3⟩ := a5 (60 * i + c) (by omega)
  rw [e2, e3]; exact x3 c c0 c1
theorem emp_rX {M : sjM} (Z : aS) (h14 : M 14 10 = iI 0) (hc : ∀ c, 0 ≤ c → c < 60 → M 15 (600 + c) = iI 0 ∧ M 16 (600 + c) = iI 0) (hk : ∀ k, 0 ≤ k → k < 160 → M 17 (1600 + k) = iI 0) : rX (aEmp Z) M 10 := by
  refine ⟨by rw [aEmp_0 Z 0 (by omega) (by omega)]; exact h14, fun q q0 q1 => ?_, fun c c0 c1 => ?_, fun k k0 k1 => ?_⟩
  · rw [aEmp_0 Z 0 (by omega) (by omega)] at q1; omega
  · rw [aEmp_2 Z c c0 c1, aEmp_3 Z c c0 c1, if_pos rfl, show (60 : Int) * 10 + c = 600 + c by omega]
    exact hc c c0 c1
  · rw [aEmp_4 Z k k0 k1, show (160 : Int) * 10 + k = 1600 + k by omega]
    exact hk k k0 k1
set_option maxHeartbeats 4000000 in
set_option maxRecDepth 100000 in
theorem kX4_shuffle {l : Launch} {D : va_G} {cI cZ cJ cT cC : ClassId} {ad : Nat → Nat} {A : Nat → Prop} (hD : ∀ g : Nat → va_E, va_D A (sjW 26 ad g)) (x y z : Int) (hx : rng x) (hy : rng y) (M : sjM) (L : sjL) (Tf Xf : Int → aS) (lts : Int → Int → Int → Prop) (hA : rAll Tf Xf M) (hg : gAll Tf Xf lts) (O : Int → Int) (Z : aS) : Met l yX4_shuffle wsX4_shuffle { frames := 5, cells := 0, slots := 0, locals := 125 } (sjA D cI cZ cJ cT cC 26 ad (kR cI cZ cJ ad) [.ref (ad 0), .int (iI x), .int (iI y), .int (iI z)] M L) (sjZ D 26 ad (kR cI cZ cJ ad) A (fun v M' L' => L = L' ∧ rKeep M M' ∧ rAll Tf Xf M' ∧ v = some (.int (iI (if okTS x y then (if (aShuF (Tf x) (decide (x = 0)) (aLdF (Xf (5 * x + y)) (Tf x 0 1).toNat 0 0 O).1.toNat z (aLdF (Xf (5 * x + y)) (Tf x 0 1).toNat 0 0 O).1 (aLdF (Xf (5 * x + y)) (Tf x 0 1).toNat 0 0 O).2 (aEmp Z)) 0 3 = 0 then aAlike (aShuF (Tf x) (decide (x = 0)) (aLdF (Xf (5 * x + y)) (Tf x 0 1).toNat 0 0 O).1.toNat z (aLdF (Xf (5 * x + y)) (Tf x 0 1).toNat 0 0 O).1 (aLdF (Xf (5 * x + y)) (Tf x 0 1).toNat 0 0 O).2 (aEmp Z)) (Xf (5 * x + y)) else 0) else 0))))) 0 0 A := by
  refine g_met (cc := cX4_shuffle) (maxL := 10) (ret := (some .boolean)) (lv := [_, _, _, _, _, _, _, _, _, _]) (by decide) rfl hD kR_loc (List.forall_mem_cons.mpr ⟨rfl, List.forall_mem_cons.mpr ⟨rfl, List.forall_mem_cons.mpr ⟨rfl, List.forall_mem_cons.mpr ⟨rfl, fun _ h => absurd h List.not_mem_nil⟩⟩⟩⟩) (Nat.le_of_ble_eq_true rfl) rfl ?_
  intro J G
  have f31 : Cond.fieldLink RX4 31 "SharedPageModel" "messages" "[I" ∈ wsX4_shuffle := by decide +kernel
  have f50 : Cond.fieldLink RX4 50 "SharedPageModel" "many" "[I" ∈ wsX4_shuffle := by decide +kernel
  have f53 : Cond.fieldLink RX4 53 "SharedPageModel" "has" "[Z" ∈ wsX4_shuffle := by decide +kernel
  have f56 : Cond.fieldLink RX4 56 "SharedPageModel" "erased" "[Z" ∈ wsX4_shuffle := by decide +kernel
  have f59 : Cond.fieldLink RX4 59 "SharedPageModel" "state" "[I" ∈ wsX4_shuffle := by decide +kernel
  have f77 : Cond.fieldLink RX4 77 "SharedPageModel" "left" "[I" ∈ wsX4_shuffle := by decide +kernel
  have f87 : Cond.fieldLink RX4 87 "SharedPageModel" "told" "I" ∈ wsX4_shuffle := by decide +kernel
  have hinX4 : ∀ w ∈ u_ws RX4 TX4 29, w ∈ wsX4_shuffle := fun w h => List.mem_cons_of_mem _ (List.mem_append_right _ h)
  refine g_aload_n (pc := 0) G dX4_shuffle_0 rfl ?_
  refine g_iconst (pc := 1) G dX4_shuffle_1 ?_
  refine g_put (pc := 2) G tyX4 tyX4_ok nmX4 hinX4 oModel rfl 0 (by decide) pModel0 f87 rfl rfl rfl dX4_shuffle_2 ?_
  refine g_mem (fun M1 L1 hM1 hL1 => ?_)
  obtain rfl : L = L1 := hL1.symm
  have hA1 : rAll Tf Xf M1 := by rw [hM1]; exact rAll_0 hA
  have hK1 : rKeep M M1 := ⟨by rw [hM1, sjU_o (by omega)], by rw [hM1, sjU_s, if_neg (by omega)]⟩
  refine g_aload_n (pc := 5) G dX4_shuffle_5 rfl ?_
  refine g_iload_n (pc := 6) G dX4_shuffle_6 rfl ?_
  refine g_call (pc := 7) (n := 1) (As := [_]) G (kX4_isText hD x hx M1 L) gX4_shuffle_X4_isText oModel rfl rfl hdX4_isText rfl rfl ⟨Nat.le_of_ble_eq_true rfl, Nat.le_of_ble_eq_true rfl⟩ rfl rfl (Nat.le_of_ble_eq_true rfl) dX4_shuffle_7 ?_
  rintro _ _ _ ⟨rfl, rfl, rfl⟩
  by_cases qx : 0 ≤ x ∧ x < 2
  · rw [if_pos qx]
    refine g_if_eq (pc := 10) G (by omega) 21 dX4_shuffle_10 (by decide) (fun h => absurd h (by decide)) (fun _ => ?_)
    refine g_aload_n (pc := 13) G dX4_shuffle_13 rfl ?_
    refine g_iload_n (pc := 14) G dX4_shuffle_14 rfl ?_
    refine g_call (pc := 15) (n := 1) (As := [_]) G (kX4_isSite hD y hy M1 L) gX4_shuffle_X4_isSite oModel rfl rfl hdX4_isSite rfl rfl ⟨Nat.le_of_ble_eq_true rfl, Nat.le_of_ble_eq_true rfl⟩ rfl rfl (Nat.le_of_ble_eq_true rfl) dX4_shuffle_15 ?_
    rintro _ _ _ ⟨rfl, rfl, rfl⟩
    by_cases qy : 0 ≤ y ∧ y < 5
    · rw [if_pos qy]
      refine g_if_ne (pc := 18) G (by omega) 23 dX4_shuffle_18 (by decide) (fun _ => ?_) (fun h => absurd h (by decide))
      obtain ⟨hG, hO⟩ := hg.1 x qx.1 qx.2
      obtain ⟨hI, hown, hset0⟩ := hg.2 x y qx.1 qx.2 qy.1 qy.2
      have hm0 := hG.1.2.2.1
      have hm1 := hG.1.2.2.2.1
      have fin : ∀ (M2 : sjM) (Y : aS) (x5 x6 x7 x8 x9 : Option Value), rX Y M2 10 → cInv (Tf x) (lts x) Y → onS M1 M2 → Y = (aShuF (Tf x) (decide (x = 0)) (aLdF (Xf (5 * x + y)) (Tf x 0 1).toNat 0 0 O).1.toNat z (aLdF (Xf (5 * x + y)) (Tf x 0 1).toNat 0 0 O).1 (aLdF (Xf (5 * x + y)) (Tf x 0 1).toNat 0 0 O).2 (aEmp Z)) → J 258 M2 L [some (.ref (ad 0)), some (.int (iI x)), some (.int (iI y)), some (.int (iI z)), some (.int (iI (5 * x + y))), x5, x6, x7, x8, x9] [] := by
        intro M2 Y x5 x6 x7 x8 x9 hY hIY hoS hYR
        have hA2 : rAll Tf Xf M2 := onS_all hA1 hoS (fun j h0 h1 => gAll_60 hg h0 h1)
        refine g_aload_n (pc := 258) G dX4_shuffle_258 rfl ?_
        refine g_bipush (pc := 259) G dX4_shuffle_259 rfl ?_
        refine g_iload_n (pc := 261) G dX4_shuffle_261 rfl ?_
        refine g_iconst (pc := 262) G dX4_shuffle_262 ?_
        refine g_call (pc := 263) (n := 3) (As := [_, _, _]) G (kX4_count hD 10 (by omega) (by omega) x qx.1 qx.2 1 (by omega) M2 L (Tf x) Y (lts x) hY hIY (hA2.1 x qx.1 qx.2) hG.1.2.2.1 hG.1.2.2.2.1) gX4_shuffle_X4_count oModel rfl rfl hdX4_count rfl rfl ⟨Nat.le_of_ble_eq_true rfl, Nat.le_of_ble_eq_true rfl⟩ rfl rfl (Nat.le_of_ble_eq_true rfl) dX4_shuffle_263 ?_
        rintro _ _ _ ⟨rfl, rfl, rfl⟩
        rw [cs_all hG.1 hIY.2.2.1 (by omega), ← hIY.2.2.2.2]
        refine g_if_ne (pc := 266) G (by have h9 := cn_le (f := fun k => iq (Y 4 k) 1) 160 (fun q _ _ => iq_01 _ _); have h8 := hIY.2.2.2.2; unfold nSt at h8; omega) 284 dX4_shuffle_266 (by decide) (fun h266 => ?_) (fun h266 => ?_)
        · -- 266 t
          refine g_iconst (pc := 284) G dX4_shuffle_284 ?_
          refine g_zret (pc := 285) G rfl dX4_shuffle_285 ?_
          refine ⟨rfl, ⟨hoS.2.1.2.1.trans hK1.1, hoS.2.1.2.2.trans hK1.2⟩, hA2, ?_⟩
          rw [if_pos ⟨qx.1, qx.2, qy.1, qy.2⟩, ← hYR]
          first
          | rw [if_neg h266]
          | rw [if_pos h266, h01]
        · -- 266 f
          refine g_aload_n (pc := 269) G dX4_shuffle_269 rfl ?_
          refine g_bipush (pc := 270) G dX4_shuffle_270 rfl ?_
          refine g_iload (pc := 272) G dX4_shuffle_272 rfl ?_
          refine g_call (pc := 274) (n := 2) (As := [_, _]) G (kX4_isSame hD 10 (by omega) (by omega) (5 * x + y) (by omega) (by omega) M2 L (Tf x) Y (Xf (5 * x + y)) hY (hA2.2 _ (by omega) (by omega)).1 hIY.1 hI.1 (e3_of hIY.2.2.1) (e3_of hI.2.2.1)) gX4_shuffle_X4_isSame oModel rfl rfl hdX4_isSame rfl rfl ⟨Nat.le_of_ble_eq_true rfl, Nat.le_of_ble_eq_true rfl⟩ rfl rfl (Nat.le_of_ble_eq_true rfl) dX4_shuffle_274 ?_
          rintro _ _ _ ⟨rfl, rfl, rfl⟩
          rcases aAlike_01 Y (Xf (5 * x + y)) with h01 | h01
          · rw [h01]
            refine g_if_eq (pc := 277) G (by omega) 284 dX4_shuffle_277 (by decide) (fun _ => ?_) (fun h => absurd h (by decide))
            refine g_iconst (pc := 284) G dX4_shuffle_284 ?_
            refine g_zret (pc := 285) G rfl dX4_shuffle_285 ?_
            refine ⟨rfl, ⟨hoS.2.1.2.1.trans hK1.1, hoS.2.1.2.2.trans hK1.2⟩, hA2, ?_⟩
            rw [if_pos ⟨qx.1, qx.2, qy.1, qy.2⟩, ← hYR]
            first
            | rw [if_neg h266]
            | rw [if_pos h266, h01]
          · rw [h01]
            refine g_if_eq (pc := 277) G (by omega) 284 dX4_shuffle_277 (by decide) (fun h => absurd h (by decide)) (fun _ => ?_)
            refine g_iconst (pc := 280) G dX4_shuffle_280 ?_
            refine g_goto (pc := 281) G 285 dX4_shuffle_281 (by decide) ?_
            refine g_zret (pc := 285) G rfl dX4_shuffle_285 ?_
            refine ⟨rfl, ⟨hoS.2.1.2.1.trans hK1.1, hoS.2.1.2.2.trans hK1.2⟩, hA2, ?_⟩
            rw [if_pos ⟨qx.1, qx.2, qy.1, qy.2⟩, ← hYR]
            first
            | rw [if_neg h266]
            | rw [if_pos h266, h01]
      have loopD : ∀ (f : Nat) (r s : Int) (O1 : Int → Int) (Y : aS) (M2 : sjM) (x7 x8 x9 : Option Value), 0 ≤ r → r ≤ 160 → r.toNat < f → rX Y M2 10 → cInv (Tf x) (lts x) Y → (∀ q, 0 ≤ q → q < r → aHasM (Tf x) (O1 q)) → (∀ q, 0 ≤ q → q < r → M2 23 q = iI (O1 q)) → onS M1 M2 → aShuF (Tf x) (decide (x = 0)) r.toNat s r O1 Y = (aShuF (Tf x) (decide (x = 0)) (aLdF (Xf (5 * x + y)) (Tf x 0 1).toNat 0 0 O).1.toNat z (aLdF (Xf (5 * x + y)) (Tf x 0 1).toNat 0 0 O).1 (aLdF (Xf (5 * x + y)) (Tf x 0 1).toNat 0 0 O).2 (aEmp Z)) → J 169 M2 L [some (.ref (ad 0)), some (.int (iI x)), some (.int (iI y)), some (.int (iI z)), some (.int (iI (5 * x + y))), some (.int (iI r)), some (.int (iI s)), x7, x8, x9] [] := by
        intro f
        induction f with
        | zero => intro r s O1 Y M2 x7 x8 x9 _ _ h; omega
        | succ f ih =>
          intro r s O1 Y M2 x7 x8 x9 hr0 hr1 hf hY hIY hV hO1 hoS hR
          refine g_iload (pc := 169) G dX4_shuffle_169 rfl ?_
          refine g_if_le (pc := 171) G (by clear hR; omega) 258 dX4_shuffle_171 (by decide) (fun h171 => ?_) (fun h171 => ?_)
          · -- 171 t
            rw [show r.toNat = 0 by clear hR; omega, aShuF] at hR
            --go
            exact fin M2 Y _ _ _ _ _ hY hIY hoS (by rw [← hR])
          · -- 171 f
            rw [show r.toNat = (r - 1).toNat + 1 by clear hR; omega, aShuF] at hR
            obtain ⟨at0, hat⟩ : ∃ at0 : Int, at0 = ((up16 (s * (1103515245 : Int32).toInt + 12345) : Int) % r) := ⟨_, rfl⟩
            rw [← hat] at hR
            have ha0 : 0 ≤ at0 := by rw [hat]; exact Int.emod_nonneg _ (by clear hR; omega)
            have ha1 : at0 < r := by rw [hat]; exact Int.emod_lt_of_pos _ h171
            have k239 : ∀ (j : Int) (M3 : sjM), j = r - 1 → (∀ k, k ≠ 23 → M3 k = M2 k) → (∀ q, 0 ≤ q → q < r → M3 23 q = iI (if at0 ≤ q ∧ q < j then O1 (q + 1) else O1 q)) → J 239 M3 L [some (.ref (ad 0)), some (.int (iI x)), some (.int (iI y)), some (.int (iI z)), some (.int (iI (5 * x + y))), some (.int (iI r)), some (.int (iI (s * (1103515245 : Int32).toInt + 12345))), some (.int (iI at0)), some (.int (iI (O1 at0))), some (.int (iI j))] [] := by
              intro j M3 hj ho3 h23
              have hoS3 : onS M1 M3 := onS_tr hoS ⟨fun k h1 h2 => ho3 k (by omega), ⟨ho3 18 (by omega), ho3 19 (by omega), by rw [ho3 0 (by omega)]⟩, fun q _ => ⟨by rw [ho3 13 (by omega)], by rw [ho3 15 (by omega)], by rw [ho3 16 (by omega)]⟩, fun q _ => by rw [ho3 14 (by omega)], fun q _ => by rw [ho3 17 (by omega)]⟩
              have hA3 : rAll Tf Xf M3 := onS_all hA1 hoS3 (fun j h0 h1 => gAll_60 hg h0 h1)
              have hY3 : rX Y M3 10 := rX_of hY (fun k h1 h2 => ho3 k (by omega))
              refine g_iload (pc := 239) G dX4_shuffle_239 rfl ?_
              refine g_iconst (pc := 241) G dX4_shuffle_241 ?_
              refine g_isub (pc := 242) G dX4_shuffle_242 ?_
              refine g_istore (pc := 243) (lv' := [_, _, _, _, _, _, _, _, _, _]) G dX4_shuffle_243 (by decide) rfl ?_
              refine g_aload_n (pc := 245) G dX4_shuffle_245 rfl ?_
              refine g_bipush (pc := 246) G dX4_shuffle_246 rfl ?_
              refine g_iload_n (pc := 248) G dX4_shuffle_248 rfl ?_
              refine g_iload (pc := 249) G dX4_shuffle_249 rfl ?_
              refine g_call (pc := 251) (n := 3) (As := [_, _, _]) G (kX4_hears hD 10 (by omega) (by omega) x qx.1 qx.2 (O1 at0) M3 L (Tf x) Y (lts x) hY3 hIY (hA3.1 x qx.1 qx.2) hG hO (hV at0 ha0 ha1)) gX4_shuffle_X4_hears oModel rfl rfl hdX4_hears rfl rfl ⟨Nat.le_of_ble_eq_true rfl, Nat.le_of_ble_eq_true rfl⟩ rfl rfl (Nat.le_of_ble_eq_true rfl) dX4_shuffle_251 ?_
              rintro _ M5 _ ⟨rfl, ho5, hX5, -, rfl⟩
              have hV5 : ∀ q, 0 ≤ q → q < r - 1 → aHasM (Tf x) (aTk O1 at0 r q) := by
                intro q q0 q1
                unfold aTk
                split
                · exact hV (q + 1) (by omega) (by omega)
                · exact hV q q0 (by omega)
              have h235 : ∀ q, 0 ≤ q → q < r - 1 → M5 23 q = iI (aTk O1 at0 r q) := by
                intro q q0 q1
                rw [ho5.2.1.2.2.1, h23 q q0 (by omega)]
                unfold aTk
                rw [hj]
              refine g_pop (pc := 254) G dX4_shuffle_254 rfl ?_
              refine g_goto (pc := 255) G 169 dX4_shuffle_255 (by decide) ?_
              exact ih (r - 1) _ (aTk O1 at0 r) _ M5 _ _ _ (by omega) (by omega) (by omega) hX5 (hear_inv hG.1 (gO_o hG.1.2.2.2.2.1 hO) hIY) hV5 h235 (onS_tr hoS3 (onS_R ho5)) hR
            have loopJ : ∀ (f : Nat) (j : Int) (M3 : sjM), at0 ≤ j → j ≤ r - 1 → (r - 1 - j).toNat < f → (∀ k, k ≠ 23 → M3 k = M2 k) → (∀ q, 0 ≤ q → q < r → M3 23 q = iI (if at0 ≤ q ∧ q < j then O1 (q + 1) else O1 q)) → J 208 M3 L [some (.ref (ad 0)), some (.int (iI x)), some (.int (iI y)), some (.int (iI z)), some (.int (iI (5 * x + y))), some (.int (iI r)), some (.int (iI (s * (1103515245 : Int32).toInt + 12345))), some (.int (iI at0)), some (.int (iI (O1 at0))), some (.int (iI j))] [] := by
              intro f
              induction f with
              | zero => intro j M3 _ _ h; omega
              | succ f ihj =>
                intro j M3 hj0 hj1 hf ho3 h23
                refine g_iload (pc := 208) G dX4_shuffle_208 rfl ?_
                refine g_iload (pc := 210) G dX4_shuffle_210 rfl ?_
                refine g_iconst (pc := 212) G dX4_shuffle_212 ?_
                refine g_isub (pc := 213) G dX4_shuffle_213 ?_
                refine g_icmp_ge (pc := 214) G (by omega) (by omega) 239 dX4_shuffle_214 (by decide) (fun h214 => ?_) (fun h214 => ?_)
                · -- 214 t
                  exact k239 j M3 (by omega) ho3 h23
                · -- 214 f
                  refine g_aload_n (pc := 217) G dX4_shuffle_217 rfl ?_
                  refine g_getR (pc := 218) G hinX4 oModel rfl 26 (by decide) f77 rfl rfl dX4_shuffle_218 ?_
                  refine g_iload (pc := 221) G dX4_shuffle_221 rfl ?_
                  refine g_aload_n (pc := 223) G dX4_shuffle_223 rfl ?_
                  refine g_getR (pc := 224) G hinX4 oModel rfl 26 (by decide) f77 rfl rfl dX4_shuffle_224 ?_
                  refine g_iload (pc := 227) G dX4_shuffle_227 rfl ?_
                  refine g_iconst (pc := 229) G dX4_shuffle_229 ?_
                  refine g_iadd (pc := 230) G dX4_shuffle_230 ?_
                  refine g_iald (pc := 231) G rLeftR (by omega) dX4_shuffle_231 ?_
                  refine g_top (ld (show M3 23 (j + 1) = iI (O1 (j + 1)) by rw [h23 (j + 1) (by omega) (by omega), if_neg (by omega)])) ?_
                  refine g_iast (pc := 232) G rLeftR (by omega) dX4_shuffle_232 ?_
                  refine g_mem (fun M4 L4 hM4 hL4 => ?_)
                  obtain rfl : L = L4 := hL4.symm
                  have ho4 : ∀ k, k ≠ 23 → M4 k = M2 k := fun k hk => by rw [hM4, sjU_o hk]; exact ho3 k hk
                  have h234 : ∀ q, 0 ≤ q → q < r → M4 23 q = iI (if at0 ≤ q ∧ q < j + 1 then O1 (q + 1) else O1 q) := by
                    intro q q0 q1
                    rw [hM4, sjU_s]
                    by_cases hq : q = j
                    · rw [if_pos hq, if_pos (by omega), hq]
                    · rw [if_neg hq, h23 q q0 q1]
                      by_cases hc : at0 ≤ q ∧ q < j
                      · rw [if_pos hc, if_pos (by omega)]
                      · rw [if_neg hc, if_neg (by omega)]
                  clear hM4
                  refine g_iinc (pc := 233) (lv' := [_, _, _, _, _, _, _, _, _, _]) G dX4_shuffle_233 (by decide) rfl rfl ?_
                  refine g_goto (pc := 236) G 208 dX4_shuffle_236 (by decide) ?_
                  exact ihj (j + 1) M4 (by omega) (by omega) (by omega) ho4 h234
            --go
            refine g_iload (pc := 174) G dX4_shuffle_174 rfl ?_
            refine g_ldc (pc := 176) (v := 1103515245) G (by decide +kernel) dX4_shuffle_176 ?_
            refine g_imul (pc := 178) G dX4_shuffle_178 ?_
            refine g_sipush (pc := 179) G dX4_shuffle_179 rfl ?_
            refine g_iadd (pc := 182) G dX4_shuffle_182 ?_
            refine g_istore (pc := 183) (lv' := [_, _, _, _, _, _, _, _, _, _]) G dX4_shuffle_183 (by decide) rfl ?_
            refine g_iload (pc := 185) G dX4_shuffle_185 rfl ?_
            refine g_bipush (pc := 187) G dX4_shuffle_187 rfl ?_
            refine g_iushr (pc := 189) G dX4_shuffle_189 ?_
            refine g_top (ushr16 _) ?_
            refine g_iload (pc := 190) G dX4_shuffle_190 rfl ?_
            refine g_irem (pc := 192) G dX4_shuffle_192 (fun w => by have := (iI_eq ⟨by clear hR; omega, by clear hR; omega⟩ sjz).mp w; clear hR; omega) ?_
            refine g_top ((rem16 _ r (by clear hR; omega) (by clear hR; omega)).trans (congrArg iI hat.symm)) ?_
            refine g_istore (pc := 193) (lv' := [_, _, _, _, _, _, _, _, _, _]) G dX4_shuffle_193 (by decide) rfl ?_
            refine g_aload_n (pc := 195) G dX4_shuffle_195 rfl ?_
            refine g_getR (pc := 196) G hinX4 oModel rfl 26 (by decide) f77 rfl rfl dX4_shuffle_196 ?_
            refine g_iload (pc := 199) G dX4_shuffle_199 rfl ?_
            refine g_iald (pc := 201) G rLeftR (by omega) dX4_shuffle_201 ?_
            refine g_top (ld (hO1 at0 ha0 ha1)) ?_
            refine g_istore (pc := 202) (lv' := [_, _, _, _, _, _, _, _, _, _]) G dX4_shuffle_202 (by decide) rfl ?_
            refine g_iload (pc := 204) G dX4_shuffle_204 rfl ?_
            refine g_istore (pc := 206) (lv' := [_, _, _, _, _, _, _, _, _, _]) G dX4_shuffle_206 (by decide) rfl ?_
            exact loopJ _ at0 M2 (by omega) (by omega) (Nat.lt_succ_self _) (fun _ _ => rfl) (fun q q0 q1 => by rw [if_neg (by omega)]; exact hO1 q q0 q1)
      have loopL : ∀ (f : Nat) (k n : Int) (O1 : Int → Int) (M2 : sjM), 0 ≤ k → k ≤ Tf x 0 1 → (Tf x 0 1 - k).toNat < f → 0 ≤ n → n ≤ k → rX (aEmp Z) M2 10 → (∀ q, 0 ≤ q → q < n → M2 23 q = iI (O1 q)) → (∀ q, 0 ≤ q → q < n → 0 ≤ O1 q ∧ O1 q < k) → onS M1 M2 → aLdF (Xf (5 * x + y)) (Tf x 0 1 - k).toNat k n O1 = (aLdF (Xf (5 * x + y)) (Tf x 0 1).toNat 0 0 O) → J 113 M2 L [some (.ref (ad 0)), some (.int (iI x)), some (.int (iI y)), some (.int (iI z)), some (.int (iI (5 * x + y))), some (.int (iI n)), some (.int (iI k)), none, none, none] [] := by
        intro f
        induction f with
        | zero => intro k n O1 M2 _ _ h; omega
        | succ f ih =>
          intro k n O1 M2 hk0 hk1 hf hn0 hn1 hY2 hO1 hV hoS hR
          have hA2 : rAll Tf Xf M2 := onS_all hA1 hoS (fun j h0 h1 => gAll_60 hg h0 h1)
          refine g_iload (pc := 113) G dX4_shuffle_113 rfl ?_
          refine g_aload_n (pc := 115) G dX4_shuffle_115 rfl ?_
          refine g_getR (pc := 116) G hinX4 oModel rfl 8 (by decide) f31 rfl rfl dX4_shuffle_116 ?_
          refine g_iload_n (pc := 119) G dX4_shuffle_119 rfl ?_
          refine g_iald (pc := 120) G rMsgs (by omega) dX4_shuffle_120 ?_
          refine g_top (ld ((hA2.1 x qx.1 qx.2).1.2.1)) ?_
          refine g_icmp_ge (pc := 121) G (by omega) (by omega) 166 dX4_shuffle_121 (by decide) (fun h121 => ?_) (fun h121 => ?_)
          · -- 121 t
            rw [show (Tf x 0 1 - k).toNat = 0 by clear hR; omega, aLdF] at hR
            --go
            refine g_iload_n (pc := 166) G dX4_shuffle_166 rfl ?_
            refine g_istore (pc := 167) (lv' := [_, _, _, _, _, _, _, _, _, _]) G dX4_shuffle_167 (by decide) rfl ?_
            exact loopD _ n z O1 (aEmp Z) M2 _ _ _ (by omega) (by omega) (Nat.lt_succ_self _) hY2 (emp_inv (lts x) hG.1 Z) (fun q q0 q1 => ⟨(hV q q0 q1).1, by have := (hV q q0 q1).2; omega, by have := (hV q q0 q1).2; omega⟩) hO1 hoS (by rw [← hR])
          · -- 121 f
            rw [show (Tf x 0 1 - k).toNat = (Tf x 0 1 - (k + 1)).toNat + 1 by clear hR; omega, aLdF] at hR
            have hst : aSt (Xf (5 * x + y)) k = (Xf (5 * x + y)) 4 k := by unfold aSt; rw [if_pos ⟨hk0, by clear hR; omega⟩]
            --go
            refine g_aload_n (pc := 124) G dX4_shuffle_124 rfl ?_
            refine g_getR (pc := 125) G hinX4 oModel rfl 17 (by decide) f59 rfl rfl dX4_shuffle_125 ?_
            refine g_sipush (pc := 128) G dX4_shuffle_128 rfl ?_
            refine g_iload (pc := 131) G dX4_shuffle_131 rfl ?_
            refine g_imul (pc := 133) G dX4_shuffle_133 ?_
            refine g_iload (pc := 134) G dX4_shuffle_134 rfl ?_
            refine g_iadd (pc := 136) G dX4_shuffle_136 ?_
            refine g_iald (pc := 137) G rState (by omega) dX4_shuffle_137 ?_
            refine g_top (ld ((hA2.2 (5 * x + y) (by omega) (by omega)).1.2.2.2 k hk0 (by omega))) ?_
            refine g_iconst (pc := 138) G dX4_shuffle_138 ?_
            refine g_icmp_eq (pc := 139) G (by rcases hI.2.2.1.1 k hk0 (by omega) with q | q | q <;> omega) (by first | assumption | omega) 145 dX4_shuffle_139 (by decide) (fun h139 => ?_) (fun h139 => ?_)
            · -- 139 t
              rw [if_pos ⟨hst.trans h139, by clear hR; omega⟩] at hR
              --go
              refine g_aload_n (pc := 145) G dX4_shuffle_145 rfl ?_
              refine g_getR (pc := 146) G hinX4 oModel rfl 26 (by decide) f77 rfl rfl dX4_shuffle_146 ?_
              refine g_iload (pc := 149) G dX4_shuffle_149 rfl ?_
              refine g_iload (pc := 151) G dX4_shuffle_151 rfl ?_
              refine g_iast (pc := 153) G rLeftR (by omega) dX4_shuffle_153 ?_
              refine g_mem (fun M3 L3 hM3 hL3 => ?_)
              obtain rfl : L = L3 := hL3.symm
              have hoS3 := onS_tr hoS (onS_U hM3 (Or.inr (Or.inr (Or.inr (Or.inr rfl)))))
              have hY3 : rX (aEmp Z) M3 10 := rX_of hY2 (fun k h1 h2 => by rw [hM3, sjU_o (by omega)])
              have hO3 : ∀ q, 0 ≤ q → q < n + 1 → M3 23 q = iI ((fun z => if z = n then k else O1 z) q) := by
                intro q q0 q1
                show M3 23 q = iI (if q = n then k else O1 q)
                rw [hM3, sjU_s]
                by_cases hq : q = n
                · rw [if_pos hq, if_pos hq]
                · rw [if_neg hq, if_neg hq]; exact hO1 q q0 (by omega)
              have hV3 : ∀ q, 0 ≤ q → q < n + 1 → 0 ≤ (fun z => if z = n then k else O1 z) q ∧ (fun z => if z = n then k else O1 z) q < k + 1 := by
                intro q q0 q1
                show 0 ≤ (if q = n then k else O1 q) ∧ (if q = n then k else O1 q) < k + 1
                by_cases hq : q = n
                · rw [if_pos hq]; omega
                · rw [if_neg hq]; have := hV q q0 (by omega); omega
              clear hM3
              refine g_iload (pc := 154) G dX4_shuffle_154 rfl ?_
              refine g_iconst (pc := 156) G dX4_shuffle_156 ?_
              refine g_iadd (pc := 157) G dX4_shuffle_157 ?_
              refine g_istore (pc := 158) (lv' := [_, _, _, _, _, _, _, _, _, _]) G dX4_shuffle_158 (by decide) rfl ?_
              refine g_iinc (pc := 160) (lv' := [_, _, _, _, _, _, _, _, _, _]) G dX4_shuffle_160 (by decide) rfl rfl ?_
              refine g_goto (pc := 163) G 113 dX4_shuffle_163 (by decide) ?_
              exact ih (k + 1) (n + 1) _ M3 (by clear hR; omega) (by clear hR; omega) (by clear hR; omega) (by clear hR; omega) (by clear hR; omega) hY3 hO3 hV3 hoS3 hR
            · -- 139 f
              rw [if_neg (fun w => h139 (hst.symm.trans w.1))] at hR
              --go
              refine g_goto (pc := 142) G 160 dX4_shuffle_142 (by decide) ?_
              refine g_iinc (pc := 160) (lv' := [_, _, _, _, _, _, _, _, _, _]) G dX4_shuffle_160 (by decide) rfl rfl ?_
              refine g_goto (pc := 163) G 113 dX4_shuffle_163 (by decide) ?_
              exact ih (k + 1) n O1 M2 (by clear hR; omega) (by clear hR; omega) (by clear hR; omega) hn0 (by clear hR; omega) hY2 hO1 (fun q q0 q1 => ⟨(hV q q0 q1).1, by have := (hV q q0 q1).2; clear hR; omega⟩) hoS hR
      have loopK : ∀ (f : Nat) (k : Int) (M2 : sjM), 0 ≤ k → k ≤ 160 → (160 - k).toNat < f → M2 14 10 = iI 0 → (∀ c, 0 ≤ c → c < 60 → M2 15 (600 + c) = iI 0 ∧ M2 16 (600 + c) = iI 0) → (∀ q, 0 ≤ q → q < k → M2 17 (1600 + q) = iI 0) → onS M1 M2 → J 81 M2 L [some (.ref (ad 0)), some (.int (iI x)), some (.int (iI y)), some (.int (iI z)), some (.int (iI (5 * x + y))), some (.int (iI k)), none, none, none, none] [] := by
        intro f
        induction f with
        | zero => intro k M2 _ _ h; omega
        | succ f ih =>
          intro k M2 hk0 hk1 hf h14 hC hkk hoS
          refine g_iload (pc := 81) G dX4_shuffle_81 rfl ?_
          refine g_sipush (pc := 83) G dX4_shuffle_83 rfl ?_
          refine g_icmp_ge (pc := 86) G (by first | assumption | omega) (by first | assumption | omega) 107 dX4_shuffle_86 (by decide) (fun h86 => ?_) (fun h86 => ?_)
          · -- 86 t
            refine g_iconst (pc := 107) G dX4_shuffle_107 ?_
            refine g_istore (pc := 108) (lv' := [_, _, _, _, _, _, _, _, _, _]) G dX4_shuffle_108 (by decide) rfl ?_
            refine g_iconst (pc := 110) G dX4_shuffle_110 ?_
            refine g_istore (pc := 111) (lv' := [_, _, _, _, _, _, _, _, _, _]) G dX4_shuffle_111 (by decide) rfl ?_
            exact loopL _ 0 0 O M2 (by omega) hm0 (Nat.lt_succ_self _) (by omega) (by omega) (emp_rX Z h14 hC (fun q q0 q1 => hkk q q0 (by omega))) (fun q q0 q1 => by omega) (fun q q0 q1 => by omega) hoS (by rw [Int.sub_zero])
          · -- 86 f
            refine g_aload_n (pc := 89) G dX4_shuffle_89 rfl ?_
            refine g_getR (pc := 90) G hinX4 oModel rfl 17 (by decide) f59 rfl rfl dX4_shuffle_90 ?_
            refine g_sipush (pc := 93) G dX4_shuffle_93 rfl ?_
            refine g_iload (pc := 96) G dX4_shuffle_96 rfl ?_
            refine g_iadd (pc := 98) G dX4_shuffle_98 ?_
            refine g_iconst (pc := 99) G dX4_shuffle_99 ?_
            refine g_iast (pc := 100) G rState (by omega) dX4_shuffle_100 ?_
            refine g_mem (fun M3 L3 hM3 hL3 => ?_)
            obtain rfl : L = L3 := hL3.symm
            have hoS3 := onS_tr hoS (onS_U hM3 (Or.inr (Or.inr (Or.inr (Or.inl ⟨rfl, by omega⟩)))))
            have h143 : M3 14 10 = iI 0 := by rw [hM3, sjU_o (by omega)]; exact h14
            have hC3 : ∀ c, 0 ≤ c → c < 60 → M3 15 (600 + c) = iI 0 ∧ M3 16 (600 + c) = iI 0 := fun c c0 c1 => by rw [hM3, sjU_o (by omega), sjU_o (by omega)]; exact hC c c0 c1
            have hk3 : ∀ q, 0 ≤ q → q < k + 1 → M3 17 (1600 + q) = iI 0 := by
              intro q q0 q1
              rw [hM3, sjU_s]
              by_cases hq : q = k
              · rw [if_pos (by omega)]
              · rw [if_neg (by omega)]; exact hkk q q0 (by omega)
            clear hM3
            refine g_iinc (pc := 101) (lv' := [_, _, _, _, _, _, _, _, _, _]) G dX4_shuffle_101 (by decide) rfl rfl ?_
            refine g_goto (pc := 104) G 81 dX4_shuffle_104 (by decide) ?_
            exact ih (k + 1) M3 (by omega) (by omega) (by omega) h143 hC3 hk3 hoS3
      have loopC : ∀ (f : Nat) (c : Int) (M2 : sjM), 0 ≤ c → c ≤ 60 → (60 - c).toNat < f → M2 14 10 = iI 0 → (∀ q, 0 ≤ q → q < c → M2 15 (600 + q) = iI 0 ∧ M2 16 (600 + q) = iI 0) → onS M1 M2 → J 41 M2 L [some (.ref (ad 0)), some (.int (iI x)), some (.int (iI y)), some (.int (iI z)), some (.int (iI (5 * x + y))), some (.int (iI c)), none, none, none, none] [] := by
        intro f
        induction f with
        | zero => intro c M2 _ _ h; omega
        | succ f ih =>
          intro c M2 hc0 hc1 hf h14 hC hoS
          refine g_iload (pc := 41) G dX4_shuffle_41 rfl ?_
          refine g_bipush (pc := 43) G dX4_shuffle_43 rfl ?_
          refine g_icmp_ge (pc := 45) G (by first | assumption | omega) (by first | assumption | omega) 78 dX4_shuffle_45 (by decide) (fun h45 => ?_) (fun h45 => ?_)
          · -- 45 t
            refine g_iconst (pc := 78) G dX4_shuffle_78 ?_
            refine g_istore (pc := 79) (lv' := [_, _, _, _, _, _, _, _, _, _]) G dX4_shuffle_79 (by decide) rfl ?_
            exact loopK _ 0 M2 (by omega) (by omega) (Nat.lt_succ_self _) h14 (fun q q0 q1 => hC q q0 (by omega)) (fun q q0 q1 => by omega) hoS
          · -- 45 f
            refine g_aload_n (pc := 48) G dX4_shuffle_48 rfl ?_
            refine g_getR (pc := 49) G hinX4 oModel rfl 15 (by decide) f53 rfl rfl dX4_shuffle_49 ?_
            refine g_sipush (pc := 52) G dX4_shuffle_52 rfl ?_
            refine g_iload (pc := 55) G dX4_shuffle_55 rfl ?_
            refine g_iadd (pc := 57) G dX4_shuffle_57 ?_
            refine g_iconst (pc := 58) G dX4_shuffle_58 ?_
            refine g_zast (pc := 59) G rHas (by omega) rfl dX4_shuffle_59 ?_
            refine g_mem (fun M3 L3 hM3 hL3 => ?_)
            obtain rfl : L = L3 := hL3.symm
            refine g_aload_n (pc := 60) G dX4_shuffle_60 rfl ?_
            refine g_getR (pc := 61) G hinX4 oModel rfl 16 (by decide) f56 rfl rfl dX4_shuffle_61 ?_
            refine g_sipush (pc := 64) G dX4_shuffle_64 rfl ?_
            refine g_iload (pc := 67) G dX4_shuffle_67 rfl ?_
            refine g_iadd (pc := 69) G dX4_shuffle_69 ?_
            refine g_iconst (pc := 70) G dX4_shuffle_70 ?_
            refine g_zast (pc := 71) G rErased (by omega) rfl dX4_shuffle_71 ?_
            refine g_mem (fun M4 L4 hM4 hL4 => ?_)
            obtain rfl : L = L4 := hL4.symm
            have hoS4 := onS_tr (onS_tr hoS (onS_U hM3 (Or.inr (Or.inl ⟨rfl, by omega⟩)))) (onS_U hM4 (Or.inr (Or.inr (Or.inl ⟨rfl, by omega⟩))))
            have h144 : M4 14 10 = iI 0 := by rw [hM4, sjU_o (by omega), hM3, sjU_o (by omega)]; exact h14
            have hC4 : ∀ q, 0 ≤ q → q < c + 1 → M4 15 (600 + q) = iI 0 ∧ M4 16 (600 + q) = iI 0 := by
              intro q q0 q1
              rw [hM4, sjU_o (by omega), sjU_s, hM3, sjU_s, sjU_o (by omega)]
              by_cases hq : q = c
              · rw [if_pos (by omega), if_pos (by omega)]; exact ⟨rfl, rfl⟩
              · rw [if_neg (by omega), if_neg (by omega)]; exact hC q q0 (by omega)
            clear hM3 hM4
            refine g_iinc (pc := 72) (lv' := [_, _, _, _, _, _, _, _, _, _]) G dX4_shuffle_72 (by decide) rfl rfl ?_
            refine g_goto (pc := 75) G 41 dX4_shuffle_75 (by decide) ?_
            exact ih (c + 1) M4 (by omega) (by omega) (by omega) h144 hC4 hoS4
      refine g_iconst (pc := 23) G dX4_shuffle_23 ?_
      refine g_iload_n (pc := 24) G dX4_shuffle_24 rfl ?_
      refine g_imul (pc := 25) G dX4_shuffle_25 ?_
      refine g_iload_n (pc := 26) G dX4_shuffle_26 rfl ?_
      refine g_iadd (pc := 27) G dX4_shuffle_27 ?_
      refine g_istore (pc := 28) (lv' := [_, _, _, _, _, _, _, _, _, _]) G dX4_shuffle_28 (by decide) rfl ?_
      refine g_aload_n (pc := 30) G dX4_shuffle_30 rfl ?_
      refine g_getR (pc := 31) G hinX4 oModel rfl 14 (by decide) f50 rfl rfl dX4_shuffle_31 ?_
      refine g_bipush (pc := 34) G dX4_shuffle_34 rfl ?_
      refine g_iconst (pc := 36) G dX4_shuffle_36 ?_
      refine g_iast (pc := 37) G rMany (by omega) dX4_shuffle_37 ?_
      refine g_mem (fun M2 L2 hM2 hL2 => ?_)
      obtain rfl : L = L2 := hL2.symm
      have h14 : M2 14 10 = iI 0 := by rw [hM2, sjU_s, if_pos rfl]
      have hoS := onS_U hM2 (Or.inl ⟨rfl, by omega⟩)
      refine g_iconst (pc := 38) G dX4_shuffle_38 ?_
      refine g_istore (pc := 39) (lv' := [_, _, _, _, _, _, _, _, _, _]) G dX4_shuffle_39 (by decide) rfl ?_
      exact loopC _ 0 M2 (by omega) (by omega) (Nat.lt_succ_self _) h14 (fun q q0 q1 => by omega) hoS
    · rw [if_neg qy]
      refine g_if_ne (pc := 18) G (by omega) 23 dX4_shuffle_18 (by decide) (fun h => absurd h (by decide)) (fun _ => ?_)
      refine g_iconst (pc := 21) G dX4_shuffle_21 ?_
      refine g_zret (pc := 22) G rfl dX4_shuffle_22 ?_
      refine ⟨rfl, hK1, hA1, ?_⟩
      rw [if_neg]
      intro w
      first
      | exact qx ⟨w.1, w.2.1⟩
      | exact qy ⟨w.2.2.1, w.2.2.2⟩
  · rw [if_neg qx]
    refine g_if_eq (pc := 10) G (by omega) 21 dX4_shuffle_10 (by decide) (fun _ => ?_) (fun h => absurd h (by decide))
    refine g_iconst (pc := 21) G dX4_shuffle_21 ?_
    refine g_zret (pc := 22) G rfl dX4_shuffle_22 ?_
    refine ⟨rfl, hK1, hA1, ?_⟩
    rw [if_neg]
    intro w
    first
    | exact qx ⟨w.1, w.2.1⟩
    | exact qy ⟨w.2.2.1, w.2.2.2⟩
