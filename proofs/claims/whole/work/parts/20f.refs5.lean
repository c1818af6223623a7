/-- what was LOOKED at and INTEGRATED goes along with the copy's numbers -/
def rLk (M : sjM) (X : aS) (M' : sjM) (Y : aS) : Prop := M' 0 1 - iI (Y 0 5) = M 0 1 - iI (X 0 5) ∧ M' 0 2 - iI (Y 0 6) = M 0 2 - iI (X 0 6)
theorem rLk_tr {M M1 M2 : sjM} {X Y Z : aS} (h1 : rLk M X M1 Y) (h2 : rLk M1 Y M2 Z) : rLk M X M2 Z := ⟨h2.1.trans h1.1, h2.2.trans h1.2⟩
theorem i32_a (a b c : Int32) : (a + c) - (b + c) = a - b := by
  rw [Int32.sub_eq_add_neg, Int32.sub_eq_add_neg, Int32.neg_add, Int32.sub_eq_add_neg, Int32.add_assoc, ← Int32.add_assoc c, Int32.add_comm c, Int32.add_assoc (-b), Int32.add_right_neg, Int32.add_zero]
theorem wr_I (z : Int) : iI (wr z) = iI z := iI_of _
theorem wr_2 (x : Int32) (d : Int) : iI (x.toInt + d) = x + iI d := by rw [← iI_add, iI_of]
set_option maxHeartbeats 4000000 in
set_option maxRecDepth 100000 in
theorem kX4_integrate {l : Launch} {D : va_G} {cI cZ cJ cT cC : ClassId} {ad : Nat → Nat} {A : Nat → Prop} (hD : ∀ g : Nat → va_E, va_D A (sjW 26 ad g)) (i : Int) (hi0 : 0 ≤ i) (hi1 : i ≤ 10) (t : Int) (ht0 : 0 ≤ t) (ht1 : t < 2) (c : Int) (M : sjM) (L : sjL) (T X : aS) (lt : Int → Int → Prop) (hX : rX X M i) (hI : cpOK T X ∧ srtL lt X) (hT : rT T M t) (hG : gT T) (hO : gO T (decide (t = 0)) lt) (hfree : gFree T X) (hc : aHasC T c) (hn : X 2 c = -2) (h60 : X 0 0 < 60) (hil : inX X (aLeft T c)) (hir : inX X (aRight T c)) : Met l yX4_integrate wsX4_integrate { frames := 2, cells := 0, slots := 0, locals := 53 } (sjA D cI cZ cJ cT cC 26 ad (kR cI cZ cJ ad) [.ref (ad 0), .int (iI i), .int (iI t), .int (iI c)] M L) (sjZ D 26 ad (kR cI cZ cJ ad) A (fun v M' L' => v = none ∧ L = L' ∧ onR M M' i ∧ rX (aIns X c (aPut T (decide (t = 0)) X c).1) M' i ∧ M' 0 1 = iI ((M 0 1).toInt + (aPut T (decide (t = 0)) X c).2) ∧ M' 0 2 = iI ((M 0 2).toInt + 1))) 0 0 A := by
  refine g_met (cc := cX4_integrate) (maxL := 4) (ret := none) (lv := [_, _, _, _]) (by decide) rfl hD kR_loc (List.forall_mem_cons.mpr ⟨rfl, List.forall_mem_cons.mpr ⟨rfl, List.forall_mem_cons.mpr ⟨rfl, List.forall_mem_cons.mpr ⟨rfl, fun _ h => absurd h List.not_mem_nil⟩⟩⟩⟩) (Nat.le_of_ble_eq_true rfl) rfl ?_
  intro J G
  have f91 : Cond.fieldLink RX4 91 "SharedPageModel" "integrated" "I" ∈ wsX4_integrate := by decide +kernel
  have hinX4 : ∀ w ∈ u_ws RX4 TX4 29, w ∈ wsX4_integrate := fun w h => List.mem_cons_of_mem _ (List.mem_append_right _ h)
  refine g_aload_n (pc := 0) G dX4_integrate_0 rfl ?_
  refine g_aload_n (pc := 1) G dX4_integrate_1 rfl ?_
  refine g_getI (pc := 2) G hinX4 oModel rfl 20 (by decide) f91 rfl rfl dX4_integrate_2 ?_
  refine g_iconst (pc := 5) G dX4_integrate_5 ?_
  refine g_iadd (pc := 6) G dX4_integrate_6 ?_
  refine g_put (pc := 7) G tyX4 tyX4_ok nmX4 hinX4 oModel rfl 20 (by decide) pModel2 f91 rfl rfl rfl dX4_integrate_7 ?_
  refine g_mem (fun M1 L1 hM1 hL1 => ?_)
  obtain rfl : L = L1 := hL1.symm
  have hX1 : rX X M1 i := rX_of hX (fun k h1 h2 => by rw [hM1, sjU_o (by omega)])
  have hT1 : rT T M1 t := rT_of hT (fun k h1 h2 => by rw [hM1, sjU_o (by omega)])
  have hoM1 : onR M M1 i := by
    refine ⟨fun k h1 h2 => by rw [hM1, sjU_o (by omega)], ⟨by rw [hM1, sjU_o (by omega)], by rw [hM1, sjU_o (by omega)], by rw [hM1, sjU_o (by omega)], by rw [hM1, sjU_o (by omega)], by rw [hM1, sjU_s, if_neg (by omega)], by rw [hM1, sjU_s, if_neg (by omega)]⟩, fun z _ => ⟨by rw [hM1, sjU_o (by omega)], by rw [hM1, sjU_o (by omega)], by rw [hM1, sjU_o (by omega)]⟩, fun z _ => by rw [hM1, sjU_o (by omega)], fun z _ => by rw [hM1, sjU_o (by omega)]⟩
  refine g_iload_n (pc := 10) G dX4_integrate_10 rfl ?_
  refine g_if_ne (pc := 11) G (by omega) 23 dX4_integrate_11 (by decide) (fun h11 => ?_) (fun h11 => ?_)
  · -- 11 t
    obtain rfl : t = 1 := by omega
    rcases hO with ⟨w, _⟩ | ⟨_, ρ, hy, rfl⟩
    · exact absurd w (by decide)
    have hput : aPut T (decide ((1 : Int) = 0)) X c = aYata T X c := rfl
    --go
    refine g_aload_n (pc := 23) G dX4_integrate_23 rfl ?_
    refine g_iload_n (pc := 24) G dX4_integrate_24 rfl ?_
    refine g_iload_n (pc := 25) G dX4_integrate_25 rfl ?_
    refine g_call (pc := 26) (n := 2) (As := [_, _]) G (kX4_yata hD i hi0 hi1 c M1 L T X ρ hX1 hI hT1 hG hy hfree hc hn h60 hil hir) gX4_integrate_X4_yata oModel rfl rfl hdX4_yata rfl rfl ⟨Nat.le_of_ble_eq_true rfl, Nat.le_of_ble_eq_true rfl⟩ rfl rfl (Nat.le_of_ble_eq_true rfl) dX4_integrate_26 ?_
    rintro _ M2 _ ⟨rfl, rfl, hon, hx2, h1, h2⟩
    refine g_vret (pc := 29) G dX4_integrate_29 ?_
    refine ⟨rfl, rfl, onR_tr hoM1 hon, ?_, ?_, ?_⟩
    · rw [hput]; exact hx2
    · rw [hput, h1, hM1, sjU_s, if_neg (by omega)]
    · rw [h2, hM1, sjU_s, if_pos rfl]
  · -- 11 f
    obtain rfl : t = 0 := by omega
    rcases hO with ⟨_, key, hw, rfl⟩ | ⟨w, _⟩
    rotate_left
    · exact absurd w (by decide)
    have hput : aPut T (decide ((0 : Int) = 0)) X c = aWoot T X c := rfl
    --go
    refine g_aload_n (pc := 14) G dX4_integrate_14 rfl ?_
    refine g_iload_n (pc := 15) G dX4_integrate_15 rfl ?_
    refine g_iload_n (pc := 16) G dX4_integrate_16 rfl ?_
    refine g_call (pc := 17) (n := 2) (As := [_, _]) G (kX4_woot hD i hi0 hi1 c M1 L T X key hX1 hI hT1 hG hw hc hn h60 hil hir) gX4_integrate_X4_woot oModel rfl rfl hdX4_woot rfl rfl ⟨Nat.le_of_ble_eq_true rfl, Nat.le_of_ble_eq_true rfl⟩ rfl rfl (Nat.le_of_ble_eq_true rfl) dX4_integrate_17 ?_
    rintro _ M2 _ ⟨rfl, rfl, hon, hx2, h1, h2⟩
    refine g_goto (pc := 20) G 29 dX4_integrate_20 (by decide) ?_
    refine g_vret (pc := 29) G dX4_integrate_29 ?_
    refine ⟨rfl, rfl, onR_tr hoM1 hon, ?_, ?_, ?_⟩
    · rw [hput]; exact hx2
    · rw [hput, h1, hM1, sjU_s, if_neg (by omega)]
    · rw [h2, hM1, sjU_s, if_pos rfl]
theorem mk_rX {X : aS} {M M1 : sjM} {i k : Int} (hX : rX X M i) (hk0 : 0 ≤ k) (hk1 : k < 160) (h : M1 = sjU M 17 (160 * i + k) (iI 2)) : rX (aMk X k) M1 i := by
  obtain ⟨x1, x2, x3, x4⟩ := hX
  refine ⟨by rw [h, sjU_o (by omega), aMk_0, if_neg (by omega)]; exact x1, fun q q0 q1 => ?_, fun z z0 z1 => ?_, fun z z0 z1 => ?_⟩
  · rw [aMk_0, if_neg (by omega)] at q1
    rw [h, sjU_o (by omega), aMk_1]; exact x2 q q0 q1
  · rw [h, sjU_o (by omega), sjU_o (by omega), aMk_2, aMk_3]; exact x3 z z0 z1
  · rw [h, sjU_s, aMk_4, st_up]
    by_cases hz : z = k
    · rw [if_pos (by omega), if_pos hz]
    · rw [if_neg (by omega), if_neg hz]; exact x4 z z0 z1
theorem mk_on {M M1 : sjM} {i k : Int} {x : Int32} (hk0 : 0 ≤ k) (hk1 : k < 160) (h : M1 = sjU M 17 (160 * i + k) x) : onR M M1 i := by
  refine ⟨fun k h1 h2 => by rw [h, sjU_o (by omega)], ⟨by rw [h, sjU_o (by omega)], by rw [h, sjU_o (by omega)], by rw [h, sjU_o (by omega)], by rw [h, sjU_o (by omega)], by rw [h, sjU_o (by omega)], by rw [h, sjU_o (by omega)]⟩, fun z _ => ⟨by rw [h, sjU_o (by omega)], by rw [h, sjU_o (by omega)], by rw [h, sjU_o (by omega)]⟩, fun z _ => by rw [h, sjU_o (by omega)], fun z hz => by rw [h, sjU_s, if_neg (by omega)]⟩
theorem er_rX {X : aS} {M M1 : sjM} {i c : Int} (hX : rX X M i) (hc0 : 0 ≤ c) (hc1 : c < 60) (hp : ¬ X 2 c = -2) (h3 : X 3 c = 0 ∨ X 3 c = 1) (h : M1 = sjU M 16 (60 * i + c) (iI 1)) : rX (aStrike X c) M1 i := by
  obtain ⟨x1, x2, x3, x4⟩ := hX
  have e0 : aStrike X c 0 0 = X 0 0 := by unfold aStrike; split; rw [aUp_ne (by omega), aUp_ne (by omega)]; rfl
  have e1 : aStrike X c 1 = X 1 := by funext z; unfold aStrike; split; rw [aUp_ne (by omega), aUp_ne (by omega)]; rfl
  have e3 : ∀ z, aStrike X c 3 z = if z = c then 1 else X 3 z := by
    intro z
    unfold aStrike
    split
    · rw [aUp_ne (by omega)]
      by_cases hz : z = c
      · rw [hz, aUp_eq, if_pos rfl]
      · rw [aUp_ne (fun w => hz w.2), if_neg hz]
    · rename_i hs
      by_cases hz : z = c
      · rw [if_pos hz, hz]
        rcases h3 with w | w
        · exact absurd ⟨hc0, hc1, hp, w⟩ hs
        · exact w
      · rw [if_neg hz]
  refine ⟨by rw [h, sjU_o (by omega), e0]; exact x1, fun q q0 q1 => ?_, fun z z0 z1 => ⟨?_, ?_⟩, fun z z0 z1 => ?_⟩
  · rw [e0] at q1
    rw [h, sjU_o (by omega), e1]; exact x2 q q0 q1
  · rw [h, sjU_o (by omega), strike_2]; exact (x3 z z0 z1).1
  · rw [h, sjU_s, e3]
    by_cases hz : z = c
    · rw [if_pos (by omega), if_pos hz]
    · rw [if_neg (by omega), if_neg hz]; exact (x3 z z0 z1).2
  · rw [h, sjU_o (by omega), strike_4]; exact x4 z z0 z1
theorem er_on {M M1 : sjM} {i c : Int} {x : Int32} (hc0 : 0 ≤ c) (hc1 : c < 60) (h : M1 = sjU M 16 (60 * i + c) x) : onR M M1 i := by
  refine ⟨fun k h1 h2 => by rw [h, sjU_o (by omega)], ⟨by rw [h, sjU_o (by omega)], by rw [h, sjU_o (by omega)], by rw [h, sjU_o (by omega)], by rw [h, sjU_o (by omega)], by rw [h, sjU_o (by omega)], by rw [h, sjU_o (by omega)]⟩, fun z hz => ⟨by rw [h, sjU_o (by omega)], by rw [h, sjU_o (by omega)], by rw [h, sjU_s, if_neg (by omega)]⟩, fun z _ => by rw [h, sjU_o (by omega)], fun z hz => by rw [h, sjU_o (by omega)]⟩
theorem strike_0 {X : aS} {c z : Int} (hz : ¬ z = 1) : aStrike X c 0 z = X 0 z := by
  unfold aStrike; split
  · rw [aUp_ne (fun w => hz w.2), aUp_ne (by omega)]
  · rfl
theorem free_of {T X Y : aS} (h : gFree T X) (h0 : Y 0 0 = X 0 0) (h1 : Y 1 = X 1) (h2 : Y 2 = X 2) : gFree T Y := by
  intro q q0 q1
  rw [h1, aPl_of h0 h2, aPl_of h0 h2]
  exact h q q0 (by rw [← h0]; exact q1)
set_option maxHeartbeats 4000000 in
set_option maxRecDepth 100000 in
theorem kX4_does {l : Launch} {D : va_G} {cI cZ cJ cT cC : ClassId} {ad : Nat → Nat} {A : Nat → Prop} (hD : ∀ g : Nat → va_E, va_D A (sjW 26 ad g)) (i : Int) (hi0 : 0 ≤ i) (hi1 : i ≤ 10) (t : Int) (ht0 : 0 ≤ t) (ht1 : t < 2) (k : Int) (M : sjM) (L : sjL) (T X : aS) (lt : Int → Int → Prop) (hX : rX X M i) (hI : cpOK T X ∧ srtL lt X) (hT : rT T M t) (hG : gT T) (hO : gO T (decide (t = 0)) lt) (hfree : gFree T X) (hdo : doOK T (decide (t = 0)) X k) (h3 : ∀ c, 0 ≤ c → c < 60 → X 3 c = 0 ∨ X 3 c = 1) (hpr : T 6 k = 1 → ¬ X 2 (T 8 k) = -2) : Met l yX4_does wsX4_does { frames := 3, cells := 0, slots := 0, locals := 76 } (sjA D cI cZ cJ cT cC 26 ad (kR cI cZ cJ ad) [.ref (ad 0), .int (iI i), .int (iI t), .int (iI k)] M L) (sjZ D 26 ad (kR cI cZ cJ ad) A (fun v M' L' => v = none ∧ L = L' ∧ onR M M' i ∧ rX (aDo T (decide (t = 0)) X k) M' i ∧ rLk M X M' (aDo T (decide (t = 0)) X k))) 0 0 A := by
  refine g_met (cc := cX4_does) (maxL := 5) (ret := none) (lv := [_, _, _, _, _]) (by decide) rfl hD kR_loc (List.forall_mem_cons.mpr ⟨rfl, List.forall_mem_cons.mpr ⟨rfl, List.forall_mem_cons.mpr ⟨rfl, List.forall_mem_cons.mpr ⟨rfl, fun _ h => absurd h List.not_mem_nil⟩⟩⟩⟩) (Nat.le_of_ble_eq_true rfl) rfl ?_
  intro J G
  have f37 : Cond.fieldLink RX4 37 "SharedPageModel" "isErase" "[Z" ∈ wsX4_does := by decide +kernel
  have f41 : Cond.fieldLink RX4 41 "SharedPageModel" "charOf" "[I" ∈ wsX4_does := by decide +kernel
  have f56 : Cond.fieldLink RX4 56 "SharedPageModel" "erased" "[Z" ∈ wsX4_does := by decide +kernel
  have f59 : Cond.fieldLink RX4 59 "SharedPageModel" "state" "[I" ∈ wsX4_does := by decide +kernel
  have hinX4 : ∀ w ∈ u_ws RX4 TX4 29, w ∈ wsX4_does := fun w h => List.mem_cons_of_mem _ (List.mem_append_right _ h)
  obtain ⟨hk, hcp, hc8, -, -, -, -, -, -, hins⟩ := id hdo
  have hk0 := hk.1
  have hk1 := hk.2.2
  have hc0 := hc8.1
  have hc1 := hc8.2.2
  have h6 := (hG.1.2.2.2.2.2.1 k hk).1
  refine g_aload_n (pc := 0) G dX4_does_0 rfl ?_
  refine g_getR (pc := 1) G hinX4 oModel rfl 11 (by decide) f41 rfl rfl dX4_does_1 ?_
  refine g_sipush (pc := 4) G dX4_does_4 rfl ?_
  refine g_iload_n (pc := 7) G dX4_does_7 rfl ?_
  refine g_imul (pc := 8) G dX4_does_8 ?_
  refine g_iload_n (pc := 9) G dX4_does_9 rfl ?_
  refine g_iadd (pc := 10) G dX4_does_10 ?_
  refine g_iald (pc := 11) G rChar (by omega) dX4_does_11 ?_
  refine g_top (ld ((hT.2.2.2 k hk0 hk1).2.1)) ?_
  refine g_istore (pc := 12) (lv' := [_, _, _, _, _]) G dX4_does_12 (by decide) rfl ?_
  refine g_aload_n (pc := 14) G dX4_does_14 rfl ?_
  refine g_getR (pc := 15) G hinX4 oModel rfl 17 (by decide) f59 rfl rfl dX4_does_15 ?_
  refine g_sipush (pc := 18) G dX4_does_18 rfl ?_
  refine g_iload_n (pc := 21) G dX4_does_21 rfl ?_
  refine g_imul (pc := 22) G dX4_does_22 ?_
  refine g_iload_n (pc := 23) G dX4_does_23 rfl ?_
  refine g_iadd (pc := 24) G dX4_does_24 ?_
  refine g_iconst (pc := 25) G dX4_does_25 ?_
  refine g_iast (pc := 26) G rState (by omega) dX4_does_26 ?_
  refine g_mem (fun M1 L1 hM1 hL1 => ?_)
  obtain rfl : L = L1 := hL1.symm
  have hX1 := mk_rX hX hk0 hk1 hM1
  have hT1 : rT T M1 t := rT_of hT (fun k h1 h2 => by rw [hM1, sjU_o (by omega)])
  have ho1 := mk_on hk0 hk1 hM1
  have h10 : M1 0 = M 0 := by rw [hM1, sjU_o (by omega)]
  clear hM1
  refine g_aload_n (pc := 27) G dX4_does_27 rfl ?_
  refine g_getR (pc := 28) G hinX4 oModel rfl 10 (by decide) f37 rfl rfl dX4_does_28 ?_
  refine g_sipush (pc := 31) G dX4_does_31 rfl ?_
  refine g_iload_n (pc := 34) G dX4_does_34 rfl ?_
  refine g_imul (pc := 35) G dX4_does_35 ?_
  refine g_iload_n (pc := 36) G dX4_does_36 rfl ?_
  refine g_iadd (pc := 37) G dX4_does_37 ?_
  refine g_zald (pc := 38) G rIsE (by omega) dX4_does_38 ?_
  refine g_top (ld ((hT1.2.2.2 k hk0 hk1).1)) ?_
  refine g_if_eq (pc := 39) G (by rcases h6 with w | w <;> omega) 58 dX4_does_39 (by decide) (fun h39 => ?_) (fun h39 => ?_)
  · -- 39 t
    obtain ⟨i1, i2, i3, i4, i5, i6⟩ := hins (by omega)
    have m0 : aMk X k 0 0 = X 0 0 := by rw [aMk_0, if_neg (by omega)]
    have hcpM : cpOK T (aMk X k) := cpOK_of hI.1 m0 (aMk_1 X k) (aMk_2 X k)
    have hinx : ∀ a, inX X a → inX (aMk X k) a := fun a ha => by unfold inX at ha ⊢; rw [aMk_2]; exact ha
    have hdoI : (aDo T (decide (t = 0)) X k) = aIns (aUp (aMk X k) 0 5 (wr (X 0 5 + (aPut T (decide (t = 0)) (aMk X k) (T 8 k)).2))) (T 8 k) (aPut T (decide (t = 0)) (aMk X k) (T 8 k)).1 := by unfold aDo; rw [kind_in hk, subj_in hk, if_neg (by omega)]
    --go
    refine g_aload_n (pc := 58) G dX4_does_58 rfl ?_
    refine g_iload_n (pc := 59) G dX4_does_59 rfl ?_
    refine g_iload_n (pc := 60) G dX4_does_60 rfl ?_
    refine g_iload (pc := 61) G dX4_does_61 rfl ?_
    refine g_call (pc := 63) (n := 3) (As := [_, _, _]) G (kX4_integrate hD i hi0 hi1 t ht0 ht1 (T 8 k) M1 L T (aMk X k) lt hX1 ⟨hcpM, srtL_of hI.2 m0 (aMk_1 X k)⟩ hT1 hG hO (free_of hfree m0 (aMk_1 X k) (aMk_2 X k)) hc8 (by rw [aMk_2]; exact i1) (by rw [m0]; exact i2) (hinx _ i3) (hinx _ i4)) gX4_does_X4_integrate oModel rfl rfl hdX4_integrate rfl rfl ⟨Nat.le_of_ble_eq_true rfl, Nat.le_of_ble_eq_true rfl⟩ rfl rfl (Nat.le_of_ble_eq_true rfl) dX4_does_63 ?_
    rintro _ M2 _ ⟨rfl, rfl, hon, hx2, h1, h2⟩
    refine g_vret (pc := 66) G dX4_does_66 ?_
    first
    | (refine ⟨rfl, rfl, ho2, by rw [hdoE]; exact hX2, ?_⟩
       rw [hdoE]
       unfold rLk
       rw [strike_0 (by omega), strike_0 (by omega), aMk_0, aMk_0, if_neg (by omega), if_neg (by omega), h20]
       exact ⟨rfl, rfl⟩)
    | (refine ⟨rfl, rfl, onR_tr ho1 hon, ?_, ?_⟩
       · rw [hdoI]
         refine rX_X hx2 ?_ ?_ ?_ ?_ ?_
         · rw [aIns_0, aIns_0, if_neg (by omega), if_neg (by omega), if_pos rfl, if_neg (by omega), if_neg (by omega), if_pos rfl, up0_0, if_neg (by omega)]
         · funext z; simp [aIns_1, up0_1, up0_0]
         · funext z; rw [aIns_2, aIns_2, up0_2]
         · funext z; rw [aIns_3, aIns_3, up0_3]
         · funext z; rw [aIns_4, aIns_4, up0_4]
       · rw [hdoI]
         unfold rLk
         rw [aIns_0, aIns_0, if_neg (by omega), if_neg (by omega), if_neg (by omega), if_pos rfl, up0_0, if_pos rfl, up0_0, if_neg (by omega), aMk_0, if_neg (by omega), h1, h2, h10, wr_I, wr_2, wr_2, ← iI_add, ← iI_add]
         exact ⟨i32_a _ _ _, i32_a _ _ _⟩)
  · -- 39 f
    refine g_aload_n (pc := 42) G dX4_does_42 rfl ?_
    refine g_getR (pc := 43) G hinX4 oModel rfl 16 (by decide) f56 rfl rfl dX4_does_43 ?_
    refine g_bipush (pc := 46) G dX4_does_46 rfl ?_
    refine g_iload_n (pc := 48) G dX4_does_48 rfl ?_
    refine g_imul (pc := 49) G dX4_does_49 ?_
    refine g_iload (pc := 50) G dX4_does_50 rfl ?_
    refine g_iadd (pc := 52) G dX4_does_52 ?_
    refine g_iconst (pc := 53) G dX4_does_53 ?_
    refine g_zast (pc := 54) G rErased (by omega) rfl dX4_does_54 ?_
    refine g_mem (fun M2 L2 hM2 hL2 => ?_)
    obtain rfl : L = L2 := hL2.symm
    have hX2 := er_rX hX1 hc0 hc1 (by rw [aMk_2]; exact hpr (by omega)) (by rw [aMk_3]; exact h3 _ hc0 hc1) hM2
    have ho2 := onR_tr ho1 (er_on hc0 hc1 hM2)
    have h20 : M2 0 = M 0 := by rw [hM2, sjU_o (by omega)]; exact h10
    have hdoE : (aDo T (decide (t = 0)) X k) = aStrike (aMk X k) (T 8 k) := by unfold aDo; rw [kind_in hk, subj_in hk, if_pos (by omega)]
    refine g_goto (pc := 55) G 66 dX4_does_55 (by decide) ?_
    refine g_vret (pc := 66) G dX4_does_66 ?_
    first
    | (refine ⟨rfl, rfl, ho2, by rw [hdoE]; exact hX2, ?_⟩
       rw [hdoE]
       unfold rLk
       rw [strike_0 (by omega), strike_0 (by omega), aMk_0, aMk_0, if_neg (by omega), if_neg (by omega), h20]
       exact ⟨rfl, rfl⟩)
    | (refine ⟨rfl, rfl, onR_tr ho1 hon, ?_, ?_⟩
       · rw [hdoI]
         refine rX_X hx2 ?_ ?_ ?_ ?_ ?_
         · rw [aIns_0, aIns_0, if_neg (by omega), if_neg (by omega), if_pos rfl, if_neg (by omega), if_neg (by omega), if_pos rfl, up0_0, if_neg (by omega)]
         · funext z; simp [aIns_1, up0_1, up0_0]
         · funext z; rw [aIns_2, aIns_2, up0_2]
         · funext z; rw [aIns_3, aIns_3, up0_3]
         · funext z; rw [aIns_4, aIns_4, up0_4]
       · rw [hdoI]
         unfold rLk
         rw [aIns_0, aIns_0, if_neg (by omega), if_neg (by omega), if_neg (by omega), if_pos rfl, up0_0, if_pos rfl, up0_0, if_neg (by omega), aMk_0, if_neg (by omega), h1, h2, h10, wr_I, wr_2, wr_2, ← iI_add, ← iI_add]
         exact ⟨i32_a _ _ _, i32_a _ _ _⟩)
