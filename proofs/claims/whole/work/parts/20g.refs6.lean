theorem readyF_at {T X : aS} {j : Int} (hr : aSt X j = 1 ∧ aCan T X j) : ∀ (n : Nat) (k : Int), (∀ q, k ≤ q → q < j → ¬ (aSt X q = 1 ∧ aCan T X q)) → k ≤ j → j < k + n → aReadyF T X n k = j
  | 0, k, _, h1, h2 => by omega
  | n + 1, k, h, h1, h2 => by
    rw [aReadyF]
    by_cases hk : k = j
    · rw [if_pos (by rw [hk]; exact hr), hk]
    · rw [if_neg (h k (Int.le_refl _) (by omega))]
      exact readyF_at hr n (k + 1) (fun q q0 q1 => h q (by omega) q1) (by omega) (by omega)
theorem ready_at {T X : aS} {lt : Int → Int → Prop} (ht : tInv T) (hX : cInv T lt X) {j : Int} (h0 : 0 ≤ j) (h1 : j < T 0 1) (hs : X 4 j = 1) (hc : aCan T X j) (hb : ∀ q, 0 ≤ q → q < j → ¬ (aSt X q = 1 ∧ aCan T X q)) : aReady T X = j := by
  obtain ⟨t0, t1, t2, t3, t4⟩ := ht
  have h9 := cn_pos (f := fun k => iq (X 4 k) 1) 160 (fun q _ _ => iq_01 _ _) h0 (show j < 160 by omega) (by rw [hs]; rfl)
  have := hX.2.2.2.2
  unfold nSt at this
  unfold aReady
  rw [if_neg (by omega)]
  exact readyF_at ⟨by unfold aSt; rw [if_pos ⟨h0, by omega⟩]; exact hs, hc⟩ _ 0 hb h0 (by omega)
theorem settle_no {T X : aS} {w : Bool} (h : aReady T X = -1) : ∀ (f : Nat) (n : Int), aSettle T w f X n = (X, n)
  | 0, n => by rw [aSettle]
  | f + 1, n => by rw [aSettle, if_pos h]
theorem wt_rX {X : aS} {M M1 : sjM} {i k : Int} (hX : rX X M i) (hk0 : 0 ≤ k) (hk1 : k < 160) (h : M1 = sjU M 17 (160 * i + k) (iI 1)) (v : Int) : rX (aUp (aUp X 4 k 1) 0 3 v) M1 i := by
  obtain ⟨x1, x2, x3, x4⟩ := hX
  refine ⟨by rw [h, sjU_o (by omega), up0_0, if_neg (by omega), aUp_ne (by omega)]; exact x1, fun q q0 q1 => ?_, fun z z0 z1 => ?_, fun z z0 z1 => ?_⟩
  · rw [up0_0, if_neg (by omega), aUp_ne (by omega)] at q1
    rw [h, sjU_o (by omega), up0_1, aUp_ne (by omega)]; exact x2 q q0 q1
  · rw [h, sjU_o (by omega), sjU_o (by omega), up0_2, up0_3, aUp_ne (by omega), aUp_ne (by omega)]; exact x3 z z0 z1
  · rw [h, sjU_s, up0_4]
    by_cases hz : z = k
    · rw [if_pos (by omega), hz, aUp_eq]
    · rw [if_neg (by omega), aUp_ne (fun w => hz w.2)]; exact x4 z z0 z1
theorem e3_of {T X : aS} (h : stOK T X) : ∀ c, 0 ≤ c → c < 60 → X 3 c = 0 ∨ X 3 c = 1 := fun c c0 c1 => by
  rcases h.2.2.2.2 c c0 c1 with w | w
  · exact Or.inl w
  · exact Or.inr w.1
theorem can_pr {T X : aS} {k : Int} (hk : aHasM T k) (ht : tInv T) (hc : aCan T X k) : T 6 k = 1 → ¬ X 2 (T 8 k) = -2 := by
  intro h6
  have h8 := (ht.2.2.2.2.2.1 k hk).2
  rcases hc with w | w
  · rw [subj_in hk, pl_char h8.1 h8.2.2] at w; exact w.2
  · rw [kind_in hk] at w; exact absurd h6 w.1
set_option maxHeartbeats 4000000 in
set_option maxRecDepth 100000 in
theorem kX4_hears {l : Launch} {D : va_G} {cI cZ cJ cT cC : ClassId} {ad : Nat → Nat} {A : Nat → Prop} (hD : ∀ g : Nat → va_E, va_D A (sjW 26 ad g)) (i : Int) (hi0 : 0 ≤ i) (hi1 : i ≤ 10) (t : Int) (ht0 : 0 ≤ t) (ht1 : t < 2) (k : Int) (M : sjM) (L : sjL) (T X : aS) (lt : Int → Int → Prop) (hX : rX X M i) (hI : cInv T lt X) (hT : rT T M t) (hG : gT T) (hO : gO T (decide (t = 0)) lt) (hk : aHasM T k) : Met l yX4_hears wsX4_hears { frames := 4, cells := 0, slots := 0, locals := 100 } (sjA D cI cZ cJ cT cC 26 ad (kR cI cZ cJ ad) [.ref (ad 0), .int (iI i), .int (iI t), .int (iI k)] M L) (sjZ D 26 ad (kR cI cZ cJ ad) A (fun v M' L' => L = L' ∧ onR M M' i ∧ rX (aHear T (decide (t = 0)) X k).1 M' i ∧ rLk M X M' (aHear T (decide (t = 0)) X k).1 ∧ v = some (.int (iI (aHear T (decide (t = 0)) X k).2)))) 0 0 A := by
  refine g_met (cc := cX4_hears) (maxL := 6) (ret := (some .int)) (lv := [_, _, _, _, _, _]) (by decide) rfl hD kR_loc (List.forall_mem_cons.mpr ⟨rfl, List.forall_mem_cons.mpr ⟨rfl, List.forall_mem_cons.mpr ⟨rfl, List.forall_mem_cons.mpr ⟨rfl, fun _ h => absurd h List.not_mem_nil⟩⟩⟩⟩) (Nat.le_of_ble_eq_true rfl) rfl ?_
  intro J G
  have f31 : Cond.fieldLink RX4 31 "SharedPageModel" "messages" "[I" ∈ wsX4_hears := by decide +kernel
  have f59 : Cond.fieldLink RX4 59 "SharedPageModel" "state" "[I" ∈ wsX4_hears := by decide +kernel
  have hinX4 : ∀ w ∈ u_ws RX4 TX4 29, w ∈ wsX4_hears := fun w h => List.mem_cons_of_mem _ (List.mem_append_right _ h)
  have hk0 := hk.1
  have hk1 := hk.2.2
  have tm0 := hG.1.2.2.1
  have tm1 := hG.1.2.2.2.1
  have loop : ∀ (f : Nat) (X1 : aS) (n : Int) (M1 : sjM), rX X1 M1 i → cInv T lt X1 → X1 0 3 ≤ f → aSettle T (decide (t = 0)) f X1 n = (aHear T (decide (t = 0)) X k) → rLk M X M1 X1 → onR M M1 i → ∀ (g : Nat) (j : Int), 0 ≤ j → j ≤ T 0 1 → (T 0 1 - j).toNat < g → (∀ q, 0 ≤ q → q < j → ¬ (aSt X1 q = 1 ∧ aCan T X1 q)) → J 55 M1 L [some (.ref (ad 0)), some (.int (iI i)), some (.int (iI t)), some (.int (iI k)), some (.int (iI n)), some (.int (iI j))] [] := by
    intro f
    induction f using Nat.strongRecOn with
    | _ f ih =>
      intro X1 n M1 hX1 hI1 hf3 hRS hlk ho1 g
      have hT1 : rT T M1 t := rT_of hT ho1.1
      induction g with
      | zero => intro j _ _ h; omega
      | succ g ihg =>
        intro j hj0 hj1 hg hnb
        refine g_iload (pc := 55) G dX4_hears_55 rfl ?_
        refine g_aload_n (pc := 57) G dX4_hears_57 rfl ?_
        refine g_getR (pc := 58) G hinX4 oModel rfl 8 (by decide) f31 rfl rfl dX4_hears_58 ?_
        refine g_iload_n (pc := 61) G dX4_hears_61 rfl ?_
        refine g_iald (pc := 62) G rMsgs (by omega) dX4_hears_62 ?_
        refine g_top (ld (hT1.1.2.1)) ?_
        refine g_icmp_ge (pc := 63) G (by omega) (by omega) 123 dX4_hears_63 (by decide) (fun h63 => ?_) (fun h63 => ?_)
        · -- 63 t
          refine g_iload (pc := 123) G dX4_hears_123 rfl ?_
          refine g_iret (pc := 125) G dX4_hears_125 ?_
          rw [settle_no (ready_none hG.1 (fun q hq h1 hc => hnb q hq.1 (by have := hq.2.1; omega) ⟨by unfold aSt; rw [if_pos ⟨hq.1, hq.2.2⟩]; exact h1, hc⟩))] at hRS
          refine ⟨rfl, ho1, ?_, ?_, ?_⟩
          · rw [← hRS]; exact hX1
          · rw [← hRS]; exact hlk
          · rw [← hRS]
        · -- 63 f
          refine g_aload_n (pc := 66) G dX4_hears_66 rfl ?_
          refine g_getR (pc := 67) G hinX4 oModel rfl 17 (by decide) f59 rfl rfl dX4_hears_67 ?_
          refine g_sipush (pc := 70) G dX4_hears_70 rfl ?_
          refine g_iload_n (pc := 73) G dX4_hears_73 rfl ?_
          refine g_imul (pc := 74) G dX4_hears_74 ?_
          refine g_iload (pc := 75) G dX4_hears_75 rfl ?_
          refine g_iadd (pc := 77) G dX4_hears_77 ?_
          refine g_iald (pc := 78) G rState (by omega) dX4_hears_78 ?_
          refine g_top (ld ((hX1.2.2.2 j hj0 (by omega)))) ?_
          refine g_iconst (pc := 79) G dX4_hears_79 ?_
          refine g_icmp_ne (pc := 80) G (by rcases hI1.2.2.1.1 j hj0 (by omega) with q | q | q <;> omega) (by first | assumption | omega) 114 dX4_hears_80 (by decide) (fun h80 => ?_) (fun h80 => ?_)
          · -- 80 t
            have hnr : ¬ (aSt X1 j = 1 ∧ aCan T X1 j) := fun w => h80 (by have := w.1; unfold aSt at this; rw [if_pos ⟨hj0, by omega⟩] at this; exact this)
            --go
            refine g_iload (pc := 114) G dX4_hears_114 rfl ?_
            refine g_iconst (pc := 116) G dX4_hears_116 ?_
            refine g_iadd (pc := 117) G dX4_hears_117 ?_
            refine g_istore (pc := 118) (lv' := [_, _, _, _, _, _]) G dX4_hears_118 (by decide) rfl ?_
            refine g_goto (pc := 120) G 55 dX4_hears_120 (by decide) ?_
            exact ihg (j + 1) (by omega) (by omega) (by omega) (fun q q0 q1 => by rcases Int.lt_or_eq_of_le (show q ≤ j by omega) with w | w; exact hnb q q0 w; rw [w]; exact hnr)
          · -- 80 f
            refine g_aload_n (pc := 83) G dX4_hears_83 rfl ?_
            refine g_iload_n (pc := 84) G dX4_hears_84 rfl ?_
            refine g_iload_n (pc := 85) G dX4_hears_85 rfl ?_
            refine g_iload (pc := 86) G dX4_hears_86 rfl ?_
            refine g_call (pc := 88) (n := 3) (As := [_, _, _]) G (kX4_can hD i hi0 hi1 t ht0 ht1 j M1 L T X1 lt hX1 ⟨hI1.1, hI1.2.1⟩ hT1 hG.1 ⟨hj0, h63, by omega⟩) gX4_hears_X4_can oModel rfl rfl hdX4_can rfl rfl ⟨Nat.le_of_ble_eq_true rfl, Nat.le_of_ble_eq_true rfl⟩ rfl rfl (Nat.le_of_ble_eq_true rfl) dX4_hears_88 ?_
            rintro _ _ _ ⟨rfl, rfl, rfl⟩
            by_cases hcan : aCan T X1 j
            · rw [if_pos hcan]
              have hm : aHasM T j := ⟨hj0, h63, by omega⟩
              have hrd := ready_at hG.1 hI1 hj0 h63 h80 hcan hnb
              have hrn : ¬ aReady T X1 = -1 := by omega
              obtain ⟨d1, d2⟩ := settle_step hG.1 (gO_o hG.1.2.2.2.2.1 hO) hI1 hrn
              have hw1 := wait_pos hG.1 hI1 hrn
              obtain ⟨f', hf'⟩ : ∃ f' : Nat, f = f' + 1 := ⟨f - 1, by omega⟩
              subst hf'
              rw [aSettle, if_neg hrn, hrd] at hRS
              rw [hrd] at d1 d2
              have y00 : aUp X1 0 3 (X1 0 3 - 1) 0 0 = X1 0 0 := by rw [up0_0, if_neg (by omega)]
              have hXY := rX_X hX1 y00 (up0_1 X1 3 (X1 0 3 - 1)) (up0_2 X1 3 (X1 0 3 - 1)) (up0_3 X1 3 (X1 0 3 - 1)) (up0_4 X1 3 (X1 0 3 - 1))
              refine g_if_eq (pc := 91) G (by omega) 114 dX4_hears_91 (by decide) (fun h => absurd h (by decide)) (fun _ => ?_)
              refine g_aload_n (pc := 94) G dX4_hears_94 rfl ?_
              refine g_iload_n (pc := 95) G dX4_hears_95 rfl ?_
              refine g_iload_n (pc := 96) G dX4_hears_96 rfl ?_
              refine g_iload (pc := 97) G dX4_hears_97 rfl ?_
              refine g_call (pc := 99) (n := 3) (As := [_, _, _]) G (kX4_does hD i hi0 hi1 t ht0 ht1 j M1 L T (aUp X1 0 3 (X1 0 3 - 1)) lt hXY ⟨d1.2.1, srtL_of hI1.2.1 y00 (up0_1 _ _ _)⟩ hT1 hG hO (free_of (gFree_of hO hG.1.2.2.2.2.1 hI1.1 hI1.2.1) y00 (up0_1 _ _ _) (up0_2 _ _ _)) d1 (by rw [up0_3]; exact e3_of hI1.2.2.1) (by rw [up0_2]; exact can_pr hm hG.1 hcan)) gX4_hears_X4_does oModel rfl rfl hdX4_does rfl rfl ⟨Nat.le_of_ble_eq_true rfl, Nat.le_of_ble_eq_true rfl⟩ rfl rfl (Nat.le_of_ble_eq_true rfl) dX4_hears_99 ?_
              rintro _ M2 _ ⟨rfl, rfl, ho2, hX2, hl2⟩
              have hl2' : rLk M1 X1 M2 (aDo T (decide (t = 0)) (aUp X1 0 3 (X1 0 3 - 1)) j) := by
                unfold rLk at hl2 ⊢
                rw [up0_0, if_neg (by omega), up0_0, if_neg (by omega)] at hl2
                exact hl2
              refine g_iload (pc := 102) G dX4_hears_102 rfl ?_
              refine g_iconst (pc := 104) G dX4_hears_104 ?_
              refine g_iadd (pc := 105) G dX4_hears_105 ?_
              refine g_istore (pc := 106) (lv' := [_, _, _, _, _, _]) G dX4_hears_106 (by decide) rfl ?_
              refine g_iconst (pc := 108) G dX4_hears_108 ?_
              refine g_istore (pc := 109) (lv' := [_, _, _, _, _, _]) G dX4_hears_109 (by decide) rfl ?_
              refine g_goto (pc := 111) G 55 dX4_hears_111 (by decide) ?_
              exact ih f' (Nat.lt_succ_self _) _ (n + 1) M2 hX2 d2 (by rw [do_03, up0_0, if_pos rfl]; omega) hRS (rLk_tr hlk hl2') (onR_tr ho1 ho2) _ 0 (by omega) (by omega) (Nat.lt_succ_self _) (fun q q0 q1 => by omega)
            · rw [if_neg hcan]
              have hnr : ¬ (aSt X1 j = 1 ∧ aCan T X1 j) := fun w => hcan w.2
              refine g_if_eq (pc := 91) G (by omega) 114 dX4_hears_91 (by decide) (fun _ => ?_) (fun h => absurd h (by decide))
              refine g_iload (pc := 114) G dX4_hears_114 rfl ?_
              refine g_iconst (pc := 116) G dX4_hears_116 ?_
              refine g_iadd (pc := 117) G dX4_hears_117 ?_
              refine g_istore (pc := 118) (lv' := [_, _, _, _, _, _]) G dX4_hears_118 (by decide) rfl ?_
              refine g_goto (pc := 120) G 55 dX4_hears_120 (by decide) ?_
              exact ihg (j + 1) (by omega) (by omega) (by omega) (fun q q0 q1 => by rcases Int.lt_or_eq_of_le (show q ≤ j by omega) with w | w; exact hnb q q0 w; rw [w]; exact hnr)
  refine g_aload_n (pc := 0) G dX4_hears_0 rfl ?_
  refine g_getR (pc := 1) G hinX4 oModel rfl 17 (by decide) f59 rfl rfl dX4_hears_1 ?_
  refine g_sipush (pc := 4) G dX4_hears_4 rfl ?_
  refine g_iload_n (pc := 7) G dX4_hears_7 rfl ?_
  refine g_imul (pc := 8) G dX4_hears_8 ?_
  refine g_iload_n (pc := 9) G dX4_hears_9 rfl ?_
  refine g_iadd (pc := 10) G dX4_hears_10 ?_
  refine g_iald (pc := 11) G rState (by omega) dX4_hears_11 ?_
  refine g_top (ld (hX.2.2.2 k hk0 hk1)) ?_
  refine g_if_eq (pc := 12) G (by rcases hI.2.2.1.1 k hk0 hk1 with q | q | q <;> omega) 17 dX4_hears_12 (by decide) (fun h12 => ?_) (fun h12 => ?_)
  · -- 12 t
    have hst : aSt X k = 0 := by unfold aSt; rw [if_pos ⟨hk0, hk1⟩]; exact h12
    have hgo : ¬ (¬ aHasM T k ∨ ¬ aSt X k = 0) := by rintro (w | w); exact w hk; exact w hst
    --go
    refine g_aload_n (pc := 17) G dX4_hears_17 rfl ?_
    refine g_iload_n (pc := 18) G dX4_hears_18 rfl ?_
    refine g_iload_n (pc := 19) G dX4_hears_19 rfl ?_
    refine g_iload_n (pc := 20) G dX4_hears_20 rfl ?_
    refine g_call (pc := 21) (n := 3) (As := [_, _, _]) G (kX4_can hD i hi0 hi1 t ht0 ht1 k M L T X lt hX ⟨hI.1, hI.2.1⟩ hT hG.1 hk) gX4_hears_X4_can oModel rfl rfl hdX4_can rfl rfl ⟨Nat.le_of_ble_eq_true rfl, Nat.le_of_ble_eq_true rfl⟩ rfl rfl (Nat.le_of_ble_eq_true rfl) dX4_hears_21 ?_
    rintro _ _ _ ⟨rfl, rfl, rfl⟩
    by_cases hcan : aCan T X k
    · rw [if_pos hcan]
      have hRS : (aHear T (decide (t = 0)) X k) = aSettle T (decide (t = 0)) 160 (aDo T (decide (t = 0)) X k) 1 := by
        unfold aHear
        rw [if_neg hgo, if_neg (fun w => w hcan)]
      obtain ⟨d1, d2⟩ := hear_step hG.1 (gO_o hG.1.2.2.2.2.1 hO) hI hk hst hcan
      refine g_if_ne (pc := 24) G (by omega) 42 dX4_hears_24 (by decide) (fun _ => ?_) (fun h => absurd h (by decide))
      refine g_aload_n (pc := 42) G dX4_hears_42 rfl ?_
      refine g_iload_n (pc := 43) G dX4_hears_43 rfl ?_
      refine g_iload_n (pc := 44) G dX4_hears_44 rfl ?_
      refine g_iload_n (pc := 45) G dX4_hears_45 rfl ?_
      refine g_call (pc := 46) (n := 3) (As := [_, _, _]) G (kX4_does hD i hi0 hi1 t ht0 ht1 k M L T X lt hX ⟨hI.1, hI.2.1⟩ hT hG hO (gFree_of hO hG.1.2.2.2.2.1 hI.1 hI.2.1) d1 (e3_of hI.2.2.1) (can_pr hk hG.1 hcan)) gX4_hears_X4_does oModel rfl rfl hdX4_does rfl rfl ⟨Nat.le_of_ble_eq_true rfl, Nat.le_of_ble_eq_true rfl⟩ rfl rfl (Nat.le_of_ble_eq_true rfl) dX4_hears_46 ?_
      rintro _ M2 _ ⟨rfl, rfl, ho2, hX2, hl2⟩
      refine g_iconst (pc := 49) G dX4_hears_49 ?_
      refine g_istore (pc := 50) (lv' := [_, _, _, _, _, _]) G dX4_hears_50 (by decide) rfl ?_
      refine g_iconst (pc := 52) G dX4_hears_52 ?_
      refine g_istore (pc := 53) (lv' := [_, _, _, _, _, _]) G dX4_hears_53 (by decide) rfl ?_
      exact loop 160 _ 1 M2 hX2 d2 (by rw [do_03, hI.2.2.2.2]; exact (cn_le (f := fun k => iq (X 4 k) 1) 160 (fun q _ _ => iq_01 _ _)).2) hRS.symm hl2 ho2 _ 0 (by omega) (by omega) (Nat.lt_succ_self _) (fun q q0 q1 => by omega)
    · rw [if_neg hcan]
      have hRS : (aHear T (decide (t = 0)) X k) = (aUp (aUp X 4 k 1) 0 3 (X 0 3 + 1), 0) := by
        unfold aHear
        rw [if_neg hgo, if_pos hcan]
      refine g_if_ne (pc := 24) G (by omega) 42 dX4_hears_24 (by decide) (fun h => absurd h (by decide)) (fun _ => ?_)
      refine g_aload_n (pc := 27) G dX4_hears_27 rfl ?_
      refine g_getR (pc := 28) G hinX4 oModel rfl 17 (by decide) f59 rfl rfl dX4_hears_28 ?_
      refine g_sipush (pc := 31) G dX4_hears_31 rfl ?_
      refine g_iload_n (pc := 34) G dX4_hears_34 rfl ?_
      refine g_imul (pc := 35) G dX4_hears_35 ?_
      refine g_iload_n (pc := 36) G dX4_hears_36 rfl ?_
      refine g_iadd (pc := 37) G dX4_hears_37 ?_
      refine g_iconst (pc := 38) G dX4_hears_38 ?_
      refine g_iast (pc := 39) G rState (by omega) dX4_hears_39 ?_
      refine g_mem (fun M2 L2 hM2 hL2 => ?_)
      obtain rfl : L = L2 := hL2.symm
      refine g_iconst (pc := 40) G dX4_hears_40 ?_
      refine g_iret (pc := 41) G dX4_hears_41 ?_
      rw [hRS]
      refine ⟨rfl, mk_on hk0 hk1 hM2, wt_rX hX hk0 hk1 hM2 _, ?_, rfl⟩
      have h20 : M2 0 = M 0 := by rw [hM2, sjU_o (by omega)]
      show rLk M X M2 (aUp (aUp X 4 k 1) 0 3 (X 0 3 + 1))
      unfold rLk
      rw [up0_0, if_neg (by omega), up0_0, if_neg (by omega), aUp_ne (by omega), aUp_ne (by omega), h20]
      exact ⟨rfl, rfl⟩
  · -- 12 f
    have hRS : (aHear T (decide (t = 0)) X k) = (X, 0) := by
      unfold aHear
      rw [if_pos (Or.inr (by unfold aSt; rw [if_pos ⟨hk0, hk1⟩]; exact h12))]
    --go
    refine g_iconst (pc := 15) G dX4_hears_15 ?_
    refine g_iret (pc := 16) G dX4_hears_16 ?_
    rw [hRS]
    exact ⟨rfl, onR_rf M i, hX, ⟨rfl, rfl⟩, rfl⟩
