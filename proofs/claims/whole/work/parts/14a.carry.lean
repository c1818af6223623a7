theorem aPut_t {i : Nat} (h : tI i = 0) (T X : aS) (c : Int) : aPut T (decide (tI i = 0)) X c = aWoot T X c := by
  unfold aPut
  rw [decide_eq_true h, if_pos rfl]
theorem aPut_f {i : Nat} (h : ¬ tI i = 0) (T X : aS) (c : Int) : aPut T (decide (tI i = 0)) X c = aYata T X c := by
  unfold aPut
  rw [decide_eq_false h, if_neg (by decide)]
set_option maxHeartbeats 4000000 in
set_option maxRecDepth 100000 in
theorem kX0_carryOut {l : Launch} {D : va_G} {cI cZ cJ cT cC : ClassId} {ad : Nat → Nat} {A : Nat → Prop} (hD : ∀ g : Nat → va_E, va_D A (sjW 89 ad g)) (i : Nat) (hi : i < 12) (k : Int) (M : sjM) (L : sjL) (hd : doOK (vT M (tI i)) (decide (tI i = 0)) (vX M i) k) : Met l yX0_carryOut wsX0_carryOut { frames := 4, cells := 0, slots := 0, locals := 94 } (sjA D cI cZ cJ cT cC 89 ad (kC cI cZ cJ cT cC ad) [.ref (ad (29 + 5 * i)), .int (iI k)] M L) (sjZ D 89 ad (kC cI cZ cJ cT cC ad) A (fun v M' L' => v = none ∧ L = L' ∧ onC M M' i ∧ vX M' i = aDo (vT M (tI i)) (decide (tI i = 0)) (vX M i) k)) 0 0 A := by
  refine g_met (cc := cX0_carryOut) (maxL := 3) (ret := none) (lv := [_, _, _]) (by decide) rfl hD kC_loc (List.forall_mem_cons.mpr ⟨rfl, List.forall_mem_cons.mpr ⟨rfl, fun _ h => absurd h List.not_mem_nil⟩⟩) (Nat.le_of_ble_eq_true rfl) rfl ?_
  intro J G
  have f9 : Cond.fieldLink RX0 9 "SharedPage$Copy" "text" "LSharedPage$Text;" ∈ wsX0_carryOut := by decide +kernel
  have f39 : Cond.fieldLink RX0 39 "SharedPage$Copy" "done" "I" ∈ wsX0_carryOut := by decide +kernel
  have f106 : Cond.fieldLink RX0 106 "SharedPage$Text" "woot" "Z" ∈ wsX0_carryOut := by decide +kernel
  have hinX0 : ∀ w ∈ u_ws RX0 TX0 12, w ∈ wsX0_carryOut := fun w h => List.mem_cons_of_mem _ (List.mem_append_left _ (List.mem_append_right _ h))
  have hinX2 : ∀ w ∈ u_ws RX2 TX2 13, w ∈ wsX0_carryOut := fun w h => List.mem_cons_of_mem _ (List.mem_append_right _ h)
  obtain ⟨hk, hcp, hc, d1, d1a, d2, d2a, d6, d6a, hI⟩ := hd
  have hkr : rng k := ⟨by have := hk.1; omega, by have := hk.2.2; omega⟩
  have hcr : rng ((vT M (tI i)) 8 k) := ⟨by have := hc.1; omega, by have := hc.2.2; omega⟩
  refine g_aload_n (pc := 0) G dX0_carryOut_0 rfl ?_
  refine g_getR (pc := 1) G hinX0 (oCopy i hi) rfl 0 (by decide) f9 rfl rfl dX0_carryOut_1 ?_
  refine g_iload_n (pc := 4) G dX0_carryOut_4 rfl ?_
  refine g_call (pc := 5) (n := 1) (As := [_]) G (kX2_subjectOf hD (tI i) (tI_lt i) k hkr M L) gX0_carryOut_X2_subjectOf (oText _ (tI_lt i)) rfl rfl hdX2_subjectOf rfl rfl ⟨Nat.le_of_ble_eq_true rfl, Nat.le_of_ble_eq_true rfl⟩ rfl rfl (Nat.le_of_ble_eq_true rfl) dX0_carryOut_5 ?_
  rintro _ _ _ ⟨rfl, rfl, rfl⟩
  rw [subj_in hk]
  refine g_istore_n (pc := 8) (lv' := [_, _, _]) G dX0_carryOut_8 (by decide) rfl ?_
  refine g_aload_n (pc := 9) G dX0_carryOut_9 rfl ?_
  refine g_iload_n (pc := 10) G dX0_carryOut_10 rfl ?_
  refine g_iconst (pc := 11) G dX0_carryOut_11 ?_
  refine g_call (pc := 12) (n := 2) (As := [_, _]) G (kX0_setState hD i hi k 2 hkr M L) gX0_carryOut_X0_setState (oCopy i hi) rfl rfl hdX0_setState rfl rfl ⟨Nat.le_of_ble_eq_true rfl, Nat.le_of_ble_eq_true rfl⟩ rfl rfl (Nat.le_of_ble_eq_true rfl) dX0_carryOut_12 ?_
  rintro _ M1 _ ⟨rfl, rfl, hM1⟩
  rw [if_pos ⟨hk.1, hk.2.2⟩] at hM1
  have hv1 : vX M1 i = aUp (vX M i) 4 k 2 := by rw [hM1, vX_U _ i 4 _ _ (by omega), iI_toInt ⟨by omega, by omega⟩]
  have ho1 : onC M M1 i := by rw [hM1]; exact onC_U _ i 4 _ _ (by omega)
  clear hM1
  refine g_aload_n (pc := 15) G dX0_carryOut_15 rfl ?_
  refine g_dup (pc := 16) G dX0_carryOut_16 rfl ?_
  refine g_getI (pc := 17) G hinX0 (oCopy i hi) rfl 7 (by decide) f39 rfl rfl dX0_carryOut_17 ?_
  refine g_iconst (pc := 20) G dX0_carryOut_20 ?_
  refine g_iadd (pc := 21) G dX0_carryOut_21 ?_
  refine g_put (pc := 22) G tyX0 tyX0_ok nmX0 hinX0 (oCopy i hi) rfl 7 (by decide) (pCopy2 _ _) f39 rfl rfl rfl dX0_carryOut_22 ?_
  refine g_mem (fun M2 L2 hM2 hL2 => ?_)
  subst hL2
  have hv2 : vX M2 i = aMk (vX M i) k := by
    rw [hM2, vX_U0, hv1, ← vX_0 M1 i 2, hv1, iI_toInt (by rw [show aUp (vX M i) 4 k 2 0 2 = (vX M i) 0 2 from rfl]; omega)]
    rfl
  have ho2 : onC M M2 i := by rw [hM2]; exact onC_tr ho1 (onC_U0 _ i _ _)
  clear hM2
  have hT2 : vT M2 (tI i) = (vT M (tI i)) := onC_T ho2 _ (tI_lt i)
  have hin2 : ∀ a, inX (vX M i) a → -2 ≤ aPl (vX M2 i) a ∧ aPl (vX M2 i) a ≤ 60 := by
    intro a ha
    rw [hv2, aPl_of (by rw [aMk_0]; rfl) (aMk_2 _ _)]
    rcases ha with q | q | ⟨q0, q1, q2⟩
    · rw [q, pl_beg]; omega
    · rw [q, pl_end]; have := hcp.1; have := hcp.2.1; omega
    · rw [pl_char q0 q1]; have := (cp_has hcp q0 q1 q2).2; have := hcp.2.1; omega
  refine g_aload_n (pc := 25) G dX0_carryOut_25 rfl ?_
  refine g_getR (pc := 26) G hinX0 (oCopy i hi) rfl 0 (by decide) f9 rfl rfl dX0_carryOut_26 ?_
  refine g_iload_n (pc := 29) G dX0_carryOut_29 rfl ?_
  refine g_call (pc := 30) (n := 1) (As := [_]) G (kX2_kindOf hD (tI i) (tI_lt i) k hkr M2 L2) gX0_carryOut_X2_kindOf (oText _ (tI_lt i)) rfl rfl hdX2_kindOf rfl rfl ⟨Nat.le_of_ble_eq_true rfl, Nat.le_of_ble_eq_true rfl⟩ rfl rfl (Nat.le_of_ble_eq_true rfl) dX0_carryOut_30 ?_
  rintro _ _ _ ⟨rfl, rfl, rfl⟩
  rw [hT2, kind_in hk]
  refine g_iconst (pc := 33) G dX0_carryOut_33 ?_
  refine g_icmp_ne (pc := 34) G (by rw [← kind_in hk]; exact rg_kind M _ _) (by omega) 45 dX0_carryOut_34 (by decide) (fun h34 => ?_) (fun h34 => ?_)
  · -- 34 t
    have hI := hI h34
    --go
    refine g_aload_n (pc := 45) G dX0_carryOut_45 rfl ?_
    refine g_aload_n (pc := 46) G dX0_carryOut_46 rfl ?_
    refine g_getR (pc := 47) G hinX0 (oCopy i hi) rfl 0 (by decide) f9 rfl rfl dX0_carryOut_47 ?_
    refine g_getI (pc := 50) G hinX2 (oText _ (tI_lt i)) rfl 0 (by decide) f106 rfl rfl dX0_carryOut_50 ?_
    refine g_if_eq (pc := 53) G (rg _) 64 dX0_carryOut_53 (by decide) (fun h53 => ?_) (fun h53 => ?_)
    · -- 53 t
      have q0 : ¬ tI i = 0 := by intro q; rw [q] at h53; exact absurd h53 (by decide)
      --go
      refine g_aload_n (pc := 64) G dX0_carryOut_64 rfl ?_
      refine g_iload_n (pc := 65) G dX0_carryOut_65 rfl ?_
      refine g_call (pc := 66) (n := 1) (As := [_]) G (kX0_yataPlace hD i hi ((vT M (tI i)) 8 k) hcr M2 L2 (by rw [hT2]; exact (hin2 _ hI.2.2.1).1) (by rw [hT2]; exact (hin2 _ hI.2.2.1).2) (by rw [hT2]; exact (hin2 _ hI.2.2.2.1).1) (by rw [hT2]; exact (hin2 _ hI.2.2.2.1).2)) gX0_carryOut_X0_yataPlace (oCopy i hi) rfl rfl hdX0_yataPlace rfl rfl ⟨Nat.le_of_ble_eq_true rfl, Nat.le_of_ble_eq_true rfl⟩ rfl rfl (Nat.le_of_ble_eq_true rfl) dX0_carryOut_66 ?_
      rintro _ M3 _ ⟨rfl, hM3, rfl⟩
      rw [hT2, hv2] at hM3 ⊢
      rw [← aPut_f q0 (vT M (tI i)) (aMk (vX M i) k) ((vT M (tI i)) 8 k)] at hM3 ⊢
      have hv3 : vX M3 i = aUp (aMk (vX M i) k) 0 5 (wr ((vX M i) 0 5 + (aPut (vT M (tI i)) (decide (tI i = 0)) (aMk (vX M i) k) ((vT M (tI i)) 8 k)).2)) := by
        rw [hM3, vX_U0, hv2, ← vX_0 M2 i 5, hv2, aMk_0, if_neg (by omega)]
        rfl
      have ho3 : onC M M3 i := by rw [hM3]; exact onC_tr ho2 (onC_U0 _ i _ _)
      refine g_iload_n (pc := 69) G dX0_carryOut_69 rfl ?_
      refine g_call (pc := 70) (n := 2) (As := [_, _]) G (kX0_putAt hD i hi (aPut (vT M (tI i)) (decide (tI i = 0)) (aMk (vX M i) k) ((vT M (tI i)) 8 k)).1 ((vT M (tI i)) 8 k) hc.1 hc.2.2 M3 L2 (hI.2.2.2.2.1) (by rw [hv3, up0_0, if_neg (by omega), aMk_0, if_neg (by omega)]; exact hI.2.2.2.2.2) (by rw [hv3]; exact cpOK_seq (cpOK_of hcp (by rw [up0_0, if_neg (by omega), aMk_0, if_neg (by omega)]) (by rw [up0_1, aMk_1]) (by rw [up0_2, aMk_2]))) (by rw [hv3, up0_0, if_neg (by omega), aMk_0, if_neg (by omega)]; exact hI.2.1) (by rw [hv3, up0_0, if_neg (by omega), aMk_0, if_neg (by omega)]; omega) (by rw [hv3, up0_0, if_neg (by omega), aMk_0, if_neg (by omega)]; exact d1) (by rw [hv3, up0_0, if_neg (by omega), aMk_0, if_neg (by omega)]; omega) (by rw [hv3, up0_0, if_neg (by omega), aMk_0, if_neg (by omega)]; exact d6)) gX0_carryOut_X0_putAt (oCopy i hi) rfl rfl hdX0_putAt rfl rfl ⟨Nat.le_of_ble_eq_true rfl, Nat.le_of_ble_eq_true rfl⟩ rfl rfl (Nat.le_of_ble_eq_true rfl) dX0_carryOut_70 ?_
      rintro _ M4 _ ⟨rfl, rfl, ho4, hv4⟩
      refine g_vret (pc := 73) G dX0_carryOut_73 ?_
      exact ⟨rfl, rfl, onC_tr ho3 ho4, by rw [hv4, hv3, aDo, kind_in hk, if_neg h34, subj_in hk]⟩
    · -- 53 f
      have q0 : tI i = 0 := by
        have := tI_lt i
        rcases (show tI i = 0 ∨ tI i = 1 by omega) with q | q
        · exact q
        · rw [q] at h53; exact absurd rfl h53
      --go
      refine g_aload_n (pc := 56) G dX0_carryOut_56 rfl ?_
      refine g_iload_n (pc := 57) G dX0_carryOut_57 rfl ?_
      refine g_call (pc := 58) (n := 1) (As := [_]) G (kX0_wootPlace hD i hi ((vT M (tI i)) 8 k) hcr M2 L2 (by rw [hT2]; exact (hin2 _ hI.2.2.1).1) (by rw [hT2]; exact (hin2 _ hI.2.2.1).2) (by rw [hT2]; exact (hin2 _ hI.2.2.2.1).1) (by rw [hT2]; exact (hin2 _ hI.2.2.2.1).2)) gX0_carryOut_X0_wootPlace (oCopy i hi) rfl rfl hdX0_wootPlace rfl rfl ⟨Nat.le_of_ble_eq_true rfl, Nat.le_of_ble_eq_true rfl⟩ rfl rfl (Nat.le_of_ble_eq_true rfl) dX0_carryOut_58 ?_
      rintro _ M3 _ ⟨rfl, hM3, rfl⟩
      rw [hT2, hv2] at hM3 ⊢
      rw [← aPut_t q0 (vT M (tI i)) (aMk (vX M i) k) ((vT M (tI i)) 8 k)] at hM3 ⊢
      have hv3 : vX M3 i = aUp (aMk (vX M i) k) 0 5 (wr ((vX M i) 0 5 + (aPut (vT M (tI i)) (decide (tI i = 0)) (aMk (vX M i) k) ((vT M (tI i)) 8 k)).2)) := by
        rw [hM3, vX_U0, hv2, ← vX_0 M2 i 5, hv2, aMk_0, if_neg (by omega)]
        rfl
      have ho3 : onC M M3 i := by rw [hM3]; exact onC_tr ho2 (onC_U0 _ i _ _)
      refine g_goto (pc := 61) G 69 dX0_carryOut_61 (by decide) ?_
      refine g_iload_n (pc := 69) G dX0_carryOut_69 rfl ?_
      refine g_call (pc := 70) (n := 2) (As := [_, _]) G (kX0_putAt hD i hi (aPut (vT M (tI i)) (decide (tI i = 0)) (aMk (vX M i) k) ((vT M (tI i)) 8 k)).1 ((vT M (tI i)) 8 k) hc.1 hc.2.2 M3 L2 (hI.2.2.2.2.1) (by rw [hv3, up0_0, if_neg (by omega), aMk_0, if_neg (by omega)]; exact hI.2.2.2.2.2) (by rw [hv3]; exact cpOK_seq (cpOK_of hcp (by rw [up0_0, if_neg (by omega), aMk_0, if_neg (by omega)]) (by rw [up0_1, aMk_1]) (by rw [up0_2, aMk_2]))) (by rw [hv3, up0_0, if_neg (by omega), aMk_0, if_neg (by omega)]; exact hI.2.1) (by rw [hv3, up0_0, if_neg (by omega), aMk_0, if_neg (by omega)]; omega) (by rw [hv3, up0_0, if_neg (by omega), aMk_0, if_neg (by omega)]; exact d1) (by rw [hv3, up0_0, if_neg (by omega), aMk_0, if_neg (by omega)]; omega) (by rw [hv3, up0_0, if_neg (by omega), aMk_0, if_neg (by omega)]; exact d6)) gX0_carryOut_X0_putAt (oCopy i hi) rfl rfl hdX0_putAt rfl rfl ⟨Nat.le_of_ble_eq_true rfl, Nat.le_of_ble_eq_true rfl⟩ rfl rfl (Nat.le_of_ble_eq_true rfl) dX0_carryOut_70 ?_
      rintro _ M4 _ ⟨rfl, rfl, ho4, hv4⟩
      refine g_vret (pc := 73) G dX0_carryOut_73 ?_
      exact ⟨rfl, rfl, onC_tr ho3 ho4, by rw [hv4, hv3, aDo, kind_in hk, if_neg h34, subj_in hk]⟩
  · -- 34 f
    refine g_aload_n (pc := 37) G dX0_carryOut_37 rfl ?_
    refine g_iload_n (pc := 38) G dX0_carryOut_38 rfl ?_
    refine g_call (pc := 39) (n := 1) (As := [_]) G (kX0_strike hD i hi ((vT M (tI i)) 8 k) hcr M2 L2 (by rw [← vX_0 M2 i 1, hv2, aMk_0, if_neg (by omega)]; exact d1)) gX0_carryOut_X0_strike (oCopy i hi) rfl rfl hdX0_strike rfl rfl ⟨Nat.le_of_ble_eq_true rfl, Nat.le_of_ble_eq_true rfl⟩ rfl rfl (Nat.le_of_ble_eq_true rfl) dX0_carryOut_39 ?_
    rintro _ M3 _ ⟨rfl, rfl, ho3, hv3⟩
    refine g_goto (pc := 42) G 73 dX0_carryOut_42 (by decide) ?_
    refine g_vret (pc := 73) G dX0_carryOut_73 ?_
    exact ⟨rfl, rfl, onC_tr ho2 ho3, by rw [hv3, hv2, aDo, kind_in hk, if_pos h34, subj_in hk]⟩
