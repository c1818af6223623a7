/-- nothing but text t's and copy i's cells has changed -/
def onTC (M M' : sjM) (t i : Nat) : Prop := ∀ k, ¬ (9 + 10 * t ≤ k ∧ k ≤ 9 + 10 * t + 9) → ¬ (29 + 5 * i ≤ k ∧ k ≤ 29 + 5 * i + 4) → M' k = M k
theorem onTC_of {M M1 M2 : sjM} {t i : Nat} (h1 : onT M M1 t) (h2 : onC M1 M2 i) : onTC M M2 t i := fun k a b => (h2 k b).trans (h1 k a)
theorem rg_rfp (M : sjM) (i : Nat) (w : Bool) (z : Int) : rng (aRFP (vX M i) w z) := by unfold aRFP; split; exact rg_seenAt M i z; exact rg_at M i _
theorem noM (T : aS) : ¬ aHasM T (-1) := fun q => absurd q.1 (by decide)
set_option maxHeartbeats 4000000 in
set_option maxRecDepth 100000 in
theorem kX0_doOwnN {l : Launch} {D : va_G} {cI cZ cJ cT cC : ClassId} {ad : Nat → Nat} {A : Nat → Prop} (hD : ∀ g : Nat → va_E, va_D A (sjW 89 ad g)) (i : Nat) (hi : i < 12) (k : Int) (hk : rng k) (M : sjM) (L : sjL) (hm : ¬ aHasM (vT M (tI i)) k) : Met l yX0_doOwn wsX0_doOwn { frames := 5, cells := 0, slots := 0, locals := 116 } (sjA D cI cZ cJ cT cC 89 ad (kC cI cZ cJ cT cC ad) [.ref (ad (29 + 5 * i)), .int (iI k)] M L) (sjZ D 89 ad (kC cI cZ cJ cT cC ad) A (fun v M' L' => v = none ∧ L = L' ∧ M = M')) 0 0 A := by
  refine g_met (cc := cX0_doOwn) (maxL := 2) (ret := none) (lv := [_, _]) (by decide) rfl hD kC_loc (List.forall_mem_cons.mpr ⟨rfl, List.forall_mem_cons.mpr ⟨rfl, fun _ h => absurd h List.not_mem_nil⟩⟩) (Nat.le_of_ble_eq_true rfl) rfl ?_
  intro J G
  have f9 : Cond.fieldLink RX0 9 "SharedPage$Copy" "text" "LSharedPage$Text;" ∈ wsX0_doOwn := by decide +kernel
  have hinX0 : ∀ w ∈ u_ws RX0 TX0 12, w ∈ wsX0_doOwn := fun w h => List.mem_cons_of_mem _ (List.mem_append_left _ (List.mem_append_right _ h))
  refine g_aload_n (pc := 0) G dX0_doOwn_0 rfl ?_
  refine g_getR (pc := 1) G hinX0 (oCopy i hi) rfl 0 (by decide) f9 rfl rfl dX0_doOwn_1 ?_
  refine g_iload_n (pc := 4) G dX0_doOwn_4 rfl ?_
  refine g_call (pc := 5) (n := 1) (As := [_]) G (kX2_hasMessage hD (tI i) (tI_lt i) k hk M L) gX0_doOwn_X2_hasMessage (oText _ (tI_lt i)) rfl rfl hdX2_hasMessage rfl rfl ⟨Nat.le_of_ble_eq_true rfl, Nat.le_of_ble_eq_true rfl⟩ rfl rfl (Nat.le_of_ble_eq_true rfl) dX0_doOwn_5 ?_
  rintro _ _ _ ⟨rfl, rfl, rfl⟩
  rw [if_neg hm]
  refine g_if_ne (pc := 8) G (by omega) 12 dX0_doOwn_8 (by decide) (fun h => absurd h (by decide)) (fun _ => ?_)
  refine g_vret (pc := 11) G dX0_doOwn_11 ?_
  exact ⟨rfl, rfl, rfl⟩
set_option maxHeartbeats 4000000 in
set_option maxRecDepth 100000 in
theorem kX3_erase {l : Launch} {D : va_G} {cI cZ cJ cT cC : ClassId} {ad : Nat → Nat} {A : Nat → Prop} (hD : ∀ g : Nat → va_E, va_D A (sjW 89 ad g)) (x y z : Int) (hx : rng x) (hy : rng y) (hz : rng z) (M : sjM) (L : sjL) (hI : okTS x y → 0 ≤ (vT M (tI (x * 5 + y).toNat)) 0 1 ∧ ((vT M (tI (x * 5 + y).toNat)) 0 2 < 100 → (vT M (tI (x * 5 + y).toNat)) 0 1 < 160) ∧ 0 ≤ (vT M (tI (x * 5 + y).toNat)) 0 2) (hd : okTS x y ∧ 0 ≤ z ∧ z < (vX M (x * 5 + y).toNat) 0 1 ∧ (vT M (tI (x * 5 + y).toNat)) 0 2 < 100 → doOK (aMsg (aErs (vT M (tI (x * 5 + y).toNat))) 1 y (aSeenAt (vX M (x * 5 + y).toNat) z)) (decide (tI (x * 5 + y).toNat = 0)) (aStart (vX M (x * 5 + y).toNat)) ((vT M (tI (x * 5 + y).toNat)) 0 1)) : Met l yX3_erase wsX3_erase { frames := 6, cells := 0, slots := 0, locals := 137 } (sjA D cI cZ cJ cT cC 89 ad (kC cI cZ cJ cT cC ad) [.ref (ad 0), .int (iI x), .int (iI y), .int (iI z)] M L) (sjZ D 89 ad (kC cI cZ cJ cT cC ad) A (fun v M' L' => L = L' ∧ (((okTS x y ∧ 0 ≤ z ∧ z < (vX M (x * 5 + y).toNat) 0 1 ∧ (vT M (tI (x * 5 + y).toNat)) 0 2 < 100) ∧ onTC M M' (tI (x * 5 + y).toNat) (x * 5 + y).toNat ∧ vT M' (tI (x * 5 + y).toNat) = (aMsg (aErs (vT M (tI (x * 5 + y).toNat))) 1 y (aSeenAt (vX M (x * 5 + y).toNat) z)) ∧ vX M' (x * 5 + y).toNat = aEnd (aDo (aMsg (aErs (vT M (tI (x * 5 + y).toNat))) 1 y (aSeenAt (vX M (x * 5 + y).toNat) z)) (decide (tI (x * 5 + y).toNat = 0)) (aStart (vX M (x * 5 + y).toNat)) ((vT M (tI (x * 5 + y).toNat)) 0 1)) ∧ v = some (.int (iI ((vT M (tI (x * 5 + y).toNat)) 0 1)))) ∨ (¬ ((okTS x y ∧ 0 ≤ z ∧ z < (vX M (x * 5 + y).toNat) 0 1 ∧ (vT M (tI (x * 5 + y).toNat)) 0 2 < 100)) ∧ M' = M ∧ v = some (.int (iI (-1))))))) 0 0 A := by
  refine g_met (cc := cX3_erase) (maxL := 6) (ret := (some .int)) (lv := [_, _, _, _, _, _]) (by decide) rfl hD kC_loc (List.forall_mem_cons.mpr ⟨rfl, List.forall_mem_cons.mpr ⟨rfl, List.forall_mem_cons.mpr ⟨rfl, List.forall_mem_cons.mpr ⟨rfl, fun _ h => absurd h List.not_mem_nil⟩⟩⟩⟩) (Nat.le_of_ble_eq_true rfl) rfl ?_
  intro J G
  have f52 : Cond.fieldLink RX3 52 "SharedPage$Copy" "seen" "I" ∈ wsX3_erase := by decide +kernel
  have f62 : Cond.fieldLink RX3 62 "SharedPage$Copy" "text" "LSharedPage$Text;" ∈ wsX3_erase := by decide +kernel
  have hinX0 : ∀ w ∈ u_ws RX0 TX0 12, w ∈ wsX3_erase := fun w h => List.mem_cons_of_mem _ (List.mem_append_left _ (List.mem_append_left _ (List.mem_append_right _ h)))
  refine g_aload_n (pc := 0) G dX3_erase_0 rfl ?_
  refine g_iload_n (pc := 1) G dX3_erase_1 rfl ?_
  refine g_iload_n (pc := 2) G dX3_erase_2 rfl ?_
  refine g_call (pc := 3) (n := 2) (As := [_, _]) G (kX3_copyAt hD x y hx hy M L) gX3_erase_X3_copyAt oPage rfl rfl hdX3_copyAt rfl rfl ⟨Nat.le_of_ble_eq_true rfl, Nat.le_of_ble_eq_true rfl⟩ rfl rfl (Nat.le_of_ble_eq_true rfl) dX3_erase_3 ?_
  rintro _ _ _ ⟨rfl, rfl, qv⟩
  rcases qv with ⟨qv, rfl⟩ | ⟨qv, rfl⟩
  · generalize hie : (x * 5 + y).toNat = i
    have hi : i < 12 := by omega
    have hi10 : i < 10 := by omega
    refine g_astore (pc := 6) (lv' := [_, _, _, _, _, _]) G dX3_erase_6 (by decide) rfl ?_
    refine g_aload (pc := 8) G dX3_erase_8 rfl ?_
    refine g_ifnull (pc := 10) G dX3_erase_10 ?_
    refine g_iload_n (pc := 13) G dX3_erase_13 rfl ?_
    refine g_if_lt (pc := 14) G (by first | assumption | omega) 26 dX3_erase_14 (by decide) (fun h14 => ?_) (fun h14 => ?_)
    · -- 14 t
      refine g_iconst (pc := 26) G dX3_erase_26 ?_
      refine g_iret (pc := 27) G dX3_erase_27 ?_
      first | exact ⟨rfl, Or.inr ⟨fun q => qv q.1, rfl, rfl⟩⟩ | exact ⟨rfl, Or.inr ⟨by rw [hie]; intro q; omega, rfl, rfl⟩⟩
    · -- 14 f
      refine g_iload_n (pc := 17) G dX3_erase_17 rfl ?_
      refine g_aload (pc := 18) G dX3_erase_18 rfl ?_
      refine g_getI (pc := 20) G hinX0 (oCopy i hi) rfl 6 (by decide) f52 rfl rfl dX3_erase_20 ?_
      refine g_icmp_lt (pc := 23) G (by first | assumption | omega) (rg _) 28 dX3_erase_23 (by decide) (fun h23 => ?_) (fun h23 => ?_)
      · -- 23 t
        have hr := hI qv
        rw [hie] at hr
        obtain ⟨hm0, hm1, he0⟩ := hr
        have hsn : (M (29 + 5 * i) 1).toInt = vX M i 0 1 := rfl
        --go
        refine g_aload (pc := 28) G dX3_erase_28 rfl ?_
        refine g_getR (pc := 30) G hinX0 (oCopy i hi) rfl 0 (by decide) f62 rfl rfl dX3_erase_30 ?_
        refine g_iload_n (pc := 33) G dX3_erase_33 rfl ?_
        refine g_aload (pc := 34) G dX3_erase_34 rfl ?_
        refine g_iload_n (pc := 36) G dX3_erase_36 rfl ?_
        refine g_call (pc := 37) (n := 1) (As := [_]) G (kX0_seenAt hD i hi z hz M L) gX3_erase_X0_seenAt (oCopy i hi) rfl rfl hdX0_seenAt rfl rfl ⟨Nat.le_of_ble_eq_true rfl, Nat.le_of_ble_eq_true rfl⟩ rfl rfl (Nat.le_of_ble_eq_true rfl) dX3_erase_37 ?_
        rintro _ _ _ ⟨rfl, rfl, rfl⟩
        refine g_call (pc := 40) (n := 2) (As := [_, _]) G (kX2_addErase hD (tI i) (tI_lt i) y _ hy (rg_seenAt _ _ _) M L hm0 hm1 he0) gX3_erase_X2_addErase (oText _ (tI_lt i)) rfl rfl hdX2_addErase rfl rfl ⟨Nat.le_of_ble_eq_true rfl, Nat.le_of_ble_eq_true rfl⟩ rfl rfl (Nat.le_of_ble_eq_true rfl) dX3_erase_40 ?_
        rintro _ M1 _ ⟨rfl, ho1, hc1⟩
        rcases hc1 with ⟨q2, hv1, rfl⟩ | ⟨q2, hM1, rfl⟩
        · have hX1 : vX M1 i = (vX M i) := onT_X ho1 (tI_lt i) i
          have hdo := hd
          rw [hie] at hdo
          have hdo := hdo ⟨qv, by omega, by omega, q2⟩
          refine g_istore (pc := 43) (lv' := [_, _, _, _, _, _]) G dX3_erase_43 (by decide) rfl ?_
          refine g_aload (pc := 45) G dX3_erase_45 rfl ?_
          refine g_iload (pc := 47) G dX3_erase_47 rfl ?_
          refine g_call (pc := 49) (n := 1) (As := [_]) G (kX0_doOwn hD i hi _ M1 L (by rw [hv1, hX1]; exact hdo)) gX3_erase_X0_doOwn (oCopy i hi) rfl rfl hdX0_doOwn rfl rfl ⟨Nat.le_of_ble_eq_true rfl, Nat.le_of_ble_eq_true rfl⟩ rfl rfl (Nat.le_of_ble_eq_true rfl) dX3_erase_49 ?_
          rintro _ M2 _ ⟨rfl, rfl, ho2, hv2⟩
          rw [hv1, hX1] at hv2
          refine g_iload (pc := 52) G dX3_erase_52 rfl ?_
          refine g_iret (pc := 54) G dX3_erase_54 ?_
          refine ⟨rfl, Or.inl ?_⟩
          rw [hie]
          exact ⟨⟨qv, by omega, by omega, q2⟩, onTC_of ho1 ho2, by rw [onC_T ho2 _ (tI_lt i), hv1], hv2, rfl⟩
        · subst hM1
          refine g_istore (pc := 43) (lv' := [_, _, _, _, _, _]) G dX3_erase_43 (by decide) rfl ?_
          refine g_aload (pc := 45) G dX3_erase_45 rfl ?_
          refine g_iload (pc := 47) G dX3_erase_47 rfl ?_
          refine g_call (pc := 49) (n := 1) (As := [_]) G (kX0_doOwnN hD i hi _ ⟨by omega, by omega⟩ M1 L (noM _)) gX3_erase_X0_doOwn (oCopy i hi) rfl rfl hdX0_doOwn rfl rfl ⟨Nat.le_of_ble_eq_true rfl, Nat.le_of_ble_eq_true rfl⟩ rfl rfl (Nat.le_of_ble_eq_true rfl) dX3_erase_49 ?_
          rintro _ _ _ ⟨rfl, rfl, rfl⟩
          refine g_iload (pc := 52) G dX3_erase_52 rfl ?_
          refine g_iret (pc := 54) G dX3_erase_54 ?_
          exact ⟨rfl, Or.inr ⟨by rw [hie]; intro q; omega, rfl, rfl⟩⟩
      · -- 23 f
        have hsn : (M (29 + 5 * i) 1).toInt = vX M i 0 1 := rfl
        --go
        refine g_iconst (pc := 26) G dX3_erase_26 ?_
        refine g_iret (pc := 27) G dX3_erase_27 ?_
        first | exact ⟨rfl, Or.inr ⟨fun q => qv q.1, rfl, rfl⟩⟩ | exact ⟨rfl, Or.inr ⟨by rw [hie]; intro q; omega, rfl, rfl⟩⟩
  · skip
    refine g_astoreN (pc := 6) (lv' := [_, _, _, _, _, _]) G dX3_erase_6 (by decide) rfl ?_
    refine g_aloadN (pc := 8) G dX3_erase_8 rfl ?_
    refine g_ifnullN (pc := 10) G 26 dX3_erase_10 (by decide) ?_
    refine g_iconst (pc := 26) G dX3_erase_26 ?_
    refine g_iret (pc := 27) G dX3_erase_27 ?_
    first | exact ⟨rfl, Or.inr ⟨fun q => qv q.1, rfl, rfl⟩⟩ | exact ⟨rfl, Or.inr ⟨by rw [hie]; intro q; omega, rfl, rfl⟩⟩
set_option maxHeartbeats 4000000 in
set_option maxRecDepth 100000 in
theorem kX3_insert {l : Launch} {D : va_G} {cI cZ cJ cT cC : ClassId} {ad : Nat → Nat} {A : Nat → Prop} (hD : ∀ g : Nat → va_E, va_D A (sjW 89 ad g)) (x y z lt : Int) (hx : rng x) (hy : rng y) (hz : rng z) (hlt : rng lt) (M : sjM) (L : sjL) (hI : okTS x y ∧ 0 ≤ z ∧ z ≤ (vX M (x * 5 + y).toNat) 0 1 → 0 ≤ (vT M (tI (x * 5 + y).toNat)) 0 1 ∧ ((vT M (tI (x * 5 + y).toNat)) 0 0 < 60 → (vT M (tI (x * 5 + y).toNat)) 0 1 < 160) ∧ 0 ≤ (vT M (tI (x * 5 + y).toNat)) 0 0 ∧ 0 ≤ (vT M (tI (x * 5 + y).toNat)) 9 y ∧ (vT M (tI (x * 5 + y).toNat)) 9 y ≤ 60 ∧ aPl (vX M (x * 5 + y).toNat) (aLFP (vX M (x * 5 + y).toNat) z) ≤ 1000) (hd : okTS x y ∧ 0 ≤ z ∧ z ≤ (vX M (x * 5 + y).toNat) 0 1 ∧ 32 ≤ lt ∧ lt ≤ 126 ∧ (vT M (tI (x * 5 + y).toNat)) 0 0 < 60 → doOK (aMsg (aChr (vT M (tI (x * 5 + y).toNat)) y (aLFP (vX M (x * 5 + y).toNat) z) (aRFP (vX M (x * 5 + y).toNat) (decide (tI (x * 5 + y).toNat = 0)) z) lt) 0 y ((vT M (tI (x * 5 + y).toNat)) 0 0)) (decide (tI (x * 5 + y).toNat = 0)) (aStart (vX M (x * 5 + y).toNat)) ((vT M (tI (x * 5 + y).toNat)) 0 1)) : Met l yX3_insert wsX3_insert { frames := 6, cells := 0, slots := 0, locals := 137 } (sjA D cI cZ cJ cT cC 89 ad (kC cI cZ cJ cT cC ad) [.ref (ad 0), .int (iI x), .int (iI y), .int (iI z), .int (iI lt)] M L) (sjZ D 89 ad (kC cI cZ cJ cT cC ad) A (fun v M' L' => L = L' ∧ (((okTS x y ∧ 0 ≤ z ∧ z ≤ (vX M (x * 5 + y).toNat) 0 1 ∧ 32 ≤ lt ∧ lt ≤ 126 ∧ (vT M (tI (x * 5 + y).toNat)) 0 0 < 60) ∧ onTC M M' (tI (x * 5 + y).toNat) (x * 5 + y).toNat ∧ vT M' (tI (x * 5 + y).toNat) = (aMsg (aChr (vT M (tI (x * 5 + y).toNat)) y (aLFP (vX M (x * 5 + y).toNat) z) (aRFP (vX M (x * 5 + y).toNat) (decide (tI (x * 5 + y).toNat = 0)) z) lt) 0 y ((vT M (tI (x * 5 + y).toNat)) 0 0)) ∧ vX M' (x * 5 + y).toNat = aEnd (aDo (aMsg (aChr (vT M (tI (x * 5 + y).toNat)) y (aLFP (vX M (x * 5 + y).toNat) z) (aRFP (vX M (x * 5 + y).toNat) (decide (tI (x * 5 + y).toNat = 0)) z) lt) 0 y ((vT M (tI (x * 5 + y).toNat)) 0 0)) (decide (tI (x * 5 + y).toNat = 0)) (aStart (vX M (x * 5 + y).toNat)) ((vT M (tI (x * 5 + y).toNat)) 0 1)) ∧ v = some (.int (iI ((vT M (tI (x * 5 + y).toNat)) 0 1)))) ∨ (¬ ((okTS x y ∧ 0 ≤ z ∧ z ≤ (vX M (x * 5 + y).toNat) 0 1 ∧ 32 ≤ lt ∧ lt ≤ 126 ∧ (vT M (tI (x * 5 + y).toNat)) 0 0 < 60)) ∧ M' = M ∧ v = some (.int (iI (-1))))))) 0 0 A := by
  refine g_met (cc := cX3_insert) (maxL := 9) (ret := (some .int)) (lv := [_, _, _, _, _, _, _, _, _]) (by decide) rfl hD kC_loc (List.forall_mem_cons.mpr ⟨rfl, List.forall_mem_cons.mpr ⟨rfl, List.forall_mem_cons.mpr ⟨rfl, List.forall_mem_cons.mpr ⟨rfl, List.forall_mem_cons.mpr ⟨rfl, fun _ h => absurd h List.not_mem_nil⟩⟩⟩⟩⟩) (Nat.le_of_ble_eq_true rfl) rfl ?_
  intro J G
  have f52 : Cond.fieldLink RX3 52 "SharedPage$Copy" "seen" "I" ∈ wsX3_insert := by decide +kernel
  have f62 : Cond.fieldLink RX3 62 "SharedPage$Copy" "text" "LSharedPage$Text;" ∈ wsX3_insert := by decide +kernel
  have hinX0 : ∀ w ∈ u_ws RX0 TX0 12, w ∈ wsX3_insert := fun w h => List.mem_cons_of_mem _ (List.mem_append_left _ (List.mem_append_left _ (List.mem_append_right _ h)))
  refine g_aload_n (pc := 0) G dX3_insert_0 rfl ?_
  refine g_iload_n (pc := 1) G dX3_insert_1 rfl ?_
  refine g_iload_n (pc := 2) G dX3_insert_2 rfl ?_
  refine g_call (pc := 3) (n := 2) (As := [_, _]) G (kX3_copyAt hD x y hx hy M L) gX3_insert_X3_copyAt oPage rfl rfl hdX3_copyAt rfl rfl ⟨Nat.le_of_ble_eq_true rfl, Nat.le_of_ble_eq_true rfl⟩ rfl rfl (Nat.le_of_ble_eq_true rfl) dX3_insert_3 ?_
  rintro _ _ _ ⟨rfl, rfl, qv⟩
  rcases qv with ⟨qv, rfl⟩ | ⟨qv, rfl⟩
  · generalize hie : (x * 5 + y).toNat = i
    have hi : i < 12 := by omega
    have hi10 : i < 10 := by omega
    refine g_astore (pc := 6) (lv' := [_, _, _, _, _, _, _, _, _]) G dX3_insert_6 (by decide) rfl ?_
    refine g_aload (pc := 8) G dX3_insert_8 rfl ?_
    refine g_ifnull (pc := 10) G dX3_insert_10 ?_
    refine g_iload_n (pc := 13) G dX3_insert_13 rfl ?_
    refine g_if_lt (pc := 14) G (by first | assumption | omega) 26 dX3_insert_14 (by decide) (fun h14 => ?_) (fun h14 => ?_)
    · -- 14 t
      refine g_iconst (pc := 26) G dX3_insert_26 ?_
      refine g_iret (pc := 27) G dX3_insert_27 ?_
      first | exact ⟨rfl, Or.inr ⟨fun q => qv q.1, rfl, rfl⟩⟩ | exact ⟨rfl, Or.inr ⟨by rw [hie]; intro q; omega, rfl, rfl⟩⟩
    · -- 14 f
      refine g_iload_n (pc := 17) G dX3_insert_17 rfl ?_
      refine g_aload (pc := 18) G dX3_insert_18 rfl ?_
      refine g_getI (pc := 20) G hinX0 (oCopy i hi) rfl 6 (by decide) f52 rfl rfl dX3_insert_20 ?_
      refine g_icmp_le (pc := 23) G (by first | assumption | omega) (rg _) 28 dX3_insert_23 (by decide) (fun h23 => ?_) (fun h23 => ?_)
      · -- 23 t
        have hsn : (M (29 + 5 * i) 1).toInt = vX M i 0 1 := rfl
        --go
        refine g_iload (pc := 28) G dX3_insert_28 rfl ?_
        refine g_bipush (pc := 30) G dX3_insert_30 rfl ?_
        refine g_icmp_lt (pc := 32) G (by first | assumption | omega) (by first | assumption | omega) 42 dX3_insert_32 (by decide) (fun h32 => ?_) (fun h32 => ?_)
        · -- 32 t
          refine g_iconst (pc := 42) G dX3_insert_42 ?_
          refine g_iret (pc := 43) G dX3_insert_43 ?_
          exact ⟨rfl, Or.inr ⟨by rw [hie]; intro q; omega, rfl, rfl⟩⟩
        · -- 32 f
          refine g_iload (pc := 35) G dX3_insert_35 rfl ?_
          refine g_bipush (pc := 37) G dX3_insert_37 rfl ?_
          refine g_icmp_le (pc := 39) G (by first | assumption | omega) (by first | assumption | omega) 44 dX3_insert_39 (by decide) (fun h39 => ?_) (fun h39 => ?_)
          · -- 39 t
            have hr := hI ⟨qv, by omega, by rw [hie]; omega⟩
            rw [hie] at hr
            obtain ⟨hm0, hm1, hn0, h90, h91, hpl⟩ := hr
            --go
            refine g_aload (pc := 44) G dX3_insert_44 rfl ?_
            refine g_iload_n (pc := 46) G dX3_insert_46 rfl ?_
            refine g_call (pc := 47) (n := 1) (As := [_]) G (kX0_leftForPlace hD i hi z hz M L) gX3_insert_X0_leftForPlace (oCopy i hi) rfl rfl hdX0_leftForPlace rfl rfl ⟨Nat.le_of_ble_eq_true rfl, Nat.le_of_ble_eq_true rfl⟩ rfl rfl (Nat.le_of_ble_eq_true rfl) dX3_insert_47 ?_
            rintro _ _ _ ⟨rfl, rfl, rfl⟩
            refine g_istore (pc := 50) (lv' := [_, _, _, _, _, _, _, _, _]) G dX3_insert_50 (by decide) rfl ?_
            refine g_aload (pc := 52) G dX3_insert_52 rfl ?_
            refine g_iload_n (pc := 54) G dX3_insert_54 rfl ?_
            refine g_call (pc := 55) (n := 1) (As := [_]) G (kX0_rightForPlace hD i hi z hz M L hpl) gX3_insert_X0_rightForPlace (oCopy i hi) rfl rfl hdX0_rightForPlace rfl rfl ⟨Nat.le_of_ble_eq_true rfl, Nat.le_of_ble_eq_true rfl⟩ rfl rfl (Nat.le_of_ble_eq_true rfl) dX3_insert_55 ?_
            rintro _ _ _ ⟨rfl, rfl, rfl⟩
            refine g_istore (pc := 58) (lv' := [_, _, _, _, _, _, _, _, _]) G dX3_insert_58 (by decide) rfl ?_
            refine g_aload (pc := 60) G dX3_insert_60 rfl ?_
            refine g_getR (pc := 62) G hinX0 (oCopy i hi) rfl 0 (by decide) f62 rfl rfl dX3_insert_62 ?_
            refine g_iload_n (pc := 65) G dX3_insert_65 rfl ?_
            refine g_iload (pc := 66) G dX3_insert_66 rfl ?_
            refine g_iload (pc := 68) G dX3_insert_68 rfl ?_
            refine g_iload (pc := 70) G dX3_insert_70 rfl ?_
            refine g_call (pc := 72) (n := 4) (As := [_, _, _, _]) G (kX2_addInsert hD (tI i) (tI_lt i) y _ _ lt qv.2.2.1 qv.2.2.2 (rg_lfp _ _ _) (rg_rfp _ _ _ _) hlt M L hm0 hm1 hn0 h90 h91) gX3_insert_X2_addInsert (oText _ (tI_lt i)) rfl rfl hdX2_addInsert rfl rfl ⟨Nat.le_of_ble_eq_true rfl, Nat.le_of_ble_eq_true rfl⟩ rfl rfl (Nat.le_of_ble_eq_true rfl) dX3_insert_72 ?_
            rintro _ M1 _ ⟨rfl, ho1, hc1⟩
            rcases hc1 with ⟨q2, hv1, rfl⟩ | ⟨q2, hM1, rfl⟩
            · have hX1 : vX M1 i = (vX M i) := onT_X ho1 (tI_lt i) i
              have hdo := hd
              rw [hie] at hdo
              have hdo := hdo ⟨qv, by omega, by omega, by omega, by omega, q2⟩
              refine g_istore (pc := 75) (lv' := [_, _, _, _, _, _, _, _, _]) G dX3_insert_75 (by decide) rfl ?_
              refine g_aload (pc := 77) G dX3_insert_77 rfl ?_
              refine g_iload (pc := 79) G dX3_insert_79 rfl ?_
              refine g_call (pc := 81) (n := 1) (As := [_]) G (kX0_doOwn hD i hi _ M1 L (by rw [hv1, hX1]; exact hdo)) gX3_insert_X0_doOwn (oCopy i hi) rfl rfl hdX0_doOwn rfl rfl ⟨Nat.le_of_ble_eq_true rfl, Nat.le_of_ble_eq_true rfl⟩ rfl rfl (Nat.le_of_ble_eq_true rfl) dX3_insert_81 ?_
              rintro _ M2 _ ⟨rfl, rfl, ho2, hv2⟩
              rw [hv1, hX1] at hv2
              refine g_iload (pc := 84) G dX3_insert_84 rfl ?_
              refine g_iret (pc := 86) G dX3_insert_86 ?_
              refine ⟨rfl, Or.inl ?_⟩
              rw [hie]
              exact ⟨⟨qv, by omega, by omega, by omega, by omega, q2⟩, onTC_of ho1 ho2, by rw [onC_T ho2 _ (tI_lt i), hv1], hv2, rfl⟩
            · subst hM1
              refine g_istore (pc := 75) (lv' := [_, _, _, _, _, _, _, _, _]) G dX3_insert_75 (by decide) rfl ?_
              refine g_aload (pc := 77) G dX3_insert_77 rfl ?_
              refine g_iload (pc := 79) G dX3_insert_79 rfl ?_
              refine g_call (pc := 81) (n := 1) (As := [_]) G (kX0_doOwnN hD i hi _ ⟨by omega, by omega⟩ M1 L (noM _)) gX3_insert_X0_doOwn (oCopy i hi) rfl rfl hdX0_doOwn rfl rfl ⟨Nat.le_of_ble_eq_true rfl, Nat.le_of_ble_eq_true rfl⟩ rfl rfl (Nat.le_of_ble_eq_true rfl) dX3_insert_81 ?_
              rintro _ _ _ ⟨rfl, rfl, rfl⟩
              refine g_iload (pc := 84) G dX3_insert_84 rfl ?_
              refine g_iret (pc := 86) G dX3_insert_86 ?_
              exact ⟨rfl, Or.inr ⟨by rw [hie]; intro q; omega, rfl, rfl⟩⟩
          · -- 39 f
            refine g_iconst (pc := 42) G dX3_insert_42 ?_
            refine g_iret (pc := 43) G dX3_insert_43 ?_
            exact ⟨rfl, Or.inr ⟨by rw [hie]; intro q; omega, rfl, rfl⟩⟩
      · -- 23 f
        have hsn : (M (29 + 5 * i) 1).toInt = vX M i 0 1 := rfl
        --go
        refine g_iconst (pc := 26) G dX3_insert_26 ?_
        refine g_iret (pc := 27) G dX3_insert_27 ?_
        first | exact ⟨rfl, Or.inr ⟨fun q => qv q.1, rfl, rfl⟩⟩ | exact ⟨rfl, Or.inr ⟨by rw [hie]; intro q; omega, rfl, rfl⟩⟩
  · skip
    refine g_astoreN (pc := 6) (lv' := [_, _, _, _, _, _, _, _, _]) G dX3_insert_6 (by decide) rfl ?_
    refine g_aloadN (pc := 8) G dX3_insert_8 rfl ?_
    refine g_ifnullN (pc := 10) G 26 dX3_insert_10 (by decide) ?_
    refine g_iconst (pc := 26) G dX3_insert_26 ?_
    refine g_iret (pc := 27) G dX3_insert_27 ?_
    first | exact ⟨rfl, Or.inr ⟨fun q => qv q.1, rfl, rfl⟩⟩ | exact ⟨rfl, Or.inr ⟨by rw [hie]; intro q; omega, rfl, rfl⟩⟩
