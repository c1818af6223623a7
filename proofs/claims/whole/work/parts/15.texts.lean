theorem vT_U (M : sjM) (t j : Nat) (z : Int) (x : Int32) (h : j < 10) : vT (sjU M (9 + 10 * t + j) z x) t = aUp (vT M t) j z x.toInt := by
  funext a b
  unfold vT aUp sjU
  by_cases ha : a < 10
  · by_cases hj : a = j
    · subst hj
      by_cases hb : b = z <;> simp [ha, hb]
    · have : ¬ (9 + 10 * t + a = 9 + 10 * t + j) := by omega
      simp [ha, hj, this]
  · have : ¬ a = j := by omega
    simp [ha, this]
theorem vT_U0 (M : sjM) (t : Nat) (z : Int) (x : Int32) : vT (sjU M (9 + 10 * t) z x) t = aUp (vT M t) 0 z x.toInt := vT_U M t 0 z x (by omega)
/-- nothing but text t's ten cells has changed -/
def onT (M M' : sjM) (t : Nat) : Prop := ∀ k, ¬ (9 + 10 * t ≤ k ∧ k ≤ 9 + 10 * t + 9) → M' k = M k
theorem onT_rf (M : sjM) (t : Nat) : onT M M t := fun _ _ => rfl
theorem onT_tr {M M1 M2 : sjM} {t : Nat} (h1 : onT M M1 t) (h2 : onT M1 M2 t) : onT M M2 t := fun k h => (h2 k h).trans (h1 k h)
theorem onT_U (M : sjM) (t j : Nat) (z : Int) (x : Int32) (h : j < 10) : onT M (sjU M (9 + 10 * t + j) z x) t := fun k hk => sjU_o (by omega)
theorem onT_U0 (M : sjM) (t : Nat) (z : Int) (x : Int32) : onT M (sjU M (9 + 10 * t) z x) t := onT_U M t 0 z x (by omega)
theorem onT_X {M M' : sjM} {t : Nat} (h : onT M M' t) (ht : t < 2) (i : Nat) : vX M' i = vX M i := vX_o M M' i (fun k h1 h2 => h k (by omega))
theorem onT_T {M M' : sjM} {t t2 : Nat} (h : onT M M' t) (hn : t2 ≠ t) : vT M' t2 = vT M t2 := vT_o M M' t2 (fun k h1 h2 => h k (by omega))
/-- a message is made; a CHARACTER is made -/
def aMsg (T : aS) (kd st c : Int) : aS := aUp (aUp (aUp (aUp T 6 (T 0 1) kd) 7 (T 0 1) st) 8 (T 0 1) c) 0 1 (T 0 1 + 1)
def aChr (T : aS) (st lf rt lt : Int) : aS := aUp (aUp (aUp (aUp (aUp (aUp (aUp T 1 (T 0 0) st) 2 (T 0 0) (100 * st + T 9 st)) 3 (T 0 0) lt) 4 (T 0 0) lf) 5 (T 0 0) rt) 9 st (T 9 st + 1)) 0 0 (T 0 0 + 1)
def aErs (T : aS) : aS := aUp T 0 2 (T 0 2 + 1)
set_option maxHeartbeats 4000000 in
set_option maxRecDepth 100000 in
theorem kX2_addMessage {l : Launch} {D : va_G} {cI cZ cJ cT cC : ClassId} {ad : Nat → Nat} {A : Nat → Prop} (hD : ∀ g : Nat → va_E, va_D A (sjW 89 ad g)) (t : Nat) (ht : t < 2) (kd st c : Int) (hkd : rng kd) (hst : rng st) (hc : rng c) (M : sjM) (L : sjL) (h0 : 0 ≤ vT M t 0 1) (h1 : vT M t 0 1 < 160) : Met l yX2_addMessage wsX2_addMessage { frames := 0, cells := 0, slots := 0, locals := 0 } (sjA D cI cZ cJ cT cC 89 ad (kC cI cZ cJ cT cC ad) [.ref (ad (9 + 10 * t)), .int (iI kd), .int (iI st), .int (iI c)] M L) (sjZ D 89 ad (kC cI cZ cJ cT cC ad) A (fun v M' L' => L = L' ∧ onT M M' t ∧ vT M' t = aMsg (vT M t) kd st c ∧ v = some (.int (iI (vT M t 0 1))))) 0 0 A := by
  refine g_met (cc := cX2_addMessage) (maxL := 5) (ret := (some .int)) (lv := [_, _, _, _, _]) (by decide) rfl hD kC_loc (List.forall_mem_cons.mpr ⟨rfl, List.forall_mem_cons.mpr ⟨rfl, List.forall_mem_cons.mpr ⟨rfl, List.forall_mem_cons.mpr ⟨rfl, fun _ h => absurd h List.not_mem_nil⟩⟩⟩⟩) (Nat.le_of_ble_eq_true rfl) rfl ?_
  intro J G
  have f31 : Cond.fieldLink RX2 31 "SharedPage$Text" "kinds" "[I" ∈ wsX2_addMessage := by decide +kernel
  have f34 : Cond.fieldLink RX2 34 "SharedPage$Text" "makers" "[I" ∈ wsX2_addMessage := by decide +kernel
  have f37 : Cond.fieldLink RX2 37 "SharedPage$Text" "subjects" "[I" ∈ wsX2_addMessage := by decide +kernel
  have f47 : Cond.fieldLink RX2 47 "SharedPage$Text" "messages" "I" ∈ wsX2_addMessage := by decide +kernel
  have hinX2 : ∀ w ∈ u_ws RX2 TX2 13, w ∈ wsX2_addMessage := fun w h => List.mem_cons_of_mem _ (List.mem_append_right _ h)
  have h0r : (M (9 + 10 * t) 1).toInt = vT M t 0 1 := rfl
  refine g_aload_n (pc := 0) G dX2_addMessage_0 rfl ?_
  refine g_getI (pc := 1) G hinX2 (oText t ht) rfl 11 (by decide) f47 rfl rfl dX2_addMessage_1 ?_
  refine g_istore (pc := 4) (lv' := [_, _, _, _, _]) G dX2_addMessage_4 (by decide) rfl ?_
  refine g_iload (pc := 6) G dX2_addMessage_6 rfl ?_
  refine g_if_lt (pc := 8) G (rg _) 19 dX2_addMessage_8 (by decide) (fun h8 => ?_) (fun h8 => ?_)
  · -- 8 t
    exfalso
    omega
  · -- 8 f
    refine g_iload (pc := 11) G dX2_addMessage_11 rfl ?_
    refine g_sipush (pc := 13) G dX2_addMessage_13 rfl ?_
    refine g_icmp_lt (pc := 16) G (rg _) (by first | assumption | omega) 21 dX2_addMessage_16 (by decide) (fun h16 => ?_) (fun h16 => ?_)
    · -- 16 t
      refine g_aload_n (pc := 21) G dX2_addMessage_21 rfl ?_
      refine g_getR (pc := 22) G hinX2 (oText t ht) rfl 6 (by decide) f31 rfl rfl dX2_addMessage_22 ?_
      refine g_iload (pc := 25) G dX2_addMessage_25 rfl ?_
      refine g_iload_n (pc := 27) G dX2_addMessage_27 rfl ?_
      refine g_iast (pc := 28) G (aText160 t 6 ht (by omega) (by omega)) (by omega) dX2_addMessage_28 ?_
      refine g_aload_n (pc := 29) G dX2_addMessage_29 rfl ?_
      refine g_getR (pc := 30) G hinX2 (oText t ht) rfl 7 (by decide) f34 rfl rfl dX2_addMessage_30 ?_
      refine g_iload (pc := 33) G dX2_addMessage_33 rfl ?_
      refine g_iload_n (pc := 35) G dX2_addMessage_35 rfl ?_
      refine g_iast (pc := 36) G (aText160 t 7 ht (by omega) (by omega)) (by omega) dX2_addMessage_36 ?_
      refine g_aload_n (pc := 37) G dX2_addMessage_37 rfl ?_
      refine g_getR (pc := 38) G hinX2 (oText t ht) rfl 8 (by decide) f37 rfl rfl dX2_addMessage_38 ?_
      refine g_iload (pc := 41) G dX2_addMessage_41 rfl ?_
      refine g_iload_n (pc := 43) G dX2_addMessage_43 rfl ?_
      refine g_iast (pc := 44) G (aText160 t 8 ht (by omega) (by omega)) (by omega) dX2_addMessage_44 ?_
      refine g_aload_n (pc := 45) G dX2_addMessage_45 rfl ?_
      refine g_dup (pc := 46) G dX2_addMessage_46 rfl ?_
      refine g_getI (pc := 47) G hinX2 (oText t ht) rfl 11 (by decide) f47 rfl rfl dX2_addMessage_47 ?_
      refine g_iconst (pc := 50) G dX2_addMessage_50 ?_
      refine g_iadd (pc := 51) G dX2_addMessage_51 ?_
      refine g_put (pc := 52) G tyX2 tyX2_ok nmX2 hinX2 (oText t ht) rfl 11 (by decide) (pText _ _).2.1 f47 rfl rfl rfl dX2_addMessage_52 ?_
      refine g_iload (pc := 55) G dX2_addMessage_55 rfl ?_
      refine g_iret (pc := 57) G dX2_addMessage_57 ?_
      have h1 : (M (9 + 10 * t) 1).toInt = vT M t 0 1 := rfl
      refine ⟨rfl, onT_tr (onT_tr (onT_tr (onT_U M t 6 _ _ (by omega)) (onT_U _ t 7 _ _ (by omega))) (onT_U _ t 8 _ _ (by omega))) (onT_U0 _ t _ _), ?_, by rw [h1]⟩
      have e : (sjU (sjU (sjU M (9 + 10 * t + 6) (M (9 + 10 * t) 1).toInt (iI kd)) (9 + 10 * t + 7) (M (9 + 10 * t) 1).toInt (iI st)) (9 + 10 * t + 8) (M (9 + 10 * t) 1).toInt (iI c) (9 + 10 * t) 1).toInt = vT M t 0 1 := by
        rw [sjU_o (by omega), sjU_o (by omega), sjU_o (by omega)]
        rfl
      rw [vT_U0, vT_U _ t 8 _ _ (by omega), vT_U _ t 7 _ _ (by omega), vT_U _ t 6 _ _ (by omega), e, iI_toInt hkd, iI_toInt hst, iI_toInt hc, iI_toInt (show rng (vT M t 0 1 + 1) by omega)]
      rfl
    · -- 16 f
      exfalso
      omega
set_option maxHeartbeats 4000000 in
set_option maxRecDepth 100000 in
theorem kX2_addErase {l : Launch} {D : va_G} {cI cZ cJ cT cC : ClassId} {ad : Nat → Nat} {A : Nat → Prop} (hD : ∀ g : Nat → va_E, va_D A (sjW 89 ad g)) (t : Nat) (ht : t < 2) (st c : Int) (hst : rng st) (hc : rng c) (M : sjM) (L : sjL) (h0 : 0 ≤ vT M t 0 1) (h1 : vT M t 0 2 < 100 → vT M t 0 1 < 160) (h2 : 0 ≤ vT M t 0 2) : Met l yX2_addErase wsX2_addErase { frames := 1, cells := 0, slots := 0, locals := 24 } (sjA D cI cZ cJ cT cC 89 ad (kC cI cZ cJ cT cC ad) [.ref (ad (9 + 10 * t)), .int (iI st), .int (iI c)] M L) (sjZ D 89 ad (kC cI cZ cJ cT cC ad) A (fun v M' L' => L = L' ∧ onT M M' t ∧ ((vT M t 0 2 < 100 ∧ vT M' t = aMsg (aErs (vT M t)) 1 st c ∧ v = some (.int (iI (vT M t 0 1)))) ∨ (100 ≤ vT M t 0 2 ∧ M' = M ∧ v = some (.int (iI (-1))))))) 0 0 A := by
  refine g_met (cc := cX2_addErase) (maxL := 3) (ret := (some .int)) (lv := [_, _, _]) (by decide) rfl hD kC_loc (List.forall_mem_cons.mpr ⟨rfl, List.forall_mem_cons.mpr ⟨rfl, List.forall_mem_cons.mpr ⟨rfl, fun _ h => absurd h List.not_mem_nil⟩⟩⟩) (Nat.le_of_ble_eq_true rfl) rfl ?_
  intro J G
  have f50 : Cond.fieldLink RX2 50 "SharedPage$Text" "erases" "I" ∈ wsX2_addErase := by decide +kernel
  have hinX2 : ∀ w ∈ u_ws RX2 TX2 13, w ∈ wsX2_addErase := fun w h => List.mem_cons_of_mem _ (List.mem_append_right _ h)
  have h2r : (M (9 + 10 * t) 2).toInt = vT M t 0 2 := rfl
  refine g_aload_n (pc := 0) G dX2_addErase_0 rfl ?_
  refine g_getI (pc := 1) G hinX2 (oText t ht) rfl 12 (by decide) f50 rfl rfl dX2_addErase_1 ?_
  refine g_bipush (pc := 4) G dX2_addErase_4 rfl ?_
  refine g_icmp_lt (pc := 6) G (rg _) (by first | assumption | omega) 11 dX2_addErase_6 (by decide) (fun h6 => ?_) (fun h6 => ?_)
  · -- 6 t
    refine g_aload_n (pc := 11) G dX2_addErase_11 rfl ?_
    refine g_dup (pc := 12) G dX2_addErase_12 rfl ?_
    refine g_getI (pc := 13) G hinX2 (oText t ht) rfl 12 (by decide) f50 rfl rfl dX2_addErase_13 ?_
    refine g_iconst (pc := 16) G dX2_addErase_16 ?_
    refine g_iadd (pc := 17) G dX2_addErase_17 ?_
    refine g_put (pc := 18) G tyX2 tyX2_ok nmX2 hinX2 (oText t ht) rfl 12 (by decide) (pText _ _).2.2 f50 rfl rfl rfl dX2_addErase_18 ?_
    refine g_mem (fun M1 L1 hM1 hL1 => ?_)
    subst hL1
    have hv1 : vT M1 t = aErs (vT M t) := by
      rw [hM1, vT_U0, h2r, iI_toInt (show rng (vT M t 0 2 + 1) by omega)]
      rfl
    have ho1 : onT M M1 t := by rw [hM1]; exact onT_U0 _ t _ _
    clear hM1
    have e1 : vT M1 t 0 1 = vT M t 0 1 := by rw [hv1]; rfl
    refine g_aload_n (pc := 21) G dX2_addErase_21 rfl ?_
    refine g_iconst (pc := 22) G dX2_addErase_22 ?_
    refine g_iload_n (pc := 23) G dX2_addErase_23 rfl ?_
    refine g_iload_n (pc := 24) G dX2_addErase_24 rfl ?_
    refine g_call (pc := 25) (n := 3) (As := [_, _, _]) G (kX2_addMessage hD t ht 1 st c ⟨by omega, by omega⟩ hst hc M1 L1 (by rw [e1]; exact h0) (by rw [e1]; exact h1 (by omega))) gX2_addErase_X2_addMessage (oText t ht) rfl rfl hdX2_addMessage rfl rfl ⟨Nat.le_of_ble_eq_true rfl, Nat.le_of_ble_eq_true rfl⟩ rfl rfl (Nat.le_of_ble_eq_true rfl) dX2_addErase_25 ?_
    rintro _ M2 _ ⟨rfl, ho2, hv2, rfl⟩
    rw [e1]
    refine g_iret (pc := 28) G dX2_addErase_28 ?_
    exact ⟨rfl, onT_tr ho1 ho2, Or.inl ⟨by omega, by rw [hv2, hv1], rfl⟩⟩
  · -- 6 f
    refine g_iconst (pc := 9) G dX2_addErase_9 ?_
    refine g_iret (pc := 10) G dX2_addErase_10 ?_
    exact ⟨rfl, onT_rf M t, Or.inr ⟨by omega, rfl, rfl⟩⟩
set_option maxHeartbeats 4000000 in
set_option maxRecDepth 100000 in
theorem kX2_addInsert {l : Launch} {D : va_G} {cI cZ cJ cT cC : ClassId} {ad : Nat → Nat} {A : Nat → Prop} (hD : ∀ g : Nat → va_E, va_D A (sjW 89 ad g)) (t : Nat) (ht : t < 2) (st lf rt lt : Int) (hst0 : 0 ≤ st) (hst1 : st < 5) (hlf : rng lf) (hrt : rng rt) (hlt : rng lt) (M : sjM) (L : sjL) (h0 : 0 ≤ vT M t 0 1) (h1 : vT M t 0 0 < 60 → vT M t 0 1 < 160) (hn : 0 ≤ vT M t 0 0) (h9 : 0 ≤ vT M t 9 st) (h9a : vT M t 9 st ≤ 60) : Met l yX2_addInsert wsX2_addInsert { frames := 1, cells := 0, slots := 0, locals := 24 } (sjA D cI cZ cJ cT cC 89 ad (kC cI cZ cJ cT cC ad) [.ref (ad (9 + 10 * t)), .int (iI st), .int (iI lf), .int (iI rt), .int (iI lt)] M L) (sjZ D 89 ad (kC cI cZ cJ cT cC ad) A (fun v M' L' => L = L' ∧ onT M M' t ∧ ((vT M t 0 0 < 60 ∧ vT M' t = aMsg (aChr (vT M t) st lf rt lt) 0 st (vT M t 0 0) ∧ v = some (.int (iI (vT M t 0 1)))) ∨ (60 ≤ vT M t 0 0 ∧ M' = M ∧ v = some (.int (iI (-1))))))) 0 0 A := by
  refine g_met (cc := cX2_addInsert) (maxL := 6) (ret := (some .int)) (lv := [_, _, _, _, _, _]) (by decide) rfl hD kC_loc (List.forall_mem_cons.mpr ⟨rfl, List.forall_mem_cons.mpr ⟨rfl, List.forall_mem_cons.mpr ⟨rfl, List.forall_mem_cons.mpr ⟨rfl, List.forall_mem_cons.mpr ⟨rfl, fun _ h => absurd h List.not_mem_nil⟩⟩⟩⟩⟩) (Nat.le_of_ble_eq_true rfl) rfl ?_
  intro J G
  have f15 : Cond.fieldLink RX2 15 "SharedPage$Text" "sites" "[I" ∈ wsX2_addInsert := by decide +kernel
  have f19 : Cond.fieldLink RX2 19 "SharedPage$Text" "marks" "[I" ∈ wsX2_addInsert := by decide +kernel
  have f22 : Cond.fieldLink RX2 22 "SharedPage$Text" "letters" "[I" ∈ wsX2_addInsert := by decide +kernel
  have f25 : Cond.fieldLink RX2 25 "SharedPage$Text" "lefts" "[I" ∈ wsX2_addInsert := by decide +kernel
  have f28 : Cond.fieldLink RX2 28 "SharedPage$Text" "rights" "[I" ∈ wsX2_addInsert := by decide +kernel
  have f40 : Cond.fieldLink RX2 40 "SharedPage$Text" "madeBy" "[I" ∈ wsX2_addInsert := by decide +kernel
  have f43 : Cond.fieldLink RX2 43 "SharedPage$Text" "characters" "I" ∈ wsX2_addInsert := by decide +kernel
  have hinX2 : ∀ w ∈ u_ws RX2 TX2 13, w ∈ wsX2_addInsert := fun w h => List.mem_cons_of_mem _ (List.mem_append_right _ h)
  have hnr : (M (9 + 10 * t) 0).toInt = vT M t 0 0 := rfl
  have ho0 : onT M M t := onT_rf M t
  have hv0 : vT M t = vT M t := rfl
  refine g_aload_n (pc := 0) G dX2_addInsert_0 rfl ?_
  refine g_getI (pc := 1) G hinX2 (oText t ht) rfl 10 (by decide) f43 rfl rfl dX2_addInsert_1 ?_
  refine g_istore (pc := 4) (lv' := [_, _, _, _, _, _]) G dX2_addInsert_4 (by decide) rfl ?_
  refine g_iload (pc := 6) G dX2_addInsert_6 rfl ?_
  refine g_if_lt (pc := 8) G (rg _) 27 dX2_addInsert_8 (by decide) (fun h8 => ?_) (fun h8 => ?_)
  · -- 8 t
    exfalso
    omega
  · -- 8 f
    refine g_iload (pc := 11) G dX2_addInsert_11 rfl ?_
    refine g_bipush (pc := 13) G dX2_addInsert_13 rfl ?_
    refine g_icmp_ge (pc := 15) G (rg _) (by first | assumption | omega) 27 dX2_addInsert_15 (by decide) (fun h15 => ?_) (fun h15 => ?_)
    · -- 15 t
      refine g_iconst (pc := 27) G dX2_addInsert_27 ?_
      refine g_iret (pc := 28) G dX2_addInsert_28 ?_
      exact ⟨rfl, onT_rf M t, Or.inr ⟨by omega, rfl, rfl⟩⟩
    · -- 15 f
      refine g_iload_n (pc := 18) G dX2_addInsert_18 rfl ?_
      refine g_if_lt (pc := 19) G (by first | assumption | omega) 27 dX2_addInsert_19 (by decide) (fun h19 => ?_) (fun h19 => ?_)
      · -- 19 t
        exfalso
        omega
      · -- 19 f
        refine g_iload_n (pc := 22) G dX2_addInsert_22 rfl ?_
        refine g_iconst (pc := 23) G dX2_addInsert_23 ?_
        refine g_icmp_lt (pc := 24) G (by first | assumption | omega) (by first | assumption | omega) 29 dX2_addInsert_24 (by decide) (fun h24 => ?_) (fun h24 => ?_)
        · -- 24 t
          refine g_aload_n (pc := 29) G dX2_addInsert_29 rfl ?_
          refine g_getR (pc := 30) G hinX2 (oText t ht) rfl 1 (by decide) f15 rfl rfl dX2_addInsert_30 ?_
          refine g_iload (pc := 33) G dX2_addInsert_33 rfl ?_
          refine g_iload_n (pc := 35) G dX2_addInsert_35 rfl ?_
          refine g_iast (pc := 36) G (aText60 t 1 ht (by omega) (by omega)) (by omega) dX2_addInsert_36 ?_
          refine g_mem (fun M1 L1 hM1 hL1 => ?_)
          subst hL1
          have hv1 : vT M1 t = aUp (vT M t) 1 (vT M t 0 0) (st) := by
            rw [hM1, vT_U _ t 1 _ _ (by omega), hv0, iI_toInt (show rng st by omega), hnr]
          have ho1 : onT M M1 t := by rw [hM1]; exact onT_tr ho0 (onT_U _ t 1 _ _ (by omega))
          clear hM1
          refine g_aload_n (pc := 37) G dX2_addInsert_37 rfl ?_
          refine g_getR (pc := 38) G hinX2 (oText t ht) rfl 2 (by decide) f19 rfl rfl dX2_addInsert_38 ?_
          refine g_iload (pc := 41) G dX2_addInsert_41 rfl ?_
          refine g_bipush (pc := 43) G dX2_addInsert_43 rfl ?_
          refine g_iload_n (pc := 45) G dX2_addInsert_45 rfl ?_
          refine g_imul (pc := 46) G dX2_addInsert_46 ?_
          refine g_aload_n (pc := 47) G dX2_addInsert_47 rfl ?_
          refine g_getR (pc := 48) G hinX2 (oText t ht) rfl 9 (by decide) f40 rfl rfl dX2_addInsert_48 ?_
          refine g_iload_n (pc := 51) G dX2_addInsert_51 rfl ?_
          refine g_iald (pc := 52) G (aText5 t ht) (by omega) dX2_addInsert_52 ?_
          refine g_iadd (pc := 53) G dX2_addInsert_53 ?_
          refine g_iast (pc := 54) G (aText60 t 2 ht (by omega) (by omega)) (by omega) dX2_addInsert_54 ?_
          have e9 : (M1 (9 + 10 * t + 9) st).toInt = vT M t 9 st := by
            rw [← vT_j M1 t 9 st (by omega), hv1]
            rfl
          refine g_mem (fun M2 L2 hM2 hL2 => ?_)
          subst hL2
          have hv2 : vT M2 t = aUp (aUp (vT M t) 1 (vT M t 0 0) st) 2 (vT M t 0 0) (100 * st + vT M t 9 st) := by
            rw [hM2, vT_U _ t 2 _ _ (by omega), hv1, e9, iI_toInt (show rng (100 * st + vT M t 9 st) by omega), hnr]
          have ho2 : onT M M2 t := by rw [hM2]; exact onT_tr ho1 (onT_U _ t 2 _ _ (by omega))
          clear hM2
          refine g_aload_n (pc := 55) G dX2_addInsert_55 rfl ?_
          refine g_getR (pc := 56) G hinX2 (oText t ht) rfl 3 (by decide) f22 rfl rfl dX2_addInsert_56 ?_
          refine g_iload (pc := 59) G dX2_addInsert_59 rfl ?_
          refine g_iload (pc := 61) G dX2_addInsert_61 rfl ?_
          refine g_iast (pc := 63) G (aText60 t 3 ht (by omega) (by omega)) (by omega) dX2_addInsert_63 ?_
          refine g_mem (fun M3 L3 hM3 hL3 => ?_)
          subst hL3
          have hv3 : vT M3 t = aUp (aUp (aUp (vT M t) 1 (vT M t 0 0) st) 2 (vT M t 0 0) (100 * st + vT M t 9 st)) 3 (vT M t 0 0) (lt) := by
            rw [hM3, vT_U _ t 3 _ _ (by omega), hv2, iI_toInt hlt, hnr]
          have ho3 : onT M M3 t := by rw [hM3]; exact onT_tr ho2 (onT_U _ t 3 _ _ (by omega))
          clear hM3
          refine g_aload_n (pc := 64) G dX2_addInsert_64 rfl ?_
          refine g_getR (pc := 65) G hinX2 (oText t ht) rfl 4 (by decide) f25 rfl rfl dX2_addInsert_65 ?_
          refine g_iload (pc := 68) G dX2_addInsert_68 rfl ?_
          refine g_iload_n (pc := 70) G dX2_addInsert_70 rfl ?_
          refine g_iast (pc := 71) G (aText60 t 4 ht (by omega) (by omega)) (by omega) dX2_addInsert_71 ?_
          refine g_mem (fun M4 L4 hM4 hL4 => ?_)
          subst hL4
          have hv4 : vT M4 t = aUp (aUp (aUp (aUp (vT M t) 1 (vT M t 0 0) st) 2 (vT M t 0 0) (100 * st + vT M t 9 st)) 3 (vT M t 0 0) lt) 4 (vT M t 0 0) (lf) := by
            rw [hM4, vT_U _ t 4 _ _ (by omega), hv3, iI_toInt hlf, hnr]
          have ho4 : onT M M4 t := by rw [hM4]; exact onT_tr ho3 (onT_U _ t 4 _ _ (by omega))
          clear hM4
          refine g_aload_n (pc := 72) G dX2_addInsert_72 rfl ?_
          refine g_getR (pc := 73) G hinX2 (oText t ht) rfl 5 (by decide) f28 rfl rfl dX2_addInsert_73 ?_
          refine g_iload (pc := 76) G dX2_addInsert_76 rfl ?_
          refine g_iload_n (pc := 78) G dX2_addInsert_78 rfl ?_
          refine g_iast (pc := 79) G (aText60 t 5 ht (by omega) (by omega)) (by omega) dX2_addInsert_79 ?_
          refine g_mem (fun M5 L5 hM5 hL5 => ?_)
          subst hL5
          have hv5 : vT M5 t = aUp (aUp (aUp (aUp (aUp (vT M t) 1 (vT M t 0 0) st) 2 (vT M t 0 0) (100 * st + vT M t 9 st)) 3 (vT M t 0 0) lt) 4 (vT M t 0 0) lf) 5 (vT M t 0 0) (rt) := by
            rw [hM5, vT_U _ t 5 _ _ (by omega), hv4, iI_toInt hrt, hnr]
          have ho5 : onT M M5 t := by rw [hM5]; exact onT_tr ho4 (onT_U _ t 5 _ _ (by omega))
          clear hM5
          refine g_aload_n (pc := 80) G dX2_addInsert_80 rfl ?_
          refine g_getR (pc := 81) G hinX2 (oText t ht) rfl 9 (by decide) f40 rfl rfl dX2_addInsert_81 ?_
          refine g_iload_n (pc := 84) G dX2_addInsert_84 rfl ?_
          refine g_dup2 (pc := 85) G dX2_addInsert_85 rfl rfl ?_
          refine g_iald (pc := 86) G (aText5 t ht) (by omega) dX2_addInsert_86 ?_
          refine g_iconst (pc := 87) G dX2_addInsert_87 ?_
          refine g_iadd (pc := 88) G dX2_addInsert_88 ?_
          refine g_iast (pc := 89) G (aText5 t ht) (by omega) dX2_addInsert_89 ?_
          have e9 : (M5 (9 + 10 * t + 9) st).toInt = vT M t 9 st := by
            rw [← vT_j M5 t 9 st (by omega), hv5]
            rfl
          refine g_mem (fun M6 L6 hM6 hL6 => ?_)
          subst hL6
          have hv6 : vT M6 t = aUp (aUp (aUp (aUp (aUp (aUp (vT M t) 1 (vT M t 0 0) st) 2 (vT M t 0 0) (100 * st + vT M t 9 st)) 3 (vT M t 0 0) lt) 4 (vT M t 0 0) lf) 5 (vT M t 0 0) rt) 9 st (vT M t 9 st + 1) := by
            rw [hM6, vT_U _ t 9 _ _ (by omega), hv5, e9, iI_toInt (show rng (vT M t 9 st + 1) by omega)]
          have ho6 : onT M M6 t := by rw [hM6]; exact onT_tr ho5 (onT_U _ t 9 _ _ (by omega))
          clear hM6
          refine g_aload_n (pc := 90) G dX2_addInsert_90 rfl ?_
          refine g_dup (pc := 91) G dX2_addInsert_91 rfl ?_
          refine g_getI (pc := 92) G hinX2 (oText t ht) rfl 10 (by decide) f43 rfl rfl dX2_addInsert_92 ?_
          refine g_iconst (pc := 95) G dX2_addInsert_95 ?_
          refine g_iadd (pc := 96) G dX2_addInsert_96 ?_
          refine g_put (pc := 97) G tyX2 tyX2_ok nmX2 hinX2 (oText t ht) rfl 10 (by decide) (pText _ _).1 f43 rfl rfl rfl dX2_addInsert_97 ?_
          have e0 : (M6 (9 + 10 * t) 0).toInt = vT M t 0 0 := by
            rw [← vT_0 M6 t 0, hv6]
            rfl
          refine g_mem (fun M7 L7 hM7 hL7 => ?_)
          subst hL7
          have hv7 : vT M7 t = aChr (vT M t) st lf rt lt := by
            rw [hM7, vT_U0, hv6, e0, iI_toInt (show rng (vT M t 0 0 + 1) by omega)]
            rfl
          have ho7 : onT M M7 t := by rw [hM7]; exact onT_tr ho6 (onT_U0 _ t _ _)
          clear hM7
          have e1 : vT M7 t 0 1 = vT M t 0 1 := by rw [hv7]; rfl
          refine g_aload_n (pc := 100) G dX2_addInsert_100 rfl ?_
          refine g_iconst (pc := 101) G dX2_addInsert_101 ?_
          refine g_iload_n (pc := 102) G dX2_addInsert_102 rfl ?_
          refine g_iload (pc := 103) G dX2_addInsert_103 rfl ?_
          refine g_call (pc := 105) (n := 3) (As := [_, _, _]) G (kX2_addMessage hD t ht 0 st (vT M t 0 0) ⟨by omega, by omega⟩ ⟨by omega, by omega⟩ ⟨by omega, by omega⟩ M7 L7 (by rw [e1]; exact h0) (by rw [e1]; exact h1 (by omega))) gX2_addInsert_X2_addMessage (oText t ht) rfl rfl hdX2_addMessage rfl rfl ⟨Nat.le_of_ble_eq_true rfl, Nat.le_of_ble_eq_true rfl⟩ rfl rfl (Nat.le_of_ble_eq_true rfl) dX2_addInsert_105 ?_
          rintro _ M8 _ ⟨rfl, ho8, hv8, rfl⟩
          rw [e1]
          refine g_iret (pc := 108) G dX2_addInsert_108 ?_
          exact ⟨rfl, onT_tr ho7 ho8, Or.inl ⟨by omega, by rw [hv8, hv7], rfl⟩⟩
        · -- 24 f
          exfalso
          omega
