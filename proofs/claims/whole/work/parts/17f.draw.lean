/-- the numbers of all that is DONE, from message k on: n so far, in O -/
def aLdF (X : aS) : Nat → Int → Int → (Int → Int) → Int × (Int → Int)
  | 0, _, n, O => (n, O)
  | f + 1, k, n, O => if aSt X k = 2 ∧ n < 160 then aLdF X f (k + 1) (n + 1) (fun z => if z = n then k else O z) else aLdF X f (k + 1) n O
/-- one is taken out at a, of r -/
def aTk (O : Int → Int) (a r : Int) : Int → Int := fun z => if a ≤ z ∧ z < r - 1 then O (z + 1) else O z
set_option maxHeartbeats 4000000 in
set_option maxRecDepth 100000 in
theorem kX3_listDone {l : Launch} {D : va_G} {cI cZ cJ cT cC : ClassId} {ad : Nat → Nat} {A : Nat → Prop} (hD : ∀ g : Nat → va_E, va_D A (sjW 89 ad g)) (i : Nat) (hi : i < 12) (M : sjM) (L : sjL)  : Met l yX3_listDone wsX3_listDone { frames := 1, cells := 0, slots := 0, locals := 21 } (sjA D cI cZ cJ cT cC 89 ad (kC cI cZ cJ cT cC ad) [.ref (ad 0), .ref (ad (29 + 5 * i))] M L) (sjZ D 89 ad (kC cI cZ cJ cT cC ad) A (fun v M' L' => L = L' ∧ (∀ k, k ≠ 7 → M' k = M k) ∧ (fun z => (M' 7 z).toInt) = (aLdF (vX M i) ((vT M (tI i)) 0 1).toNat 0 0 (fun z => (M 7 z).toInt)).2 ∧ v = some (.int (iI (aLdF (vX M i) ((vT M (tI i)) 0 1).toNat 0 0 (fun z => (M 7 z).toInt)).1)))) 0 0 A := by
  refine g_met (cc := cX3_listDone) (maxL := 4) (ret := (some .int)) (lv := [_, _, _, _]) (by decide) rfl hD kC_loc (List.forall_mem_cons.mpr ⟨rfl, List.forall_mem_cons.mpr ⟨rfl, fun _ h => absurd h List.not_mem_nil⟩⟩) (Nat.le_of_ble_eq_true rfl) rfl ?_
  intro J G
  have f37 : Cond.fieldLink RX3 37 "SharedPage" "drawing" "[I" ∈ wsX3_listDone := by decide +kernel
  have f62 : Cond.fieldLink RX3 62 "SharedPage$Copy" "text" "LSharedPage$Text;" ∈ wsX3_listDone := by decide +kernel
  have f94 : Cond.fieldLink RX3 94 "SharedPage$Text" "messages" "I" ∈ wsX3_listDone := by decide +kernel
  have hinX0 : ∀ w ∈ u_ws RX0 TX0 12, w ∈ wsX3_listDone := fun w h => List.mem_cons_of_mem _ (List.mem_append_left _ (List.mem_append_left _ (List.mem_append_right _ h)))
  have hinX2 : ∀ w ∈ u_ws RX2 TX2 13, w ∈ wsX3_listDone := fun w h => List.mem_cons_of_mem _ (List.mem_append_left _ (List.mem_append_right _ h))
  have hinX3 : ∀ w ∈ u_ws RX3 TX3 7, w ∈ wsX3_listDone := fun w h => List.mem_cons_of_mem _ (List.mem_append_right _ h)
  have hms := rg (M (9 + 10 * tI i) 1)
  have loop : ∀ (n : Nat) (q n0 : Int) (M1 : sjM) (O : Int → Int), 0 ≤ q → q ≤ 2147483647 → 0 ≤ n0 → n0 ≤ 160 → ((M (9 + 10 * tI i) 1).toInt - q).toNat < n → (∀ k, k ≠ 7 → M1 k = M k) → (fun z => (M1 7 z).toInt) = O → aLdF (vX M i) ((M (9 + 10 * tI i) 1).toInt - q).toNat q n0 O = aLdF (vX M i) ((M (9 + 10 * tI i) 1).toInt).toNat 0 0 (fun z => (M 7 z).toInt) → J 4 M1 L [some (.ref (ad 0)), some (.ref (ad (29 + 5 * i))), some (.int (iI n0)), some (.int (iI q))] [] := by
    intro n
    induction n with
    | zero => intro q n0 M1 O _ _ _ _ h; omega
    | succ n ih =>
      intro q n0 M1 O hq0 hq1 hn0 hn1 hn ho1 hO1 hR
      have hX1 : vX M1 i = (vX M i) := vX_o M M1 i (fun k h1 h2 => ho1 k (by clear hR; omega))
      have hL1 : (M1 (9 + 10 * tI i) 1).toInt = (M (9 + 10 * tI i) 1).toInt := by rw [ho1 _ (by clear hR; have := tI_lt i; omega)]
      refine g_iload_n (pc := 4) G dX3_listDone_4 rfl ?_
      refine g_aload_n (pc := 5) G dX3_listDone_5 rfl ?_
      refine g_getR (pc := 6) G hinX0 (oCopy i hi) rfl 0 (by decide) f62 rfl rfl dX3_listDone_6 ?_
      refine g_getI (pc := 9) G hinX2 (oText _ (tI_lt i)) rfl 11 (by decide) f94 rfl rfl dX3_listDone_9 ?_
      refine g_icmp_ge (pc := 12) G (by clear hR; omega) (rg _) 49 dX3_listDone_12 (by decide) (fun h12 => ?_) (fun h12 => ?_)
      · -- 12 t
        rw [show ((M (9 + 10 * tI i) 1).toInt - q).toNat = 0 by clear hR; omega, aLdF] at hR
        refine g_iload_n G dX3_listDone_49 rfl ?_
        refine g_iret G dX3_listDone_50 ?_
        exact ⟨rfl, ho1, by rw [vT_0, ← hR]; exact hO1, by rw [vT_0, ← hR]⟩
      · -- 12 f
        rw [show ((M (9 + 10 * tI i) 1).toInt - q).toNat = ((M (9 + 10 * tI i) 1).toInt - (q + 1)).toNat + 1 by clear hR; omega, aLdF] at hR
        --go
        refine g_aload_n (pc := 15) G dX3_listDone_15 rfl ?_
        refine g_iload_n (pc := 16) G dX3_listDone_16 rfl ?_
        refine g_call (pc := 17) (n := 1) (As := [_]) G (kX0_stateOf hD i hi q ⟨by clear hR; omega, by clear hR; omega⟩ M1 L) gX3_listDone_X0_stateOf (oCopy i hi) rfl rfl hdX0_stateOf rfl rfl ⟨Nat.le_of_ble_eq_true rfl, Nat.le_of_ble_eq_true rfl⟩ rfl rfl (Nat.le_of_ble_eq_true rfl) dX3_listDone_17 ?_
        rintro _ _ _ ⟨rfl, rfl, rfl⟩
        rw [hX1]
        refine g_iconst (pc := 20) G dX3_listDone_20 ?_
        refine g_icmp_ne (pc := 21) G (rg_st _ _ _) (by first | assumption | omega) 43 dX3_listDone_21 (by decide) (fun h21 => ?_) (fun h21 => ?_)
        · -- 21 t
          rw [if_neg (fun w => h21 w.1)] at hR
          --go
          refine g_iinc (pc := 43) (lv' := [_, _, _, _]) G dX3_listDone_43 (by decide) rfl rfl ?_
          refine g_goto (pc := 46) G 4 dX3_listDone_46 (by decide) ?_
          exact ih (q + 1) n0 M1 O (by clear hR; omega) (by clear hR; omega) (by clear hR; omega) (by clear hR; omega) (by clear hR; omega) ho1 hO1 hR
        · -- 21 f
          refine g_iload_n (pc := 24) G dX3_listDone_24 rfl ?_
          refine g_aload_n (pc := 25) G dX3_listDone_25 rfl ?_
          refine g_getR (pc := 26) G hinX3 oPage rfl 4 (by decide) f37 rfl rfl dX3_listDone_26 ?_
          refine g_alenI (pc := 29) G aDraw dX3_listDone_29 ?_
          refine g_icmp_ge (pc := 30) G (by clear hR; omega) (by clear hR; omega) 43 dX3_listDone_30 (by decide) (fun h30 => ?_) (fun h30 => ?_)
          · -- 30 t
            rw [if_neg (fun w => by have := w.2; clear hR; omega)] at hR
            --go
            refine g_iinc (pc := 43) (lv' := [_, _, _, _]) G dX3_listDone_43 (by decide) rfl rfl ?_
            refine g_goto (pc := 46) G 4 dX3_listDone_46 (by decide) ?_
            exact ih (q + 1) n0 M1 O (by clear hR; omega) (by clear hR; omega) (by clear hR; omega) (by clear hR; omega) (by clear hR; omega) ho1 hO1 hR
          · -- 30 f
            rw [if_pos ⟨h21, by clear hR; omega⟩] at hR
            --go
            refine g_aload_n (pc := 33) G dX3_listDone_33 rfl ?_
            refine g_getR (pc := 34) G hinX3 oPage rfl 4 (by decide) f37 rfl rfl dX3_listDone_34 ?_
            refine g_iload_n (pc := 37) G dX3_listDone_37 rfl ?_
            refine g_iload_n (pc := 38) G dX3_listDone_38 rfl ?_
            refine g_iast (pc := 39) G aDraw ⟨by clear hR; omega, by clear hR; omega⟩ dX3_listDone_39 ?_
            refine g_mem (fun M2 L2 hM2 hL2 => ?_)
            obtain rfl : L = L2 := hL2.symm
            have ho2 : ∀ k, k ≠ 7 → M2 k = M k := by
              intro k hk
              rw [hM2, sjU_o hk]
              exact ho1 k hk
            have hO2 : (fun z => (M2 7 z).toInt) = fun z => if z = n0 then q else O z := by
              funext z
              rw [hM2, sjU_s, ← congrFun hO1 z]
              split
              · exact iI_toInt ⟨by clear hR; omega, by clear hR; omega⟩
              · rfl
            clear hM2
            refine g_iinc (pc := 40) (lv' := [_, _, _, _]) G dX3_listDone_40 (by decide) rfl rfl ?_
            refine g_iinc (pc := 43) (lv' := [_, _, _, _]) G dX3_listDone_43 (by decide) rfl rfl ?_
            refine g_goto (pc := 46) G 4 dX3_listDone_46 (by decide) ?_
            exact ih (q + 1) (n0 + 1) M2 _ (by clear hR; omega) (by clear hR; omega) (by clear hR; omega) (by clear hR; omega) (by clear hR; omega) ho2 hO2 hR
  refine g_iconst (pc := 0) G dX3_listDone_0 ?_
  refine g_istore_n (pc := 1) (lv' := [_, _, _, _]) G dX3_listDone_1 (by decide) rfl ?_
  refine g_iconst (pc := 2) G dX3_listDone_2 ?_
  refine g_istore_n (pc := 3) (lv' := [_, _, _, _]) G dX3_listDone_3 (by decide) rfl ?_
  exact loop _ 0 0 M (fun z => (M 7 z).toInt) (by omega) (by omega) (by omega) (by omega) (Nat.lt_succ_self _) (fun k _ => rfl) rfl (by rw [Int.sub_zero])
set_option maxHeartbeats 4000000 in
set_option maxRecDepth 100000 in
theorem kX3_takeDrawn {l : Launch} {D : va_G} {cI cZ cJ cT cC : ClassId} {ad : Nat → Nat} {A : Nat → Prop} (hD : ∀ g : Nat → va_E, va_D A (sjW 89 ad g)) (a r : Int) (h0 : 0 ≤ a) (h1 : a < r) (h2 : r ≤ 160) (M : sjM) (L : sjL)  : Met l yX3_takeDrawn wsX3_takeDrawn { frames := 0, cells := 0, slots := 0, locals := 0 } (sjA D cI cZ cJ cT cC 89 ad (kC cI cZ cJ cT cC ad) [.ref (ad 0), .int (iI a), .int (iI r)] M L) (sjZ D 89 ad (kC cI cZ cJ cT cC ad) A (fun v M' L' => L = L' ∧ (∀ k, k ≠ 7 → M' k = M k) ∧ (fun z => (M' 7 z).toInt) = aTk (fun z => (M 7 z).toInt) a r ∧ v = some (.int (iI (M 7 a).toInt)))) 0 0 A := by
  refine g_met (cc := cX3_takeDrawn) (maxL := 5) (ret := (some .int)) (lv := [_, _, _, _, _]) (by decide) rfl hD kC_loc (List.forall_mem_cons.mpr ⟨rfl, List.forall_mem_cons.mpr ⟨rfl, List.forall_mem_cons.mpr ⟨rfl, fun _ h => absurd h List.not_mem_nil⟩⟩⟩) (Nat.le_of_ble_eq_true rfl) rfl ?_
  intro J G
  have f37 : Cond.fieldLink RX3 37 "SharedPage" "drawing" "[I" ∈ wsX3_takeDrawn := by decide +kernel
  have hinX3 : ∀ w ∈ u_ws RX3 TX3 7, w ∈ wsX3_takeDrawn := fun w h => List.mem_cons_of_mem _ (List.mem_append_right _ h)
  have loop : ∀ (n : Nat) (p : Int) (M1 : sjM), a + 1 ≤ p → p ≤ r → (r - p).toNat < n → (∀ k, k ≠ 7 → M1 k = M k) → (fun z => (M1 7 z).toInt) = aTk (fun z => (M 7 z).toInt) a p → J 32 M1 L [some (.ref (ad 0)), some (.int (iI a)), some (.int (iI r)), some (.int (iI (M 7 a).toInt)), some (.int (iI p))] [] := by
    intro n
    induction n with
    | zero => intro p M1 _ _ h; omega
    | succ n ih =>
      intro p M1 hp0 hp1 hn ho1 hO1
      refine g_iload (pc := 32) G dX3_takeDrawn_32 rfl ?_
      refine g_iload_n (pc := 34) G dX3_takeDrawn_34 rfl ?_
      refine g_icmp_ge (pc := 35) G (by first | assumption | omega) (by first | assumption | omega) 60 dX3_takeDrawn_35 (by decide) (fun h35 => ?_) (fun h35 => ?_)
      · -- 35 t
        obtain rfl : r = p := by omega
        refine g_iload_n G dX3_takeDrawn_60 rfl ?_
        refine g_iret G dX3_takeDrawn_61 ?_
        exact ⟨rfl, ho1, hO1, rfl⟩
      · -- 35 f
        refine g_aload_n (pc := 38) G dX3_takeDrawn_38 rfl ?_
        refine g_getR (pc := 39) G hinX3 oPage rfl 4 (by decide) f37 rfl rfl dX3_takeDrawn_39 ?_
        refine g_iload (pc := 42) G dX3_takeDrawn_42 rfl ?_
        refine g_iconst (pc := 44) G dX3_takeDrawn_44 ?_
        refine g_isub (pc := 45) G dX3_takeDrawn_45 ?_
        refine g_aload_n (pc := 46) G dX3_takeDrawn_46 rfl ?_
        refine g_getR (pc := 47) G hinX3 oPage rfl 4 (by decide) f37 rfl rfl dX3_takeDrawn_47 ?_
        refine g_iload (pc := 50) G dX3_takeDrawn_50 rfl ?_
        refine g_iald (pc := 52) G aDraw (by omega) dX3_takeDrawn_52 ?_
        refine g_iast (pc := 53) G aDraw (by omega) dX3_takeDrawn_53 ?_
        refine g_mem (fun M2 L2 hM2 hL2 => ?_)
        obtain rfl : L = L2 := hL2.symm
        have ho2 : ∀ k, k ≠ 7 → M2 k = M k := by
          intro k hk
          rw [hM2, sjU_o hk]
          exact ho1 k hk
        have hO2 : (fun z => (M2 7 z).toInt) = aTk (fun z => (M 7 z).toInt) a (p + 1) := by
          funext z
          have hz := congrFun hO1 z
          have hp := congrFun hO1 p
          try dsimp only at hz hp
          unfold aTk at hz hp ⊢
          rw [if_neg (by omega)] at hp
          rw [hM2, sjU_s]
          by_cases hq : z = p - 1
          · rw [if_pos hq, iI_toInt (rg _), hp, if_pos (by omega), hq, show p - 1 + 1 = p by omega]
          · rw [if_neg hq, hz]
            by_cases hc : a ≤ z ∧ z < p - 1
            · rw [if_pos hc, if_pos (by omega)]
            · rw [if_neg hc, if_neg (by omega)]
        clear hM2
        refine g_iinc (pc := 54) (lv' := [_, _, _, _, _]) G dX3_takeDrawn_54 (by decide) rfl rfl ?_
        refine g_goto (pc := 57) G 32 dX3_takeDrawn_57 (by decide) ?_
        exact ih (p + 1) M2 (by omega) (by omega) (by omega) ho2 hO2
  refine g_iload_n (pc := 0) G dX3_takeDrawn_0 rfl ?_
  refine g_if_lt (pc := 1) G (by first | assumption | omega) 18 dX3_takeDrawn_1 (by decide) (fun h1 => ?_) (fun h1 => ?_)
  · -- 1 t
    exfalso
    omega
  · -- 1 f
    refine g_iload_n (pc := 4) G dX3_takeDrawn_4 rfl ?_
    refine g_iload_n (pc := 5) G dX3_takeDrawn_5 rfl ?_
    refine g_icmp_ge (pc := 6) G (by first | assumption | omega) (by first | assumption | omega) 18 dX3_takeDrawn_6 (by decide) (fun h6 => ?_) (fun h6 => ?_)
    · -- 6 t
      exfalso
      omega
    · -- 6 f
      refine g_iload_n (pc := 9) G dX3_takeDrawn_9 rfl ?_
      refine g_aload_n (pc := 10) G dX3_takeDrawn_10 rfl ?_
      refine g_getR (pc := 11) G hinX3 oPage rfl 4 (by decide) f37 rfl rfl dX3_takeDrawn_11 ?_
      refine g_alenI (pc := 14) G aDraw dX3_takeDrawn_14 ?_
      refine g_icmp_le (pc := 15) G (by first | assumption | omega) (by first | assumption | omega) 20 dX3_takeDrawn_15 (by decide) (fun h15 => ?_) (fun h15 => ?_)
      · -- 15 t
        refine g_aload_n (pc := 20) G dX3_takeDrawn_20 rfl ?_
        refine g_getR (pc := 21) G hinX3 oPage rfl 4 (by decide) f37 rfl rfl dX3_takeDrawn_21 ?_
        refine g_iload_n (pc := 24) G dX3_takeDrawn_24 rfl ?_
        refine g_iald (pc := 25) G aDraw (by omega) dX3_takeDrawn_25 ?_
        refine g_istore_n (pc := 26) (lv' := [_, _, _, _, _]) G dX3_takeDrawn_26 (by decide) rfl ?_
        refine g_iload_n (pc := 27) G dX3_takeDrawn_27 rfl ?_
        refine g_iconst (pc := 28) G dX3_takeDrawn_28 ?_
        refine g_iadd (pc := 29) G dX3_takeDrawn_29 ?_
        refine g_istore (pc := 30) (lv' := [_, _, _, _, _]) G dX3_takeDrawn_30 (by decide) rfl ?_
        exact loop _ (a + 1) M (by omega) (by omega) (Nat.lt_succ_self _) (fun k _ => rfl) (by funext z; unfold aTk; rw [if_neg (by omega)])
      · -- 15 f
        exfalso
        omega
