set_option maxHeartbeats 4000000 in
set_option maxRecDepth 100000 in
theorem kX3_shuffle {l : Launch} {D : va_G} {cI cZ cJ cT cC : ClassId} {ad : Nat → Nat} {A : Nat → Prop} (hD : ∀ g : Nat → va_E, va_D A (sjW 89 ad g)) (x y z : Int) (hx : rng x) (hy : rng y) (hz : rng z) (M : sjM) (L : sjL) (lts : Nat → Int → Int → Prop) (hI : pInv M lts) : Met l yX3_shuffle wsX3_shuffle { frames := 6, cells := 0, slots := 0, locals := 140 } (sjA D cI cZ cJ cT cC 89 ad (kC cI cZ cJ cT cC ad) [.ref (ad 0), .int (iI x), .int (iI y), .int (iI z)] M L) (sjZ D 89 ad (kC cI cZ cJ cT cC ad) A (fun v M' L' => L = L' ∧ ((okTS x y ∧ (∀ k, k ≠ 7 → ¬ (29 + 5 * (10 + x.toNat) ≤ k ∧ k ≤ 29 + 5 * (10 + x.toNat) + 4) → M' k = M k) ∧ v = some (.int (iI (if (aShuF (vT M (tI (x * 5 + y).toNat)) (decide (tI (x * 5 + y).toNat = 0)) (aLdF (vX M (x * 5 + y).toNat) ((vT M (tI (x * 5 + y).toNat)) 0 1).toNat 0 0 (fun z => (M 7 z).toInt)).1.toNat z (aLdF (vX M (x * 5 + y).toNat) ((vT M (tI (x * 5 + y).toNat)) 0 1).toNat 0 0 (fun z => (M 7 z).toInt)).1 (aLdF (vX M (x * 5 + y).toNat) ((vT M (tI (x * 5 + y).toNat)) 0 1).toNat 0 0 (fun z => (M 7 z).toInt)).2 (aEmp (vX M (10 + x.toNat)))) 0 3 = 0 then aAlike (aShuF (vT M (tI (x * 5 + y).toNat)) (decide (tI (x * 5 + y).toNat = 0)) (aLdF (vX M (x * 5 + y).toNat) ((vT M (tI (x * 5 + y).toNat)) 0 1).toNat 0 0 (fun z => (M 7 z).toInt)).1.toNat z (aLdF (vX M (x * 5 + y).toNat) ((vT M (tI (x * 5 + y).toNat)) 0 1).toNat 0 0 (fun z => (M 7 z).toInt)).1 (aLdF (vX M (x * 5 + y).toNat) ((vT M (tI (x * 5 + y).toNat)) 0 1).toNat 0 0 (fun z => (M 7 z).toInt)).2 (aEmp (vX M (10 + x.toNat)))) (vX M (x * 5 + y).toNat) else 0)))) ∨ (¬ okTS x y ∧ M' = M ∧ v = some (.int (iI 0)))))) 0 0 A := by
  refine g_met (cc := cX3_shuffle) (maxL := 9) (ret := (some .boolean)) (lv := [_, _, _, _, _, _, _, _, _]) (by decide) rfl hD kC_loc (List.forall_mem_cons.mpr ⟨rfl, List.forall_mem_cons.mpr ⟨rfl, List.forall_mem_cons.mpr ⟨rfl, List.forall_mem_cons.mpr ⟨rfl, fun _ h => absurd h List.not_mem_nil⟩⟩⟩⟩) (Nat.le_of_ble_eq_true rfl) rfl ?_
  intro J G
  have f109 : Cond.fieldLink RX3 109 "SharedPage$Copy" "waiting" "I" ∈ wsX3_shuffle := by decide +kernel
  have hinX0 : ∀ w ∈ u_ws RX0 TX0 12, w ∈ wsX3_shuffle := fun w h => List.mem_cons_of_mem _ (List.mem_append_left _ (List.mem_append_left _ (List.mem_append_right _ h)))
  refine g_aload_n (pc := 0) G dX3_shuffle_0 rfl ?_
  refine g_iload_n (pc := 1) G dX3_shuffle_1 rfl ?_
  refine g_iload_n (pc := 2) G dX3_shuffle_2 rfl ?_
  refine g_call (pc := 3) (n := 2) (As := [_, _]) G (kX3_copyAt hD x y hx hy M L) gX3_shuffle_X3_copyAt oPage rfl rfl hdX3_copyAt rfl rfl ⟨Nat.le_of_ble_eq_true rfl, Nat.le_of_ble_eq_true rfl⟩ rfl rfl (Nat.le_of_ble_eq_true rfl) dX3_shuffle_3 ?_
  rintro _ _ _ ⟨rfl, rfl, qv⟩
  rcases qv with ⟨qv, rfl⟩ | ⟨qv, rfl⟩
  · generalize hie : (x * 5 + y).toNat = i
    have hi : i < 12 := by omega
    have hi10 : i < 10 := by omega
    refine g_astore (pc := 6) (lv' := [_, _, _, _, _, _, _, _, _]) G dX3_shuffle_6 (by decide) rfl ?_
    refine g_aload_n (pc := 8) G dX3_shuffle_8 rfl ?_
    refine g_iload_n (pc := 9) G dX3_shuffle_9 rfl ?_
    refine g_call (pc := 10) (n := 1) (As := [_]) G (kX3_spareOf hD x hx M L) gX3_shuffle_X3_spareOf oPage rfl rfl hdX3_spareOf rfl rfl ⟨Nat.le_of_ble_eq_true rfl, Nat.le_of_ble_eq_true rfl⟩ rfl rfl (Nat.le_of_ble_eq_true rfl) dX3_shuffle_10 ?_
    rintro _ _ _ ⟨rfl, rfl, qw⟩
    rcases qw with ⟨qw, rfl⟩ | ⟨qw, rfl⟩
    · generalize hje : 10 + x.toNat = j
      have hj : j < 12 := by omega
      refine g_astore (pc := 13) (lv' := [_, _, _, _, _, _, _, _, _]) G dX3_shuffle_13 (by decide) rfl ?_
      refine g_aload (pc := 15) G dX3_shuffle_15 rfl ?_
      refine g_ifnull (pc := 17) G dX3_shuffle_17 ?_
      refine g_aload (pc := 20) G dX3_shuffle_20 rfl ?_
      refine g_ifnonnull (pc := 22) G 27 dX3_shuffle_22 (by decide) ?_
      refine g_aload (pc := 27) G dX3_shuffle_27 rfl ?_
      refine g_call (pc := 29) (n := 0) (As := []) G (kX0_makeEmpty hD j hj M L) gX3_shuffle_X0_makeEmpty (oCopy j hj) rfl rfl hdX0_makeEmpty rfl rfl ⟨Nat.le_of_ble_eq_true rfl, Nat.le_of_ble_eq_true rfl⟩ rfl rfl (Nat.le_of_ble_eq_true rfl) dX3_shuffle_29 ?_
      rintro _ M1 _ ⟨rfl, rfl, ho1, hv1⟩
      refine g_iload_n (pc := 32) G dX3_shuffle_32 rfl ?_
      refine g_istore (pc := 33) (lv' := [_, _, _, _, _, _, _, _, _]) G dX3_shuffle_33 (by decide) rfl ?_
      refine g_aload_n (pc := 35) G dX3_shuffle_35 rfl ?_
      refine g_aload (pc := 36) G dX3_shuffle_36 rfl ?_
      refine g_call (pc := 38) (n := 1) (As := [_]) G (kX3_listDone hD i hi M1 L) gX3_shuffle_X3_listDone oPage rfl rfl hdX3_listDone rfl rfl ⟨Nat.le_of_ble_eq_true rfl, Nat.le_of_ble_eq_true rfl⟩ rfl rfl (Nat.le_of_ble_eq_true rfl) dX3_shuffle_38 ?_
      rintro _ M2 _ ⟨rfl, ho2, hO2, rfl⟩
      refine g_istore (pc := 41) (lv' := [_, _, _, _, _, _, _, _, _]) G dX3_shuffle_41 (by decide) rfl ?_
      have hij : tI j = tI i := by
        unfold tI
        rw [← hie, ← hje]
        have h1 := qv.1
        have h2 := qv.2.1
        have h3 := qv.2.2
        rcases (show x = 0 ∨ x = 1 by omega) with q | q
        · subst q
          rw [if_pos (show (0 * 5 + y).toNat < 5 by omega)]
          rfl
        · subst q
          rw [if_neg (show ¬ (1 * 5 + y).toNat < 5 by omega), if_pos (show (1 * 5 + y).toNat < 10 by omega)]
          rfl
      obtain ⟨ht, ho, -⟩ := hI i hi10
      have hj10 : 10 ≤ j := by omega
      generalize hlt : lts (tI i) = lt at ho
      have hL0 := aLdF_le (vX M i) ((vT M (tI i)) 0 1).toNat 0 0 (fun z => (M 7 z).toInt) (by omega) (by omega)
      have hX1 : vX M1 i = (vX M i) := onC_X ho1 (by omega)
      have hT1 : vT M1 (tI i) = (vT M (tI i)) := onC_T ho1 _ (tI_lt i)
      have h71 : (fun z => (M1 7 z).toInt) = fun z => (M 7 z).toInt := by rw [ho1 7 (by omega)]
      rw [hX1, hT1, h71] at hO2 ⊢
      have loop : ∀ (n : Nat) (r s : Int) (M3 : sjM) (O : Int → Int) (x8 : Option Value), 0 ≤ r → r ≤ 160 → r.toNat < n → (∀ k, k ≠ 7 → ¬ (29 + 5 * j ≤ k ∧ k ≤ 29 + 5 * j + 4) → M3 k = M k) → cInv (vT M (tI i)) lt (vX M3 j) → (fun z => (M3 7 z).toInt) = O → aShuF (vT M (tI i)) (decide (tI i = 0)) r.toNat s r O (vX M3 j) = aShuF (vT M (tI i)) (decide (tI i = 0)) (aLdF (vX M i) ((vT M (tI i)) 0 1).toNat 0 0 (fun z => (M 7 z).toInt)).1.toNat z (aLdF (vX M i) ((vT M (tI i)) 0 1).toNat 0 0 (fun z => (M 7 z).toInt)).1 (aLdF (vX M i) ((vT M (tI i)) 0 1).toNat 0 0 (fun z => (M 7 z).toInt)).2 (aEmp (vX M j)) → J 43 M3 L [some (.ref (ad 0)), some (.int (iI x)), some (.int (iI y)), some (.int (iI z)), some (.ref (ad (29 + 5 * i))), some (.ref (ad (29 + 5 * j))), some (.int (iI s)), some (.int (iI r)), x8] [] := by
        intro n
        induction n with
        | zero => intro r s M3 O x8 _ _ h; omega
        | succ n ih =>
          intro r s M3 O x8 hr0 hr1 hn ho3 hin hO1 hR
          have hT3 : vT M3 (tI j) = (vT M (tI i)) := by rw [hij]; exact vT_o M M3 _ (fun k h1 h2 => ho3 k (by clear hR; omega) (by clear hR; have := tI_lt i; omega))
          have hX3 : vX M3 i = (vX M i) := vX_o M M3 i (fun k h1 h2 => ho3 k (by clear hR; omega) (by clear hR; omega))
          refine g_iload (pc := 43) G dX3_shuffle_43 rfl ?_
          refine g_if_le (pc := 45) G (by clear hR; omega) 89 dX3_shuffle_45 (by decide) (fun h45 => ?_) (fun h45 => ?_)
          · -- 45 t
            rw [show r.toNat = 0 by clear hR; omega, aShuF] at hR
            refine g_aload (pc := 89) G dX3_shuffle_89 rfl ?_
            refine g_getI (pc := 91) G hinX0 (oCopy j hj) rfl 8 (by decide) f109 rfl rfl dX3_shuffle_91 ?_
            refine g_if_ne (pc := 94) G (rg _) 111 dX3_shuffle_94 (by decide) (fun h94 => ?_) (fun h94 => ?_)
            · -- 94 t
              have hw3 : ¬ vX M3 j 0 3 = 0 := h94
              --go
              refine g_iconst (pc := 111) G dX3_shuffle_111 ?_
              refine g_zret (pc := 112) G rfl dX3_shuffle_112 ?_
              refine ⟨rfl, Or.inl ?_⟩
              rw [hie, hje, ← hR]
              first | exact ⟨qv, ho3, by rw [if_neg hw3]⟩ | exact ⟨qv, ho3, by rw [if_pos hw3, h01]⟩
            · -- 94 f
              have hw3 : vX M3 j 0 3 = 0 := h94
              --go
              refine g_aload (pc := 97) G dX3_shuffle_97 rfl ?_
              refine g_aload (pc := 99) G dX3_shuffle_99 rfl ?_
              refine g_call (pc := 101) (n := 1) (As := [_]) G (kX0_isLike hD j hj i hi M3 L) gX3_shuffle_X0_isLike (oCopy j hj) rfl rfl hdX0_isLike rfl rfl ⟨Nat.le_of_ble_eq_true rfl, Nat.le_of_ble_eq_true rfl⟩ rfl rfl (Nat.le_of_ble_eq_true rfl) dX3_shuffle_101 ?_
              rintro _ _ _ ⟨rfl, rfl, rfl⟩
              rw [hX3]
              rcases aAlike_01 (vX M3 j) (vX M i) with h01 | h01
              · rw [h01]
                refine g_if_eq (pc := 104) G (by omega) 111 dX3_shuffle_104 (by decide) (fun _ => ?_) (fun h => absurd h (by decide))
                refine g_iconst (pc := 111) G dX3_shuffle_111 ?_
                refine g_zret (pc := 112) G rfl dX3_shuffle_112 ?_
                refine ⟨rfl, Or.inl ?_⟩
                rw [hie, hje, ← hR]
                first | exact ⟨qv, ho3, by rw [if_neg hw3]⟩ | exact ⟨qv, ho3, by rw [if_pos hw3, h01]⟩
              · rw [h01]
                refine g_if_eq (pc := 104) G (by omega) 111 dX3_shuffle_104 (by decide) (fun h => absurd h (by decide)) (fun _ => ?_)
                refine g_iconst (pc := 107) G dX3_shuffle_107 ?_
                refine g_goto (pc := 108) G 112 dX3_shuffle_108 (by decide) ?_
                refine g_zret (pc := 112) G rfl dX3_shuffle_112 ?_
                refine ⟨rfl, Or.inl ?_⟩
                rw [hie, hje, ← hR]
                first | exact ⟨qv, ho3, by rw [if_neg hw3]⟩ | exact ⟨qv, ho3, by rw [if_pos hw3, h01]⟩
          · -- 45 f
            rw [show r.toNat = (r - 1).toNat + 1 by clear hR; omega, aShuF] at hR
            have ha0 : 0 ≤ ((up16 (s * (1103515245 : Int32).toInt + 12345) : Int) % r) := Int.emod_nonneg _ (by clear hR; omega)
            have ha1 : ((up16 (s * (1103515245 : Int32).toInt + 12345) : Int) % r) < r := Int.emod_lt_of_pos _ h45
            --go
            refine g_iload (pc := 48) G dX3_shuffle_48 rfl ?_
            refine g_ldc (pc := 50) (v := 1103515245) G (by decide +kernel) dX3_shuffle_50 ?_
            refine g_imul (pc := 52) G dX3_shuffle_52 ?_
            refine g_sipush (pc := 53) G dX3_shuffle_53 rfl ?_
            refine g_iadd (pc := 56) G dX3_shuffle_56 ?_
            refine g_istore (pc := 57) (lv' := [_, _, _, _, _, _, _, _, _]) G dX3_shuffle_57 (by decide) rfl ?_
            refine g_aload_n (pc := 59) G dX3_shuffle_59 rfl ?_
            refine g_iload (pc := 60) G dX3_shuffle_60 rfl ?_
            refine g_bipush (pc := 62) G dX3_shuffle_62 rfl ?_
            refine g_iushr (pc := 64) G dX3_shuffle_64 ?_
            refine g_top (ushr16 _) ?_
            refine g_iload (pc := 65) G dX3_shuffle_65 rfl ?_
            refine g_irem (pc := 67) G dX3_shuffle_67 (fun w => by have := (iI_eq ⟨by clear hR; omega, by clear hR; omega⟩ sjz).mp w; clear hR; omega) ?_
            refine g_top (rem16 _ r (by clear hR; omega) (by clear hR; omega)) ?_
            refine g_iload (pc := 68) G dX3_shuffle_68 rfl ?_
            refine g_call (pc := 70) (n := 2) (As := [_, _]) G (kX3_takeDrawn hD ((up16 (s * (1103515245 : Int32).toInt + 12345) : Int) % r) r ha0 ha1 (by clear hR; omega) M3 L) gX3_shuffle_X3_takeDrawn oPage rfl rfl hdX3_takeDrawn rfl rfl ⟨Nat.le_of_ble_eq_true rfl, Nat.le_of_ble_eq_true rfl⟩ rfl rfl (Nat.le_of_ble_eq_true rfl) dX3_shuffle_70 ?_
            rintro _ M4 _ ⟨rfl, ho4, hO4, rfl⟩
            have e7 : (M3 7 ((up16 (s * (1103515245 : Int32).toInt + 12345) : Int) % r)).toInt = O ((up16 (s * (1103515245 : Int32).toInt + 12345) : Int) % r) := congrFun hO1 ((up16 (s * (1103515245 : Int32).toInt + 12345) : Int) % r)
            rw [e7]
            have hY4 : vX M4 j = vX M3 j := vX_o M3 M4 j (fun k h1 h2 => ho4 k (by clear hR; omega))
            have hT4 : vT M4 (tI j) = (vT M (tI i)) := by rw [vT_o M3 M4 _ (fun k h1 h2 => ho4 k (by clear hR; omega)), hT3]
            have hkr : rng (O ((up16 (s * (1103515245 : Int32).toInt + 12345) : Int) % r)) := by rw [← e7]; exact rg _
            refine g_istore (pc := 73) (lv' := [_, _, _, _, _, _, _, _, _]) G dX3_shuffle_73 (by decide) rfl ?_
            refine g_aload (pc := 75) G dX3_shuffle_75 rfl ?_
            refine g_iload (pc := 77) G dX3_shuffle_77 rfl ?_
            refine g_call (pc := 79) (n := 1) (As := [_]) G (kX0_hear hD j hj (O ((up16 (s * (1103515245 : Int32).toInt + 12345) : Int) % r)) hkr M4 L lt (by rw [hT4]; exact ht) (by rw [hT4, hij]; exact ho) (by rw [hT4, hY4]; exact hin)) gX3_shuffle_X0_hear (oCopy j hj) rfl rfl hdX0_hear rfl rfl ⟨Nat.le_of_ble_eq_true rfl, Nat.le_of_ble_eq_true rfl⟩ rfl rfl (Nat.le_of_ble_eq_true rfl) dX3_shuffle_79 ?_
            rintro _ M5 _ ⟨rfl, ho5, hv5, rfl⟩
            rw [hT4, hY4, hij] at hv5
            have ho6 : ∀ k, k ≠ 7 → ¬ (29 + 5 * j ≤ k ∧ k ≤ 29 + 5 * j + 4) → M5 k = M k := by
              intro k h7 hc
              rw [ho5 k hc, ho4 k h7]
              exact ho3 k h7 hc
            have hO5 : (fun z => (M5 7 z).toInt) = aTk O ((up16 (s * (1103515245 : Int32).toInt + 12345) : Int) % r) r := by
              rw [ho5 7 (by clear hR; omega), hO4, hO1]
            refine g_pop (pc := 82) G dX3_shuffle_82 rfl ?_
            refine g_iinc (pc := 83) (lv' := [_, _, _, _, _, _, _, _, _]) G dX3_shuffle_83 (by decide) rfl rfl ?_
            refine g_goto (pc := 86) G 43 dX3_shuffle_86 (by decide) ?_
            rw [show r - 1 = r + -1 by omega] at hR
            exact ih (r + -1) _ M5 _ _ (by clear hR; omega) (by clear hR; omega) (by clear hR; omega) ho6 (by rw [hv5]; exact hear_inv ht ho hin) rfl (by rw [hv5, hO5]; exact hR)
      exact loop _ _ _ M2 _ _ hL0.1 hL0.2 (Nat.lt_succ_self _) (fun k h7 hc => by rw [ho2 k h7]; exact ho1 k hc) (by rw [vX_o M1 M2 j (fun k h1 h2 => ho2 k (by omega)), hv1]; exact emp_inv lt ht _) hO2 (by rw [vX_o M1 M2 j (fun k h1 h2 => ho2 k (by omega)), hv1])
    · skip
      refine g_astoreN (pc := 13) (lv' := [_, _, _, _, _, _, _, _, _]) G dX3_shuffle_13 (by decide) rfl ?_
      refine g_aload (pc := 15) G dX3_shuffle_15 rfl ?_
      refine g_ifnull (pc := 17) G dX3_shuffle_17 ?_
      refine g_aloadN (pc := 20) G dX3_shuffle_20 rfl ?_
      refine g_ifnonnullN (pc := 22) G dX3_shuffle_22 ?_
      refine g_iconst (pc := 25) G dX3_shuffle_25 ?_
      refine g_zret (pc := 26) G rfl dX3_shuffle_26 ?_
      first | exact ⟨rfl, Or.inr ⟨qv, rfl, rfl⟩⟩ | exact absurd ⟨qv.1, qv.2.1⟩ qw
  · skip
    refine g_astoreN (pc := 6) (lv' := [_, _, _, _, _, _, _, _, _]) G dX3_shuffle_6 (by decide) rfl ?_
    refine g_aload_n (pc := 8) G dX3_shuffle_8 rfl ?_
    refine g_iload_n (pc := 9) G dX3_shuffle_9 rfl ?_
    refine g_call (pc := 10) (n := 1) (As := [_]) G (kX3_spareOf hD x hx M L) gX3_shuffle_X3_spareOf oPage rfl rfl hdX3_spareOf rfl rfl ⟨Nat.le_of_ble_eq_true rfl, Nat.le_of_ble_eq_true rfl⟩ rfl rfl (Nat.le_of_ble_eq_true rfl) dX3_shuffle_10 ?_
    rintro _ _ _ ⟨rfl, rfl, qw⟩
    rcases qw with ⟨qw, rfl⟩ | ⟨qw, rfl⟩
    · generalize hje : 10 + x.toNat = j
      have hj : j < 12 := by omega
      refine g_astore (pc := 13) (lv' := [_, _, _, _, _, _, _, _, _]) G dX3_shuffle_13 (by decide) rfl ?_
      refine g_aloadN (pc := 15) G dX3_shuffle_15 rfl ?_
      refine g_ifnullN (pc := 17) G 25 dX3_shuffle_17 (by decide) ?_
      refine g_iconst (pc := 25) G dX3_shuffle_25 ?_
      refine g_zret (pc := 26) G rfl dX3_shuffle_26 ?_
      first | exact ⟨rfl, Or.inr ⟨qv, rfl, rfl⟩⟩ | exact absurd ⟨qv.1, qv.2.1⟩ qw
    · skip
      refine g_astoreN (pc := 13) (lv' := [_, _, _, _, _, _, _, _, _]) G dX3_shuffle_13 (by decide) rfl ?_
      refine g_aloadN (pc := 15) G dX3_shuffle_15 rfl ?_
      refine g_ifnullN (pc := 17) G 25 dX3_shuffle_17 (by decide) ?_
      refine g_iconst (pc := 25) G dX3_shuffle_25 ?_
      refine g_zret (pc := 26) G rfl dX3_shuffle_26 ?_
      first | exact ⟨rfl, Or.inr ⟨qv, rfl, rfl⟩⟩ | exact absurd ⟨qv.1, qv.2.1⟩ qw
