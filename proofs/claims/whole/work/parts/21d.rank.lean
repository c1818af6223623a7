theorem bit_N {x : Nat} (h : x ≤ 12) : iI 1 <<< (iI (x : Int) &&& 31) = iI ((2 ^ x : Nat) : Int) := by
  have := bit_I (x := (x : Int)) (by omega) (by omega)
  rw [show ((x : Int)).toNat = x by omega] at this
  exact this
/-- what the one at place x adds to the number, in place p -/
def rkT (T X : aS) (V : Nat → Int64) (a x : Nat) : Int64 := if a < x ∧ aMark T (X 1 (x : Int)) < aMark T (X 1 (a : Int)) then V ((2 ^ a - 1) ||| 2 ^ x) else 0
def rkS (T X : aS) (V : Nat → Int64) (n : Nat) : Int64 := sm (fun a => sm (rkT T X V a) n) n
theorem rk_lt {a x n : Nat} (hn : n ≤ 12) (ha : a < n) (hx : x < n) : (2 ^ a - 1) ||| 2 ^ x < 4096 := by
  have h1 := Nat.pow_lt_pow_right (a := 2) (by omega) ha
  have h0 := Nat.two_pow_pos a
  have h2 := or_lt (S := 2 ^ a - 1) (x := x) (n := n) (by omega) hx
  have := p12 hn
  omega
set_option maxHeartbeats 4000000 in
set_option maxRecDepth 100000 in
theorem kX1_countOf {l : Launch} {D : va_G} {cI cZ cJ cT cC : ClassId} {ad : Nat → Nat} {A : Nat → Prop} (hD : ∀ g : Nat → va_E, va_D A (sjW 89 ad g)) (i : Nat) (hi : i < 12) (M : sjM) (L : sjL) (hcp : cpOK (vT M (tI i)) (vX M i)) (h12 : (vX M i) 0 0 ≤ 12) : Met l yX1_countOf wsX1_countOf { frames := 4, cells := 0, slots := 0, locals := 90 } (sjA D cI cZ cJ cT cC 89 ad (kC cI cZ cJ cT cC ad) [.ref (ad 4), .ref (ad (29 + 5 * i))] M L) (sjZ D 89 ad (kC cI cZ cJ cT cC ad) A (fun v M' L' => (∀ k, k ≠ 6 → M' k = M k) ∧ (∀ k, k ≠ 5 → L' k = L k) ∧ recV ((vX M i) 0 0).toNat (prX (vT M (tI i)) (vX M i)) 0 (fun S => L' 5 (S : Int)) ∧ v = some (.long (L' 5 0)))) 0 0 A := by
  refine g_met (cc := cX1_countOf) (maxL := 2) (ret := (some .long)) (lv := [_, _]) (by decide) rfl hD kC_loc (List.forall_mem_cons.mpr ⟨rfl, List.forall_mem_cons.mpr ⟨rfl, fun _ h => absurd h List.not_mem_nil⟩⟩) (Nat.le_of_ble_eq_true rfl) rfl ?_
  intro J G
  refine g_aload_n (pc := 0) G dX1_countOf_0 rfl ?_
  refine g_aload_n (pc := 1) G dX1_countOf_1 rfl ?_
  refine g_call (pc := 2) (n := 1) (As := [_]) G (kX1_weigh hD i hi M L hcp h12) gX1_countOf_X1_weigh oFree rfl rfl hdX1_weigh rfl rfl ⟨Nat.le_of_ble_eq_true rfl, Nat.le_of_ble_eq_true rfl⟩ rfl rfl (Nat.le_of_ble_eq_true rfl) dX1_countOf_2 ?_
  rintro _ M1 L1 ⟨rfl, hM1, hL1, hrv⟩
  refine g_aload_n (pc := 5) G dX1_countOf_5 rfl ?_
  refine g_iconst (pc := 6) G dX1_countOf_6 ?_
  refine g_call (pc := 7) (n := 1) (As := [_]) G (kX1_waysFrom hD 0 ⟨by omega, by omega⟩ M1 L1) gX1_countOf_X1_waysFrom oFree rfl rfl hdX1_waysFrom rfl rfl ⟨Nat.le_of_ble_eq_true rfl, Nat.le_of_ble_eq_true rfl⟩ rfl rfl (Nat.le_of_ble_eq_true rfl) dX1_countOf_7 ?_
  rintro _ _ _ ⟨rfl, rfl, rfl⟩
  refine g_lret (pc := 10) G dX1_countOf_10 ?_
  exact ⟨hM1, hL1, hrv, rfl⟩
set_option maxHeartbeats 4000000 in
set_option maxRecDepth 100000 in
theorem kX1_rankOf {l : Launch} {D : va_G} {cI cZ cJ cT cC : ClassId} {ad : Nat → Nat} {A : Nat → Prop} (hD : ∀ g : Nat → va_E, va_D A (sjW 89 ad g)) (i : Nat) (hi : i < 12) (M : sjM) (L : sjL) (hcp : cpOK (vT M (tI i)) (vX M i)) (h12 : (vX M i) 0 0 ≤ 12) : Met l yX1_rankOf wsX1_rankOf { frames := 4, cells := 0, slots := 0, locals := 90 } (sjA D cI cZ cJ cT cC 89 ad (kC cI cZ cJ cT cC ad) [.ref (ad 4), .ref (ad (29 + 5 * i))] M L) (sjZ D 89 ad (kC cI cZ cJ cT cC ad) A (fun v M' L' => (∀ k, k ≠ 6 → M' k = M k) ∧ (∀ k, k ≠ 5 → L' k = L k) ∧ recV ((vX M i) 0 0).toNat (prX (vT M (tI i)) (vX M i)) 0 (fun S => L' 5 (S : Int)) ∧ v = some (.long (rkS (vT M (tI i)) (vX M i) (fun S : Nat => L' 5 (S : Int)) ((vX M i) 0 0).toNat)))) 0 0 A := by
  refine g_met (cc := cX1_rankOf) (maxL := 9) (ret := (some .long)) (lv := [_, _, _, _, _, _, _, _, _]) (by decide) rfl hD kC_loc (List.forall_mem_cons.mpr ⟨rfl, List.forall_mem_cons.mpr ⟨rfl, fun _ h => absurd h List.not_mem_nil⟩⟩) (Nat.le_of_ble_eq_true rfl) rfl ?_
  intro J G
  have f27 : Cond.fieldLink RX1 27 "SharedPage$Copy" "length" "I" ∈ wsX1_rankOf := by decide +kernel
  have f39 : Cond.fieldLink RX1 39 "SharedPage$Copy" "text" "LSharedPage$Text;" ∈ wsX1_rankOf := by decide +kernel
  have hinX0 : ∀ w ∈ u_ws RX0 TX0 12, w ∈ wsX1_rankOf := fun w h => List.mem_cons_of_mem _ (List.mem_append_left _ (List.mem_append_left _ (List.mem_append_right _ h)))
  have hl0 := hcp.1
  obtain ⟨n, hnn⟩ : ∃ n : Nat, n = ((vX M i) 0 0).toNat := ⟨_, rfl⟩
  have hx0 : (vX M i) 0 0 = (n : Int) := by omega
  have hn12 : n ≤ 12 := by omega
  rw [← hnn] at G
  refine g_aload_n (pc := 0) G dX1_rankOf_0 rfl ?_
  refine g_aload_n (pc := 1) G dX1_rankOf_1 rfl ?_
  refine g_call (pc := 2) (n := 1) (As := [_]) G (kX1_weigh hD i hi M L hcp h12) gX1_rankOf_X1_weigh oFree rfl rfl hdX1_weigh rfl rfl ⟨Nat.le_of_ble_eq_true rfl, Nat.le_of_ble_eq_true rfl⟩ rfl rfl (Nat.le_of_ble_eq_true rfl) dX1_rankOf_2 ?_
  rintro _ M1 L1 ⟨rfl, hM1, hL1, hrv⟩
  rw [← hnn] at hrv
  have hX1 : vX M1 i = (vX M i) := vX_o M M1 i (fun k h1 h2 => hM1 k (by omega))
  have hT1 : vT M1 (tI i) = (vT M (tI i)) := vT_o M M1 _ (fun k h1 h2 => hM1 k (by have := tI_lt i; omega))
  refine g_aload_n (pc := 5) G dX1_rankOf_5 rfl ?_
  refine g_getI (pc := 6) G hinX0 (oCopy i hi) rfl 5 (by decide) f27 rfl rfl dX1_rankOf_6 ?_
  refine g_bipush (pc := 9) G dX1_rankOf_9 rfl ?_
  refine g_min (pc := 11) G (rg _) (by omega) (by decide +kernel) (by decide +kernel) (by decide +kernel) (List.mem_cons_of_mem _ (by decide +kernel)) (Nat.le_of_ble_eq_true rfl) (Nat.le_of_ble_eq_true rfl) dX1_rankOf_11 ?_
  refine g_top (show iI (if 12 < (M1 (29 + 5 * i) 0).toInt then 12 else (M1 (29 + 5 * i) 0).toInt) = iI (n : Int) by have e9 : (vX M1 i) 0 0 = (M1 (29 + 5 * i) 0).toInt := rfl; rw [hX1] at e9; rw [if_neg (by omega), ← e9, hx0]) ?_
  refine g_istore_n (pc := 14) (lv' := [_, _, _, _, _, _, _, _, _]) G dX1_rankOf_14 (by decide) rfl ?_
  refine g_lconst (pc := 15) (v := 0) G dX1_rankOf_15 rfl ?_
  refine g_lstore_n (pc := 16) (lv' := [_, _, _, _, _, _, _, _, _]) G dX1_rankOf_16 (by decide) rfl ?_
  refine g_iconst (pc := 17) G dX1_rankOf_17 ?_
  refine g_istore (pc := 18) (lv' := [_, _, _, _, _, _, _, _, _]) G dX1_rankOf_18 (by decide) rfl ?_
  have loop : ∀ (f a : Nat) (acc : Int64) (x6 x7 x8 : Option Value), a ≤ n → n - a < f → acc = (sm (fun a => sm (rkT (vT M (tI i)) (vX M i) (fun S : Nat => L1 5 (S : Int)) a) n) a) → J 20 M1 L1 [some (.ref (ad 4)), some (.ref (ad (29 + 5 * i))), some (.int (iI (n : Int))), some (.long acc), none, some (.int (iI (a : Int))), x6, x7, x8] [] := by
    intro f
    induction f with
    | zero => intro a acc x6 x7 x8 _ h; omega
    | succ f ih =>
      intro a acc x6 x7 x8 ha1 hf hacc
      refine g_iload (pc := 20) G dX1_rankOf_20 rfl ?_
      refine g_iload_n (pc := 22) G dX1_rankOf_22 rfl ?_
      refine g_icmp_ge (pc := 23) G (by omega) (by omega) 105 dX1_rankOf_23 (by decide) (fun h23 => ?_) (fun h23 => ?_)
      · -- 23 t
        refine g_lload_n (pc := 105) G dX1_rankOf_105 rfl ?_
        refine g_lret (pc := 106) G dX1_rankOf_106 ?_
        exact ⟨hM1, hL1, hrv, by unfold rkS; rw [hacc, show a = n by omega]⟩
      · -- 23 f
        have ha : a < n := by omega
        have after : ∀ (acc : Int64) (x6 x7 x8 : Option Value), a < n → acc = (sm (fun a => sm (rkT (vT M (tI i)) (vX M i) (fun S : Nat => L1 5 (S : Int)) a) n) a) + sm (rkT (vT M (tI i)) (vX M i) (fun S : Nat => L1 5 (S : Int)) a) n → J 99 M1 L1 [some (.ref (ad 4)), some (.ref (ad (29 + 5 * i))), some (.int (iI (n : Int))), some (.long acc), none, some (.int (iI (a : Int))), x6, x7, x8] [] := by
          intro acc x6 x7 x8 ha hacc
          refine g_iinc (pc := 99) (lv' := [_, _, _, _, _, _, _, _, _]) G dX1_rankOf_99 (by decide) rfl rfl ?_
          refine g_goto (pc := 102) G 20 dX1_rankOf_102 (by decide) ?_
          rw [show (a : Int) + 1 = ((a + 1 : Nat) : Int) by omega]
          exact ih (a + 1) _ _ _ _ (by omega) (by omega) (by rw [hacc, sm])
        have loopx : ∀ (g x : Nat) (acc : Int64), a < x → x ≤ n → n - x < g → acc = (sm (fun a => sm (rkT (vT M (tI i)) (vX M i) (fun S : Nat => L1 5 (S : Int)) a) n) a) + sm (rkT (vT M (tI i)) (vX M i) (fun S : Nat => L1 5 (S : Int)) a) x → J 55 M1 L1 [some (.ref (ad 4)), some (.ref (ad (29 + 5 * i))), some (.int (iI (n : Int))), some (.long acc), none, some (.int (iI (a : Int))), some (.int (iI ((2 ^ a - 1 : Nat) : Int))), some (.int (iI (aMark (vT M (tI i)) ((vX M i) 1 (a : Int))))), some (.int (iI (x : Int)))] [] := by
          intro g
          induction g with
          | zero => intro x acc _ _ h; omega
          | succ g ihx =>
            intro x acc hx0 hx1 hg hacc
            refine g_iload (pc := 55) G dX1_rankOf_55 rfl ?_
            refine g_iload_n (pc := 57) G dX1_rankOf_57 rfl ?_
            refine g_icmp_ge (pc := 58) G (by omega) (by omega) 99 dX1_rankOf_58 (by decide) (fun h58 => ?_) (fun h58 => ?_)
            · -- 58 t
              exact after _ _ _ _ ha (by rw [hacc, show x = n by omega])
            · -- 58 f
              refine g_aload_n (pc := 61) G dX1_rankOf_61 rfl ?_
              refine g_getR (pc := 62) G hinX0 (oCopy i hi) rfl 0 (by decide) f39 rfl rfl dX1_rankOf_62 ?_
              refine g_aload_n (pc := 65) G dX1_rankOf_65 rfl ?_
              refine g_iload (pc := 66) G dX1_rankOf_66 rfl ?_
              refine g_call (pc := 68) (n := 1) (As := [_]) G (kX0_characterAt hD i hi (x : Int) ⟨by omega, by omega⟩ M1 L1) gX1_rankOf_X0_characterAt (oCopy i hi) rfl rfl hdX0_characterAt rfl rfl ⟨Nat.le_of_ble_eq_true rfl, Nat.le_of_ble_eq_true rfl⟩ rfl rfl (Nat.le_of_ble_eq_true rfl) dX1_rankOf_68 ?_
              rintro _ _ _ ⟨rfl, rfl, rfl⟩
              rw [hX1, at_in (show (0 : Int) ≤ x by omega) (show (x : Int) < (vX M i) 0 0 by omega) hcp.2.1]
              refine g_call (pc := 71) (n := 1) (As := [_]) G (kX2_markOf hD (tI i) (tI_lt i) _ (by rw [← hX1]; exact rg _) M1 L1) gX1_rankOf_X2_markOf (oText _ (tI_lt i)) rfl rfl hdX2_markOf rfl rfl ⟨Nat.le_of_ble_eq_true rfl, Nat.le_of_ble_eq_true rfl⟩ rfl rfl (Nat.le_of_ble_eq_true rfl) dX1_rankOf_71 ?_
              rintro _ _ _ ⟨rfl, rfl, rfl⟩
              rw [hT1]
              refine g_iload (pc := 74) G dX1_rankOf_74 rfl ?_
              refine g_icmp_ge (pc := 76) G (by rw [← hT1]; exact rg_mark M1 (tI i) _) (by rw [← hT1]; exact rg_mark M1 (tI i) _) 93 dX1_rankOf_76 (by decide) (fun h76 => ?_) (fun h76 => ?_)
              · -- 76 t
                have hacc2 : acc = (sm (fun a => sm (rkT (vT M (tI i)) (vX M i) (fun S : Nat => L1 5 (S : Int)) a) n) a) + sm (rkT (vT M (tI i)) (vX M i) (fun S : Nat => L1 5 (S : Int)) a) (x + 1) := by
                  rw [hacc, sm]
                  unfold rkT
                  rw [if_neg (by omega), Int64.add_zero]
                --go
                refine g_iinc (pc := 93) (lv' := [_, _, _, _, _, _, _, _, _]) G dX1_rankOf_93 (by decide) rfl rfl ?_
                refine g_goto (pc := 96) G 55 dX1_rankOf_96 (by decide) ?_
                rw [show (x : Int) + 1 = ((x + 1 : Nat) : Int) by omega]
                exact ihx (x + 1) _ (by omega) (by omega) (by omega) hacc2
              · -- 76 f
                have hacc2 : acc + L1 5 (((2 ^ a - 1) ||| 2 ^ x : Nat) : Int) = (sm (fun a => sm (rkT (vT M (tI i)) (vX M i) (fun S : Nat => L1 5 (S : Int)) a) n) a) + sm (rkT (vT M (tI i)) (vX M i) (fun S : Nat => L1 5 (S : Int)) a) (x + 1) := by
                  rw [hacc, sm, Int64.add_assoc]
                  congr 2
                  unfold rkT
                  rw [if_pos ⟨by omega, by omega⟩]
                --go
                refine g_lload_n (pc := 79) G dX1_rankOf_79 rfl ?_
                refine g_aload_n (pc := 80) G dX1_rankOf_80 rfl ?_
                refine g_iload (pc := 81) G dX1_rankOf_81 rfl ?_
                refine g_iconst (pc := 83) G dX1_rankOf_83 ?_
                refine g_iload (pc := 84) G dX1_rankOf_84 rfl ?_
                refine g_ishl (pc := 86) G dX1_rankOf_86 ?_
                refine g_top (bit_N (x := x) (by omega)) ?_
                refine g_ior (pc := 87) G dX1_rankOf_87 ?_
                refine g_top (or_I _ _) ?_
                refine g_call (pc := 88) (n := 1) (As := [_]) G (kX1_waysFrom hD (((2 ^ a - 1) ||| 2 ^ x : Nat) : Int) ⟨by omega, by have := rk_lt hn12 ha (Int.ofNat_lt.mp h58); omega⟩ M1 L1) gX1_rankOf_X1_waysFrom oFree rfl rfl hdX1_waysFrom rfl rfl ⟨Nat.le_of_ble_eq_true rfl, Nat.le_of_ble_eq_true rfl⟩ rfl rfl (Nat.le_of_ble_eq_true rfl) dX1_rankOf_88 ?_
                rintro _ _ _ ⟨rfl, rfl, rfl⟩
                rw [wys_in (rk_lt hn12 ha (Int.ofNat_lt.mp h58))]
                refine g_ladd (pc := 91) G dX1_rankOf_91 ?_
                refine g_lstore_n (pc := 92) (lv' := [_, _, _, _, _, _, _, _, _]) G dX1_rankOf_92 (by decide) rfl ?_
                refine g_iinc (pc := 93) (lv' := [_, _, _, _, _, _, _, _, _]) G dX1_rankOf_93 (by decide) rfl rfl ?_
                refine g_goto (pc := 96) G 55 dX1_rankOf_96 (by decide) ?_
                rw [show (x : Int) + 1 = ((x + 1 : Nat) : Int) by omega]
                exact ihx (x + 1) _ (by omega) (by omega) (by omega) hacc2
        --go
        refine g_iconst (pc := 26) G dX1_rankOf_26 ?_
        refine g_iload (pc := 27) G dX1_rankOf_27 rfl ?_
        refine g_ishl (pc := 29) G dX1_rankOf_29 ?_
        refine g_top (bit_N (x := a) (by omega)) ?_
        refine g_iconst (pc := 30) G dX1_rankOf_30 ?_
        refine g_isub (pc := 31) G dX1_rankOf_31 ?_
        refine g_top (show iI (((2 ^ a : Nat) : Int) - 1) = iI ((2 ^ a - 1 : Nat) : Int) by have := Nat.two_pow_pos a; congr 1; omega) ?_
        refine g_istore (pc := 32) (lv' := [_, _, _, _, _, _, _, _, _]) G dX1_rankOf_32 (by decide) rfl ?_
        refine g_aload_n (pc := 34) G dX1_rankOf_34 rfl ?_
        refine g_getR (pc := 35) G hinX0 (oCopy i hi) rfl 0 (by decide) f39 rfl rfl dX1_rankOf_35 ?_
        refine g_aload_n (pc := 38) G dX1_rankOf_38 rfl ?_
        refine g_iload (pc := 39) G dX1_rankOf_39 rfl ?_
        refine g_call (pc := 41) (n := 1) (As := [_]) G (kX0_characterAt hD i hi (a : Int) ⟨by omega, by omega⟩ M1 L1) gX1_rankOf_X0_characterAt (oCopy i hi) rfl rfl hdX0_characterAt rfl rfl ⟨Nat.le_of_ble_eq_true rfl, Nat.le_of_ble_eq_true rfl⟩ rfl rfl (Nat.le_of_ble_eq_true rfl) dX1_rankOf_41 ?_
        rintro _ _ _ ⟨rfl, rfl, rfl⟩
        rw [hX1, at_in (show (0 : Int) ≤ a by omega) (show (a : Int) < (vX M i) 0 0 by omega) hcp.2.1]
        refine g_call (pc := 44) (n := 1) (As := [_]) G (kX2_markOf hD (tI i) (tI_lt i) _ (by rw [← hX1]; exact rg _) M1 L1) gX1_rankOf_X2_markOf (oText _ (tI_lt i)) rfl rfl hdX2_markOf rfl rfl ⟨Nat.le_of_ble_eq_true rfl, Nat.le_of_ble_eq_true rfl⟩ rfl rfl (Nat.le_of_ble_eq_true rfl) dX1_rankOf_44 ?_
        rintro _ _ _ ⟨rfl, rfl, rfl⟩
        rw [hT1]
        refine g_istore (pc := 47) (lv' := [_, _, _, _, _, _, _, _, _]) G dX1_rankOf_47 (by decide) rfl ?_
        refine g_iload (pc := 49) G dX1_rankOf_49 rfl ?_
        refine g_iconst (pc := 51) G dX1_rankOf_51 ?_
        refine g_iadd (pc := 52) G dX1_rankOf_52 ?_
        refine g_istore (pc := 53) (lv' := [_, _, _, _, _, _, _, _, _]) G dX1_rankOf_53 (by decide) rfl ?_
        rw [show (a : Int) + 1 = ((a + 1 : Nat) : Int) by omega]
        exact loopx _ (a + 1) _ (by omega) (by omega) (Nat.lt_succ_self _) (by rw [hacc, sm_zero (f := rkT (vT M (tI i)) (vX M i) (fun S : Nat => L1 5 (S : Int)) a) (a + 1) (fun y hy => by unfold rkT; rw [if_neg (by omega)]), Int64.add_zero])
  exact loop _ 0 0 _ _ _ (by omega) (Nat.lt_succ_self _) rfl
set_option maxHeartbeats 4000000 in
set_option maxRecDepth 100000 in
theorem kX3_orders {l : Launch} {D : va_G} {cI cZ cJ cT cC : ClassId} {ad : Nat → Nat} {A : Nat → Prop} (hD : ∀ g : Nat → va_E, va_D A (sjW 89 ad g)) (x y : Int) (hx : rng x) (hy : rng y) (M : sjM) (L : sjL) (hcp : okTS x y → cpOK (vT M (tI (x * 5 + y).toNat)) (vX M (x * 5 + y).toNat)) : Met l yX3_orders wsX3_orders { frames := 5, cells := 0, slots := 0, locals := 111 } (sjA D cI cZ cJ cT cC 89 ad (kC cI cZ cJ cT cC ad) [.ref (ad 0), .int (iI x), .int (iI y)] M L) (sjZ D 89 ad (kC cI cZ cJ cT cC ad) A (fun v M' L' => (∀ k, k ≠ 6 → M' k = M k) ∧ (((okTS x y ∧ (vX M (x * 5 + y).toNat) 0 0 ≤ 12) ∧ ∃ V : Nat → Int64, recV ((vX M (x * 5 + y).toNat) 0 0).toNat (prX (vT M (tI (x * 5 + y).toNat)) (vX M (x * 5 + y).toNat)) 0 V ∧ v = some (.long (V 0))) ∨ (¬ (okTS x y ∧ (vX M (x * 5 + y).toNat) 0 0 ≤ 12) ∧ v = some (.long (-1)))))) 0 0 A := by
  refine g_met (cc := cX3_orders) (maxL := 4) (ret := (some .long)) (lv := [_, _, _, _]) (by decide) rfl hD kC_loc (List.forall_mem_cons.mpr ⟨rfl, List.forall_mem_cons.mpr ⟨rfl, List.forall_mem_cons.mpr ⟨rfl, fun _ h => absurd h List.not_mem_nil⟩⟩⟩) (Nat.le_of_ble_eq_true rfl) rfl ?_
  intro J G
  have f33 : Cond.fieldLink RX3 33 "SharedPage" "freeOrders" "LSharedPage$FreeOrders;" ∈ wsX3_orders := by decide +kernel
  have f103 : Cond.fieldLink RX3 103 "SharedPage$Copy" "length" "I" ∈ wsX3_orders := by decide +kernel
  have hinX0 : ∀ w ∈ u_ws RX0 TX0 12, w ∈ wsX3_orders := fun w h => List.mem_cons_of_mem _ (List.mem_append_left _ (List.mem_append_left _ (List.mem_append_left _ (List.mem_append_right _ h))))
  have hinX3 : ∀ w ∈ u_ws RX3 TX3 7, w ∈ wsX3_orders := fun w h => List.mem_cons_of_mem _ (List.mem_append_left _ (List.mem_append_left _ (List.mem_append_right _ h)))
  refine g_aload_n (pc := 0) G dX3_orders_0 rfl ?_
  refine g_iload_n (pc := 1) G dX3_orders_1 rfl ?_
  refine g_iload_n (pc := 2) G dX3_orders_2 rfl ?_
  refine g_call (pc := 3) (n := 2) (As := [_, _]) G (kX3_copyAt hD x y hx hy M L) gX3_orders_X3_copyAt oPage rfl rfl hdX3_copyAt rfl rfl ⟨Nat.le_of_ble_eq_true rfl, Nat.le_of_ble_eq_true rfl⟩ rfl rfl (Nat.le_of_ble_eq_true rfl) dX3_orders_3 ?_
  rintro _ _ _ ⟨rfl, rfl, qv⟩
  rcases qv with ⟨qv, rfl⟩ | ⟨qv, rfl⟩
  · generalize hie : (x * 5 + y).toNat = i
    have hi : i < 12 := by omega
    have hi10 : i < 10 := by omega
    refine g_astore_n (pc := 6) (lv' := [_, _, _, _]) G dX3_orders_6 (by decide) rfl ?_
    refine g_aload_n (pc := 7) G dX3_orders_7 rfl ?_
    refine g_ifnull (pc := 8) G dX3_orders_8 ?_
    refine g_aload_n (pc := 11) G dX3_orders_11 rfl ?_
    refine g_getI (pc := 12) G hinX0 (oCopy i hi) rfl 5 (by decide) f103 rfl rfl dX3_orders_12 ?_
    refine g_bipush (pc := 15) G dX3_orders_15 rfl ?_
    refine g_icmp_le (pc := 17) G (rg _) (by omega) 24 dX3_orders_17 (by decide) (fun h17 => ?_) (fun h17 => ?_)
    · -- 17 t
      refine g_aload_n (pc := 24) G dX3_orders_24 rfl ?_
      refine g_getR (pc := 25) G hinX3 oPage rfl 3 (by decide) f33 rfl rfl dX3_orders_25 ?_
      refine g_aload_n (pc := 28) G dX3_orders_28 rfl ?_
      refine g_call (pc := 29) (n := 1) (As := [_]) G (kX1_countOf hD i hi M L (by have := hcp qv; rw [hie] at this; exact this) h17) gX3_orders_X1_countOf oFree rfl rfl hdX1_countOf rfl rfl ⟨Nat.le_of_ble_eq_true rfl, Nat.le_of_ble_eq_true rfl⟩ rfl rfl (Nat.le_of_ble_eq_true rfl) dX3_orders_29 ?_
      rintro _ M1 L1 ⟨hM1, hL1, hrv, rfl⟩
      refine g_lret (pc := 32) G dX3_orders_32 ?_
      exact ⟨hM1, Or.inl ⟨⟨qv, by rw [hie]; exact h17⟩, fun S => L1 5 (S : Int), by rw [hie]; exact hrv, rfl⟩⟩
    · -- 17 f
      refine g_ldc2 (pc := 20) (v := -1) G (by decide +kernel) dX3_orders_20 ?_
      refine g_lret (pc := 23) G dX3_orders_23 ?_
      refine ⟨fun _ _ => rfl, Or.inr ⟨fun w => ?_, rfl⟩⟩
      first
      | exact qv w.1
      | (have h9 := w.2; rw [hie] at h9; have h8 : (vX M i) 0 0 = (M (29 + 5 * i) 0).toInt := rfl; omega)
  · skip
    refine g_astore_nN (pc := 6) (lv' := [_, _, _, _]) G dX3_orders_6 (by decide) rfl ?_
    refine g_aload_nN (pc := 7) G dX3_orders_7 rfl ?_
    refine g_ifnullN (pc := 8) G 20 dX3_orders_8 (by decide) ?_
    refine g_ldc2 (pc := 20) (v := -1) G (by decide +kernel) dX3_orders_20 ?_
    refine g_lret (pc := 23) G dX3_orders_23 ?_
    refine ⟨fun _ _ => rfl, Or.inr ⟨fun w => ?_, rfl⟩⟩
    first
    | exact qv w.1
    | (have h9 := w.2; rw [hie] at h9; have h8 : (vX M i) 0 0 = (M (29 + 5 * i) 0).toInt := rfl; omega)
set_option maxHeartbeats 4000000 in
set_option maxRecDepth 100000 in
theorem kX3_number {l : Launch} {D : va_G} {cI cZ cJ cT cC : ClassId} {ad : Nat → Nat} {A : Nat → Prop} (hD : ∀ g : Nat → va_E, va_D A (sjW 89 ad g)) (x y : Int) (hx : rng x) (hy : rng y) (M : sjM) (L : sjL) (hcp : okTS x y → cpOK (vT M (tI (x * 5 + y).toNat)) (vX M (x * 5 + y).toNat)) : Met l yX3_number wsX3_number { frames := 5, cells := 0, slots := 0, locals := 118 } (sjA D cI cZ cJ cT cC 89 ad (kC cI cZ cJ cT cC ad) [.ref (ad 0), .int (iI x), .int (iI y)] M L) (sjZ D 89 ad (kC cI cZ cJ cT cC ad) A (fun v M' L' => (∀ k, k ≠ 6 → M' k = M k) ∧ (((okTS x y ∧ (vX M (x * 5 + y).toNat) 0 0 ≤ 12) ∧ ∃ V : Nat → Int64, recV ((vX M (x * 5 + y).toNat) 0 0).toNat (prX (vT M (tI (x * 5 + y).toNat)) (vX M (x * 5 + y).toNat)) 0 V ∧ v = some (.long (rkS (vT M (tI (x * 5 + y).toNat)) (vX M (x * 5 + y).toNat) V ((vX M (x * 5 + y).toNat) 0 0).toNat))) ∨ (¬ (okTS x y ∧ (vX M (x * 5 + y).toNat) 0 0 ≤ 12) ∧ v = some (.long (-1)))))) 0 0 A := by
  refine g_met (cc := cX3_number) (maxL := 4) (ret := (some .long)) (lv := [_, _, _, _]) (by decide) rfl hD kC_loc (List.forall_mem_cons.mpr ⟨rfl, List.forall_mem_cons.mpr ⟨rfl, List.forall_mem_cons.mpr ⟨rfl, fun _ h => absurd h List.not_mem_nil⟩⟩⟩) (Nat.le_of_ble_eq_true rfl) rfl ?_
  intro J G
  have f33 : Cond.fieldLink RX3 33 "SharedPage" "freeOrders" "LSharedPage$FreeOrders;" ∈ wsX3_number := by decide +kernel
  have f103 : Cond.fieldLink RX3 103 "SharedPage$Copy" "length" "I" ∈ wsX3_number := by decide +kernel
  have hinX0 : ∀ w ∈ u_ws RX0 TX0 12, w ∈ wsX3_number := fun w h => List.mem_cons_of_mem _ (List.mem_append_left _ (List.mem_append_left _ (List.mem_append_left _ (List.mem_append_right _ h))))
  have hinX3 : ∀ w ∈ u_ws RX3 TX3 7, w ∈ wsX3_number := fun w h => List.mem_cons_of_mem _ (List.mem_append_left _ (List.mem_append_left _ (List.mem_append_right _ h)))
  refine g_aload_n (pc := 0) G dX3_number_0 rfl ?_
  refine g_iload_n (pc := 1) G dX3_number_1 rfl ?_
  refine g_iload_n (pc := 2) G dX3_number_2 rfl ?_
  refine g_call (pc := 3) (n := 2) (As := [_, _]) G (kX3_copyAt hD x y hx hy M L) gX3_number_X3_copyAt oPage rfl rfl hdX3_copyAt rfl rfl ⟨Nat.le_of_ble_eq_true rfl, Nat.le_of_ble_eq_true rfl⟩ rfl rfl (Nat.le_of_ble_eq_true rfl) dX3_number_3 ?_
  rintro _ _ _ ⟨rfl, rfl, qv⟩
  rcases qv with ⟨qv, rfl⟩ | ⟨qv, rfl⟩
  · generalize hie : (x * 5 + y).toNat = i
    have hi : i < 12 := by omega
    have hi10 : i < 10 := by omega
    refine g_astore_n (pc := 6) (lv' := [_, _, _, _]) G dX3_number_6 (by decide) rfl ?_
    refine g_aload_n (pc := 7) G dX3_number_7 rfl ?_
    refine g_ifnull (pc := 8) G dX3_number_8 ?_
    refine g_aload_n (pc := 11) G dX3_number_11 rfl ?_
    refine g_getI (pc := 12) G hinX0 (oCopy i hi) rfl 5 (by decide) f103 rfl rfl dX3_number_12 ?_
    refine g_bipush (pc := 15) G dX3_number_15 rfl ?_
    refine g_icmp_le (pc := 17) G (rg _) (by omega) 24 dX3_number_17 (by decide) (fun h17 => ?_) (fun h17 => ?_)
    · -- 17 t
      refine g_aload_n (pc := 24) G dX3_number_24 rfl ?_
      refine g_getR (pc := 25) G hinX3 oPage rfl 3 (by decide) f33 rfl rfl dX3_number_25 ?_
      refine g_aload_n (pc := 28) G dX3_number_28 rfl ?_
      refine g_call (pc := 29) (n := 1) (As := [_]) G (kX1_rankOf hD i hi M L (by have := hcp qv; rw [hie] at this; exact this) h17) gX3_number_X1_rankOf oFree rfl rfl hdX1_rankOf rfl rfl ⟨Nat.le_of_ble_eq_true rfl, Nat.le_of_ble_eq_true rfl⟩ rfl rfl (Nat.le_of_ble_eq_true rfl) dX3_number_29 ?_
      rintro _ M1 L1 ⟨hM1, hL1, hrv, rfl⟩
      refine g_lret (pc := 32) G dX3_number_32 ?_
      exact ⟨hM1, Or.inl ⟨⟨qv, by rw [hie]; exact h17⟩, fun S => L1 5 (S : Int), by rw [hie]; exact hrv, by rw [hie]⟩⟩
    · -- 17 f
      refine g_ldc2 (pc := 20) (v := -1) G (by decide +kernel) dX3_number_20 ?_
      refine g_lret (pc := 23) G dX3_number_23 ?_
      refine ⟨fun _ _ => rfl, Or.inr ⟨fun w => ?_, rfl⟩⟩
      first
      | exact qv w.1
      | (have h9 := w.2; rw [hie] at h9; have h8 : (vX M i) 0 0 = (M (29 + 5 * i) 0).toInt := rfl; omega)
  · skip
    refine g_astore_nN (pc := 6) (lv' := [_, _, _, _]) G dX3_number_6 (by decide) rfl ?_
    refine g_aload_nN (pc := 7) G dX3_number_7 rfl ?_
    refine g_ifnullN (pc := 8) G 20 dX3_number_8 (by decide) ?_
    refine g_ldc2 (pc := 20) (v := -1) G (by decide +kernel) dX3_number_20 ?_
    refine g_lret (pc := 23) G dX3_number_23 ?_
    refine ⟨fun _ _ => rfl, Or.inr ⟨fun w => ?_, rfl⟩⟩
    first
    | exact qv w.1
    | (have h9 := w.2; rw [hie] at h9; have h8 : (vX M i) 0 0 = (M (29 + 5 * i) 0).toInt := rfl; omega)
