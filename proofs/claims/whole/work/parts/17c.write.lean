/-- OUT, from place q on: n letters so far, in O -/
def aWrF (T X : aS) : Nat → Int → Int → (Int → Int) → Int × (Int → Int)
  | 0, _, n, O => (n, O)
  | f + 1, q, n, O => if aSeen X (aAt X q) ∧ n < 60 then aWrF T X f (q + 1) (n + 1) (fun z => if z = n then aLetter T (aAt X q) else O z) else aWrF T X f (q + 1) n O
set_option maxHeartbeats 4000000 in
set_option maxRecDepth 100000 in
theorem kX3_write {l : Launch} {D : va_G} {cI cZ cJ cT cC : ClassId} {ad : Nat → Nat} {A : Nat → Prop} (hD : ∀ g : Nat → va_E, va_D A (sjW 89 ad g)) (x y : Int) (hx : rng x) (hy : rng y) (M : sjM) (L : sjL)  : Met l yX3_write wsX3_write { frames := 2, cells := 0, slots := 0, locals := 42 } (sjA D cI cZ cJ cT cC 89 ad (kC cI cZ cJ cT cC ad) [.ref (ad 0), .int (iI x), .int (iI y)] M L) (sjZ D 89 ad (kC cI cZ cJ cT cC ad) A (fun v M' L' => L = L' ∧ ((okTS x y ∧ (∀ k, k ≠ 8 → k ≠ 0 → M' k = M k) ∧ (M' 0 0).toInt = (aWrF (vT M (tI (x * 5 + y).toNat)) (vX M (x * 5 + y).toNat) ((vX M (x * 5 + y).toNat) 0 0).toNat 0 0 (fun z => (M 8 z).toInt)).1 ∧ (fun z => (M' 8 z).toInt) = (aWrF (vT M (tI (x * 5 + y).toNat)) (vX M (x * 5 + y).toNat) ((vX M (x * 5 + y).toNat) 0 0).toNat 0 0 (fun z => (M 8 z).toInt)).2 ∧ v = some (.int (iI (aWrF (vT M (tI (x * 5 + y).toNat)) (vX M (x * 5 + y).toNat) ((vX M (x * 5 + y).toNat) 0 0).toNat 0 0 (fun z => (M 8 z).toInt)).1))) ∨ (¬ okTS x y ∧ M' = M ∧ v = some (.int (iI (-1))))))) 0 0 A := by
  refine g_met (cc := cX3_write) (maxL := 7) (ret := (some .int)) (lv := [_, _, _, _, _, _, _]) (by decide) rfl hD kC_loc (List.forall_mem_cons.mpr ⟨rfl, List.forall_mem_cons.mpr ⟨rfl, List.forall_mem_cons.mpr ⟨rfl, fun _ h => absurd h List.not_mem_nil⟩⟩⟩) (Nat.le_of_ble_eq_true rfl) rfl ?_
  intro J G
  have f41 : Cond.fieldLink RX3 41 "SharedPage" "written" "[I" ∈ wsX3_write := by decide +kernel
  have f44 : Cond.fieldLink RX3 44 "SharedPage" "writtenLength" "I" ∈ wsX3_write := by decide +kernel
  have f62 : Cond.fieldLink RX3 62 "SharedPage$Copy" "text" "LSharedPage$Text;" ∈ wsX3_write := by decide +kernel
  have f103 : Cond.fieldLink RX3 103 "SharedPage$Copy" "length" "I" ∈ wsX3_write := by decide +kernel
  have hinX0 : ∀ w ∈ u_ws RX0 TX0 12, w ∈ wsX3_write := fun w h => List.mem_cons_of_mem _ (List.mem_append_left _ (List.mem_append_left _ (List.mem_append_right _ h)))
  have hinX3 : ∀ w ∈ u_ws RX3 TX3 7, w ∈ wsX3_write := fun w h => List.mem_cons_of_mem _ (List.mem_append_left _ (List.mem_append_right _ h))
  refine g_aload_n (pc := 0) G dX3_write_0 rfl ?_
  refine g_iload_n (pc := 1) G dX3_write_1 rfl ?_
  refine g_iload_n (pc := 2) G dX3_write_2 rfl ?_
  refine g_call (pc := 3) (n := 2) (As := [_, _]) G (kX3_copyAt hD x y hx hy M L) gX3_write_X3_copyAt oPage rfl rfl hdX3_copyAt rfl rfl ⟨Nat.le_of_ble_eq_true rfl, Nat.le_of_ble_eq_true rfl⟩ rfl rfl (Nat.le_of_ble_eq_true rfl) dX3_write_3 ?_
  rintro _ _ _ ⟨rfl, rfl, qv⟩
  rcases qv with ⟨qv, rfl⟩ | ⟨qv, rfl⟩
  · generalize hie : (x * 5 + y).toNat = i
    have hi : i < 12 := by omega
    have hi10 : i < 10 := by omega
    refine g_astore_n (pc := 6) (lv' := [_, _, _, _, _, _, _]) G dX3_write_6 (by decide) rfl ?_
    refine g_aload_n (pc := 7) G dX3_write_7 rfl ?_
    refine g_ifnonnull (pc := 8) G 13 dX3_write_8 (by decide) ?_
    refine g_iconst (pc := 13) G dX3_write_13 ?_
    refine g_istore (pc := 14) (lv' := [_, _, _, _, _, _, _]) G dX3_write_14 (by decide) rfl ?_
    refine g_iconst (pc := 16) G dX3_write_16 ?_
    refine g_istore (pc := 17) (lv' := [_, _, _, _, _, _, _]) G dX3_write_17 (by decide) rfl ?_
    have hms := rg (M (29 + 5 * i) 0)
    have loop : ∀ (n : Nat) (q n0 : Int) (M1 : sjM) (O : Int → Int) (x6 : Option Value), 0 ≤ q → q ≤ 2147483647 → 0 ≤ n0 → n0 ≤ 60 → ((M (29 + 5 * i) 0).toInt - q).toNat < n → (∀ k, k ≠ 8 → M1 k = M k) → (fun z => (M1 8 z).toInt) = O → aWrF (vT M (tI i)) (vX M i) ((M (29 + 5 * i) 0).toInt - q).toNat q n0 O = aWrF (vT M (tI i)) (vX M i) ((M (29 + 5 * i) 0).toInt).toNat 0 0 (fun z => (M 8 z).toInt) → J 19 M1 L [some (.ref (ad 0)), some (.int (iI x)), some (.int (iI y)), some (.ref (ad (29 + 5 * i))), some (.int (iI n0)), some (.int (iI q)), x6] [] := by
      intro n
      induction n with
      | zero => intro q n0 M1 O x6 _ _ _ _ h; omega
      | succ n ih =>
        intro q n0 M1 O x6 hq0 hq1 hn0 hn1 hn ho1 hO1 hR
        have hX1 : vX M1 i = (vX M i) := vX_o M M1 i (fun k h1 h2 => ho1 k (by clear hR; omega))
        have hT1 : vT M1 (tI i) = (vT M (tI i)) := vT_o M M1 _ (fun k h1 h2 => ho1 k (by clear hR; omega))
        have hL1 : (M1 (29 + 5 * i) 0).toInt = (M (29 + 5 * i) 0).toInt := by rw [ho1 _ (by clear hR; omega)]
        refine g_iload (pc := 19) G dX3_write_19 rfl ?_
        refine g_aload_n (pc := 21) G dX3_write_21 rfl ?_
        refine g_getI (pc := 22) G hinX0 (oCopy i hi) rfl 5 (by decide) f103 rfl rfl dX3_write_22 ?_
        refine g_icmp_ge (pc := 25) G (by clear hR; omega) (rg _) 80 dX3_write_25 (by decide) (fun h25 => ?_) (fun h25 => ?_)
        · -- 25 t
          rw [show ((M (29 + 5 * i) 0).toInt - q).toNat = 0 by clear hR; omega, aWrF] at hR
          refine g_aload_n (pc := 80) G dX3_write_80 rfl ?_
          refine g_iload (pc := 81) G dX3_write_81 rfl ?_
          refine g_put (pc := 83) G tyX3 tyX3_ok nmX3 hinX3 oPage rfl 6 (by decide) pPage f44 rfl rfl rfl dX3_write_83 ?_
          refine g_iload (pc := 86) G dX3_write_86 rfl ?_
          refine g_iret (pc := 88) G dX3_write_88 ?_
          refine ⟨rfl, Or.inl ?_⟩
          rw [hie]
          refine ⟨qv, fun k h8 h0 => ?_, ?_, ?_, ?_⟩
          · rw [sjU_o h0]; exact ho1 k h8
          · rw [sjU_s, if_pos rfl, iI_toInt ⟨by clear hR; omega, by clear hR; omega⟩, vX_0, ← hR]
          · rw [vX_0, ← hR]
            funext z
            rw [sjU_o (by decide)]
            exact congrFun hO1 z
          · rw [vX_0, ← hR]
        · -- 25 f
          rw [show ((M (29 + 5 * i) 0).toInt - q).toNat = ((M (29 + 5 * i) 0).toInt - (q + 1)).toNat + 1 by clear hR; omega, aWrF] at hR
          --go
          refine g_aload_n (pc := 28) G dX3_write_28 rfl ?_
          refine g_iload (pc := 29) G dX3_write_29 rfl ?_
          refine g_call (pc := 31) (n := 1) (As := [_]) G (kX0_characterAt hD i hi q ⟨by clear hR; omega, by clear hR; omega⟩ M1 L) gX3_write_X0_characterAt (oCopy i hi) rfl rfl hdX0_characterAt rfl rfl ⟨Nat.le_of_ble_eq_true rfl, Nat.le_of_ble_eq_true rfl⟩ rfl rfl (Nat.le_of_ble_eq_true rfl) dX3_write_31 ?_
          rintro _ _ _ ⟨rfl, rfl, rfl⟩
          rw [hX1]
          refine g_istore (pc := 34) (lv' := [_, _, _, _, _, _, _]) G dX3_write_34 (by decide) rfl ?_
          refine g_aload_n (pc := 36) G dX3_write_36 rfl ?_
          refine g_iload (pc := 37) G dX3_write_37 rfl ?_
          refine g_call (pc := 39) (n := 1) (As := [_]) G (kX0_isSeen hD i hi _ (rg_at M i _) M1 L) gX3_write_X0_isSeen (oCopy i hi) rfl rfl hdX0_isSeen rfl rfl ⟨Nat.le_of_ble_eq_true rfl, Nat.le_of_ble_eq_true rfl⟩ rfl rfl (Nat.le_of_ble_eq_true rfl) dX3_write_39 ?_
          rintro _ _ _ ⟨rfl, rfl, rfl⟩
          rw [hX1]
          by_cases qs : aSeen (vX M i) (aAt (vX M i) q)
          · rw [if_pos qs]
            refine g_if_eq (pc := 42) G (by omega) 74 dX3_write_42 (by decide) (fun h => absurd h (by decide)) (fun _ => ?_)
            refine g_iload (pc := 45) G dX3_write_45 rfl ?_
            refine g_aload_n (pc := 47) G dX3_write_47 rfl ?_
            refine g_getR (pc := 48) G hinX3 oPage rfl 5 (by decide) f41 rfl rfl dX3_write_48 ?_
            refine g_alenI (pc := 51) G aWritten dX3_write_51 ?_
            refine g_icmp_ge (pc := 52) G (by clear hR; omega) (by clear hR; omega) 74 dX3_write_52 (by decide) (fun h52 => ?_) (fun h52 => ?_)
            · -- 52 t
              rw [if_neg (fun w => by have := w.2; clear hR; omega)] at hR
              --go
              refine g_iinc (pc := 74) (lv' := [_, _, _, _, _, _, _]) G dX3_write_74 (by decide) rfl rfl ?_
              refine g_goto (pc := 77) G 19 dX3_write_77 (by decide) ?_
              exact ih (q + 1) n0 M1 O _ (by clear hR; omega) (by clear hR; omega) (by clear hR; omega) (by clear hR; omega) (by clear hR; omega) ho1 hO1 hR
            · -- 52 f
              rw [if_pos ⟨qs, by clear hR; omega⟩] at hR
              --go
              refine g_aload_n (pc := 55) G dX3_write_55 rfl ?_
              refine g_getR (pc := 56) G hinX3 oPage rfl 5 (by decide) f41 rfl rfl dX3_write_56 ?_
              refine g_iload (pc := 59) G dX3_write_59 rfl ?_
              refine g_aload_n (pc := 61) G dX3_write_61 rfl ?_
              refine g_getR (pc := 62) G hinX0 (oCopy i hi) rfl 0 (by decide) f62 rfl rfl dX3_write_62 ?_
              refine g_iload (pc := 65) G dX3_write_65 rfl ?_
              refine g_call (pc := 67) (n := 1) (As := [_]) G (kX2_letterOf hD (tI i) (tI_lt i) _ (rg_at M i _) M1 L) gX3_write_X2_letterOf (oText _ (tI_lt i)) rfl rfl hdX2_letterOf rfl rfl ⟨Nat.le_of_ble_eq_true rfl, Nat.le_of_ble_eq_true rfl⟩ rfl rfl (Nat.le_of_ble_eq_true rfl) dX3_write_67 ?_
              rintro _ _ _ ⟨rfl, rfl, rfl⟩
              rw [hT1]
              refine g_iast (pc := 70) G aWritten ⟨by clear hR; omega, by clear hR; omega⟩ dX3_write_70 ?_
              refine g_mem (fun M2 L2 hM2 hL2 => ?_)
              obtain rfl : L = L2 := hL2.symm
              have ho2 : ∀ k, k ≠ 8 → M2 k = M k := by
                intro k hk
                rw [hM2, sjU_o hk]
                exact ho1 k hk
              have hO2 : (fun z => (M2 8 z).toInt) = fun z => if z = n0 then aLetter (vT M (tI i)) (aAt (vX M i) q) else O z := by
                funext z
                rw [hM2, sjU_s, ← congrFun hO1 z]
                split
                · exact iI_toInt (rg_letter M _ _)
                · rfl
              clear hM2
              refine g_iinc (pc := 71) (lv' := [_, _, _, _, _, _, _]) G dX3_write_71 (by decide) rfl rfl ?_
              refine g_iinc (pc := 74) (lv' := [_, _, _, _, _, _, _]) G dX3_write_74 (by decide) rfl rfl ?_
              refine g_goto (pc := 77) G 19 dX3_write_77 (by decide) ?_
              exact ih (q + 1) (n0 + 1) M2 _ _ (by clear hR; omega) (by clear hR; omega) (by clear hR; omega) (by clear hR; omega) (by clear hR; omega) ho2 hO2 hR
          · rw [if_neg qs]
            rw [if_neg (fun w => qs w.1)] at hR
            refine g_if_eq (pc := 42) G (by omega) 74 dX3_write_42 (by decide) (fun _ => ?_) (fun h => absurd h (by decide))
            refine g_iinc (pc := 74) (lv' := [_, _, _, _, _, _, _]) G dX3_write_74 (by decide) rfl rfl ?_
            refine g_goto (pc := 77) G 19 dX3_write_77 (by decide) ?_
            exact ih (q + 1) n0 M1 O _ (by clear hR; omega) (by clear hR; omega) (by clear hR; omega) (by clear hR; omega) (by clear hR; omega) ho1 hO1 hR
    exact loop _ 0 0 M (fun z => (M 8 z).toInt) _ (by omega) (by omega) (by omega) (by omega) (Nat.lt_succ_self _) (fun k _ => rfl) rfl (by rw [Int.sub_zero])
  · skip
    refine g_astore_nN (pc := 6) (lv' := [_, _, _, _, _, _, _]) G dX3_write_6 (by decide) rfl ?_
    refine g_aload_nN (pc := 7) G dX3_write_7 rfl ?_
    refine g_ifnonnullN (pc := 8) G dX3_write_8 ?_
    refine g_iconst (pc := 11) G dX3_write_11 ?_
    refine g_iret (pc := 12) G dX3_write_12 ?_
    exact ⟨rfl, Or.inr ⟨qv, rfl, rfl⟩⟩
