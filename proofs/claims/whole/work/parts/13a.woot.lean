theorem sj_as {d x D : Int} (h : d + (x + 1) = D) : d + 1 + x = D := by omega
theorem sj_as3 {d x y z D : Int} (h : d + (x + y + z) = D) : d + x + y + z = D := by omega
set_option maxHeartbeats 4000000 in
set_option maxRecDepth 100000 in
theorem kX0_wootPlace {l : Launch} {D : va_G} {cI cZ cJ cT cC : ClassId} {ad : Nat → Nat} {A : Nat → Prop} (hD : ∀ g : Nat → va_E, va_D A (sjW 89 ad g)) (i : Nat) (hi : i < 12) (c : Int) (hc : rng c) (M : sjM) (L : sjL) (h1 : -2 ≤ aPl (vX M i) (aLeft (vT M (tI i)) c)) (h2 : aPl (vX M i) (aLeft (vT M (tI i)) c) ≤ 60) (h3 : -2 ≤ aPl (vX M i) (aRight (vT M (tI i)) c)) (h4 : aPl (vX M i) (aRight (vT M (tI i)) c) ≤ 60) : Met l yX0_wootPlace wsX0_wootPlace { frames := 3, cells := 0, slots := 0, locals := 65 } (sjA D cI cZ cJ cT cC 89 ad (kC cI cZ cJ cT cC ad) [.ref (ad (29 + 5 * i)), .int (iI c)] M L) (sjZ D 89 ad (kC cI cZ cJ cT cC ad) A (fun v M' L' => L = L' ∧ M' = sjU M (29 + 5 * i) 5 (iI ((M (29 + 5 * i) 5).toInt + (aWoot (vT M (tI i)) (vX M i) c).2)) ∧ v = some (.int (iI (aWoot (vT M (tI i)) (vX M i) c).1)))) 0 0 A := by
  refine g_met (cc := cX0_wootPlace) (maxL := 10) (ret := (some .int)) (lv := [_, _, _, _, _, _, _, _, _, _]) (by decide) rfl hD kC_loc (List.forall_mem_cons.mpr ⟨rfl, List.forall_mem_cons.mpr ⟨rfl, fun _ h => absurd h List.not_mem_nil⟩⟩) (Nat.le_of_ble_eq_true rfl) rfl ?_
  intro J G
  have f9 : Cond.fieldLink RX0 9 "SharedPage$Copy" "text" "LSharedPage$Text;" ∈ wsX0_wootPlace := by decide +kernel
  have f48 : Cond.fieldLink RX0 48 "SharedPage$Copy" "looksOfCall" "I" ∈ wsX0_wootPlace := by decide +kernel
  have hinX0 : ∀ w ∈ u_ws RX0 TX0 12, w ∈ wsX0_wootPlace := fun w h => List.mem_cons_of_mem _ (List.mem_append_left _ (List.mem_append_right _ h))
  have hT5 : ∀ d : Int, vT (sjU M (29 + 5 * i) 5 (iI ((M (29 + 5 * i) 5).toInt + d))) (tI i) = (vT M (tI i)) := fun d => onC_T (onC_U0 M i 5 _) _ (tI_lt i)
  have hX5 : ∀ d : Int, vX (sjU M (29 + 5 * i) 5 (iI ((M (29 + 5 * i) 5).toInt + d))) i = aUp (vX M i) 0 5 (iI ((M (29 + 5 * i) 5).toInt + d)).toInt := fun d => vX_U0 M i 5 _
  have hM0 : (sjU M (29 + 5 * i) 5 (iI ((M (29 + 5 * i) 5).toInt + 0))) = M := by rw [Int.add_zero, iI_of, sjU_self]
  have hMd : ∀ d e : Int, sjU (sjU M (29 + 5 * i) 5 (iI ((M (29 + 5 * i) 5).toInt + d))) (29 + 5 * i) 5 (iI (((sjU M (29 + 5 * i) 5 (iI ((M (29 + 5 * i) 5).toInt + d))) (29 + 5 * i) 5).toInt + e)) = (sjU M (29 + 5 * i) 5 (iI ((M (29 + 5 * i) 5).toInt + ((d + e))))) := by
    intro d e
    rw [sjU_U, sjU_s, if_pos rfl, iI_wr, Int.add_assoc]
  generalize hmk : aMark (vT M (tI i)) c = mk
  have hmr : rng mk := by rw [← hmk]; exact rg_mark M (tI i) c
  have inner : ∀ (a b t A B DD : Int), -2 ≤ a → a < b → b ≤ 60 → (∀ x8 x9 : Option Value, J 150 (sjU M (29 + 5 * i) 5 (iI ((M (29 + 5 * i) 5).toInt + DD))) L [some (.ref (ad (29 + 5 * i))), some (.int (iI c)), some (.int (iI a)), some (.int (iI b)), some (.int (iI mk)), some (.int (iI t)), some (.int (iI A)), some (.int (iI B)), x8, x9] []) → ∀ (n : Nat) (q e d NN : Int) (x9 : Option Value), a < q → q ≤ b → (b - q).toNat < n → a ≤ e → e < q → aRow (vT M (tI i)) (vX M i) mk a b (b - q).toNat q e = (A, B, NN) → DD = d + NN → J 78 (sjU M (29 + 5 * i) 5 (iI ((M (29 + 5 * i) 5).toInt + d))) L [some (.ref (ad (29 + 5 * i))), some (.int (iI c)), some (.int (iI a)), some (.int (iI b)), some (.int (iI mk)), some (.int (iI t)), some (.int (iI e)), some (.int (iI b)), some (.int (iI q)), x9] [] := by
    intro a b t A B DD ha hab hb K n
    induction n with
    | zero => intro q e d NN x9 _ _ h; omega
    | succ n ih =>
      intro q e d NN x9 hq0 hq1 hn he0 he1 hR hDD
      refine g_iload (pc := 78) G dX0_wootPlace_78 rfl ?_
      refine g_iload_n (pc := 80) G dX0_wootPlace_80 rfl ?_
      refine g_icmp_ge (pc := 81) G (by (try clear hR); (try clear hsp); omega) (by (try clear hR); (try clear hsp); omega) 150 dX0_wootPlace_81 (by decide) (fun h81 => ?_) (fun h81 => ?_)
      · -- 81 t
        rw [show (b - q).toNat = 0 by (try clear hR); (try clear hsp); omega, aRow] at hR
        cases hR
        obtain rfl : DD = d := by (try clear hR); (try clear hsp); omega
        exact K _ _
      · -- 81 f
        rw [show (b - q).toNat = (b - (q + 1)).toNat + 1 by (try clear hR); (try clear hsp); omega, aRow] at hR
        --go
        refine g_iload (pc := 84) G dX0_wootPlace_84 rfl ?_
        refine g_iload_n (pc := 86) G dX0_wootPlace_86 rfl ?_
        refine g_icmp_ne (pc := 87) G (by (try clear hR); (try clear hsp); omega) (by (try clear hR); (try clear hsp); omega) 150 dX0_wootPlace_87 (by decide) (fun h87 => ?_) (fun h87 => ?_)
        · -- 87 t
          exact absurd rfl h87
        · -- 87 f
          refine g_aload_n (pc := 90) G dX0_wootPlace_90 rfl ?_
          refine g_iload (pc := 91) G dX0_wootPlace_91 rfl ?_
          refine g_call (pc := 93) (n := 1) (As := [_]) G (kX0_characterAt hD i hi (q) (⟨by (try clear hR); (try clear hsp); omega, by (try clear hR); (try clear hsp); omega⟩) (sjU M (29 + 5 * i) 5 (iI ((M (29 + 5 * i) 5).toInt + d))) L) gX0_wootPlace_X0_characterAt (oCopy i hi) rfl rfl hdX0_characterAt rfl rfl ⟨Nat.le_of_ble_eq_true rfl, Nat.le_of_ble_eq_true rfl⟩ rfl rfl (Nat.le_of_ble_eq_true rfl) dX0_wootPlace_93 ?_
          rintro _ _ _ ⟨rfl, rfl, rfl⟩
          rw [hX5 (d), aAt_up0 _ _ _ _ (by decide)]
          refine g_istore (pc := 96) (lv' := [_, _, _, _, _, _, _, _, _, _]) G dX0_wootPlace_96 (by decide) rfl ?_
          refine g_aload_n (pc := 98) G dX0_wootPlace_98 rfl ?_
          refine g_iload (pc := 99) G dX0_wootPlace_99 rfl ?_
          refine g_iload_n (pc := 101) G dX0_wootPlace_101 rfl ?_
          refine g_iload_n (pc := 102) G dX0_wootPlace_102 rfl ?_
          refine g_call (pc := 103) (n := 3) (As := [_, _, _]) G (kX0_spans hD i hi _ a b (rg_at _ _ _) ⟨by (try clear hR); (try clear hsp); omega, by (try clear hR); (try clear hsp); omega⟩ ⟨by (try clear hR); (try clear hsp); omega, by (try clear hR); (try clear hsp); omega⟩ (sjU M (29 + 5 * i) 5 (iI ((M (29 + 5 * i) 5).toInt + d))) L) gX0_wootPlace_X0_spans (oCopy i hi) rfl rfl hdX0_spans rfl rfl ⟨Nat.le_of_ble_eq_true rfl, Nat.le_of_ble_eq_true rfl⟩ rfl rfl (Nat.le_of_ble_eq_true rfl) dX0_wootPlace_103 ?_
          rintro _ _ _ ⟨rfl, rfl, rfl⟩
          have hsp : aSpans (vT (sjU M (29 + 5 * i) 5 (iI ((M (29 + 5 * i) 5).toInt + d))) (tI i)) (vX (sjU M (29 + 5 * i) 5 (iI ((M (29 + 5 * i) 5).toInt + d))) i) (aAt (vX M i) q) a b ↔ aSpans (vT M (tI i)) (vX M i) (aAt (vX M i) q) a b := by
            unfold aSpans
            rw [hT5 d, hX5 d, aPl_up0 _ _ _ _ (by decide), aPl_up0 _ _ _ _ (by decide)]
          by_cases qs : aSpans (vT M (tI i)) (vX M i) (aAt (vX M i) q) a b
          · rw [if_pos (hsp.mpr qs)]
            rw [if_pos qs] at hR
            refine g_if_eq (pc := 106) G (by (try clear hR); (try clear hsp); omega) 144 dX0_wootPlace_106 (by decide) (fun h => absurd h (by decide)) (fun _ => ?_)
            refine g_aload_n (pc := 109) G dX0_wootPlace_109 rfl ?_
            refine g_dup (pc := 110) G dX0_wootPlace_110 rfl ?_
            refine g_getI (pc := 111) G hinX0 (oCopy i hi) rfl 10 (by decide) f48 rfl rfl dX0_wootPlace_111 ?_
            refine g_iconst (pc := 114) G dX0_wootPlace_114 ?_
            refine g_iadd (pc := 115) G dX0_wootPlace_115 ?_
            refine g_put (pc := 116) G tyX0 tyX0_ok nmX0 hinX0 (oCopy i hi) rfl 10 (by decide) (pCopy5 _ _) f48 rfl rfl rfl dX0_wootPlace_116 ?_
            rw [hMd]
            refine g_aload_n (pc := 119) G dX0_wootPlace_119 rfl ?_
            refine g_getR (pc := 120) G hinX0 (oCopy i hi) rfl 0 (by decide) f9 rfl rfl dX0_wootPlace_120 ?_
            refine g_iload (pc := 123) G dX0_wootPlace_123 rfl ?_
            refine g_call (pc := 125) (n := 1) (As := [_]) G (kX2_markOf hD (tI i) (tI_lt i) (_) (rg_at _ _ _) (sjU M (29 + 5 * i) 5 (iI ((M (29 + 5 * i) 5).toInt + (d + 1)))) L) gX0_wootPlace_X2_markOf (oText _ (tI_lt i)) rfl rfl hdX2_markOf rfl rfl ⟨Nat.le_of_ble_eq_true rfl, Nat.le_of_ble_eq_true rfl⟩ rfl rfl (Nat.le_of_ble_eq_true rfl) dX0_wootPlace_125 ?_
            rintro _ _ _ ⟨rfl, rfl, rfl⟩
            rw [hT5 (d + 1)]
            refine g_iload (pc := 128) G dX0_wootPlace_128 rfl ?_
            refine g_icmp_ge (pc := 130) G (rg_mark _ _ _) (by first | assumption | ((try clear hR); (try clear hsp); omega)) 140 dX0_wootPlace_130 (by decide) (fun h130 => ?_) (fun h130 => ?_)
            · -- 130 t
              rw [if_neg (by (try clear hR); (try clear hsp); omega)] at hR
              --go
              refine g_iload (pc := 140) G dX0_wootPlace_140 rfl ?_
              refine g_istore (pc := 142) (lv' := [_, _, _, _, _, _, _, _, _, _]) G dX0_wootPlace_142 (by decide) rfl ?_
              refine g_iinc (pc := 144) (lv' := [_, _, _, _, _, _, _, _, _, _]) G dX0_wootPlace_144 (by decide) rfl rfl ?_
              refine g_goto (pc := 147) G 78 dX0_wootPlace_147 (by decide) ?_
              cases hR
              obtain rfl : DD = d + 1 := by (try clear hR); (try clear hsp); omega
              refine g_iload (pc := 78) G dX0_wootPlace_78 rfl ?_
              refine g_iload_n (pc := 80) G dX0_wootPlace_80 rfl ?_
              refine g_icmp_ge (pc := 81) G (by (try clear hR); (try clear hsp); omega) (by (try clear hR); (try clear hsp); omega) 150 dX0_wootPlace_81 (by decide) (fun h81 => ?_) (fun h81 => ?_)
              · -- 81 t
                exact K _ _
              · -- 81 f
                refine g_iload (pc := 84) G dX0_wootPlace_84 rfl ?_
                refine g_iload_n (pc := 86) G dX0_wootPlace_86 rfl ?_
                refine g_icmp_ne (pc := 87) G (by (try clear hR); (try clear hsp); omega) (by (try clear hR); (try clear hsp); omega) 150 dX0_wootPlace_87 (by decide) (fun h87 => ?_) (fun h87 => ?_)
                · -- 87 t
                  exact K _ _
                · -- 87 f
                  exfalso
                  (try clear hR); (try clear hsp); omega
            · -- 130 f
              rw [if_pos h130] at hR
              --go
              refine g_iload (pc := 133) G dX0_wootPlace_133 rfl ?_
              refine g_istore (pc := 135) (lv' := [_, _, _, _, _, _, _, _, _, _]) G dX0_wootPlace_135 (by decide) rfl ?_
              refine g_goto (pc := 137) G 144 dX0_wootPlace_137 (by decide) ?_
              refine g_iinc (pc := 144) (lv' := [_, _, _, _, _, _, _, _, _, _]) G dX0_wootPlace_144 (by decide) rfl rfl ?_
              refine g_goto (pc := 147) G 78 dX0_wootPlace_147 (by decide) ?_
              generalize hres : aRow (vT M (tI i)) (vX M i) mk a b (b - (q + 1)).toNat (q + 1) q = res at hR
              obtain ⟨r1, r2, r3⟩ := res
              dsimp only at hR
              cases hR
              exact ih (q + 1) q (d + 1) r3 _ (by (try clear hR); (try clear hsp); omega) (by (try clear hR); (try clear hsp); omega) (by (try clear hR); (try clear hsp); omega) (by (try clear hR); (try clear hsp); omega) (by (try clear hR); (try clear hsp); omega) hres (by (try clear hR); (try clear hsp); omega)
          · rw [if_neg (fun w => qs (hsp.mp w))]
            rw [if_neg qs] at hR
            refine g_if_eq (pc := 106) G (by (try clear hR); (try clear hsp); omega) 144 dX0_wootPlace_106 (by decide) (fun _ => ?_) (fun h => absurd h (by decide))
            refine g_iinc (pc := 144) (lv' := [_, _, _, _, _, _, _, _, _, _]) G dX0_wootPlace_144 (by decide) rfl rfl ?_
            refine g_goto (pc := 147) G 78 dX0_wootPlace_147 (by decide) ?_
            exact ih (q + 1) e d NN _ (by (try clear hR); (try clear hsp); omega) (by (try clear hR); (try clear hsp); omega) (by (try clear hR); (try clear hsp); omega) (by (try clear hR); (try clear hsp); omega) (by (try clear hR); (try clear hsp); omega) hR hDD
  have outer : ∀ (n : Nat) (t a b d : Int) (x6 x7 x8 x9 : Option Value), 0 ≤ t → t ≤ 60 → (60 - t).toNat < n → -2 ≤ a → a ≤ 60 → -2 ≤ b → b ≤ 60 → (aWootF (vT M (tI i)) (vX M i) mk (60 - t).toNat a b).1 = (aWoot (vT M (tI i)) (vX M i) c).1 → d + (aWootF (vT M (tI i)) (vX M i) mk (60 - t).toNat a b).2 = (aWoot (vT M (tI i)) (vX M i) c).2 → J 39 (sjU M (29 + 5 * i) 5 (iI ((M (29 + 5 * i) 5).toInt + d))) L [some (.ref (ad (29 + 5 * i))), some (.int (iI c)), some (.int (iI a)), some (.int (iI b)), some (.int (iI mk)), some (.int (iI t)), x6, x7, x8, x9] [] := by
    intro n
    induction n with
    | zero => intro t a b d x6 x7 x8 x9 _ _ h; omega
    | succ n ih =>
      intro t a b d x6 x7 x8 x9 ht0 ht1 hn ha0 ha1 hb0 hb1 hR hDD
      refine g_iload (pc := 39) G dX0_wootPlace_39 rfl ?_
      refine g_bipush (pc := 41) G dX0_wootPlace_41 rfl ?_
      refine g_icmp_ge (pc := 43) G (by (try clear hR); (try clear hDD); (try clear hsp); omega) (by (try clear hR); (try clear hDD); (try clear hsp); omega) 162 dX0_wootPlace_43 (by decide) (fun h43 => ?_) (fun h43 => ?_)
      · -- 43 t
        rw [show (60 - t).toNat = 0 by (try clear hR); (try clear hDD); (try clear hsp); omega, aWootF] at hR hDD
        refine g_iload_n G dX0_wootPlace_162 rfl ?_
        refine g_iret G dX0_wootPlace_163 ?_
        refine ⟨rfl, ?_, ?_⟩
        · rw [← hDD, Int.add_zero]
        · rw [← hR]
      · -- 43 f
        rw [show (60 - t).toNat = (60 - (t + 1)).toNat + 1 by (try clear hR); (try clear hDD); (try clear hsp); omega, aWootF] at hR hDD
        --go
        refine g_iload_n (pc := 46) G dX0_wootPlace_46 rfl ?_
        refine g_iload_n (pc := 47) G dX0_wootPlace_47 rfl ?_
        refine g_isub (pc := 48) G dX0_wootPlace_48 ?_
        refine g_iconst (pc := 49) G dX0_wootPlace_49 ?_
        refine g_icmp_le (pc := 50) G (by (try clear hR); (try clear hDD); (try clear hsp); omega) (by (try clear hR); (try clear hDD); (try clear hsp); omega) 162 dX0_wootPlace_50 (by decide) (fun h50 => ?_) (fun h50 => ?_)
        · -- 50 t
          rw [if_neg (by (try clear hR); (try clear hDD); (try clear hsp); omega)] at hR hDD
          refine g_iload_n G dX0_wootPlace_162 rfl ?_
          refine g_iret G dX0_wootPlace_163 ?_
          refine ⟨rfl, ?_, ?_⟩
          · rw [← hDD, Int.add_zero]
          · rw [← hR]
        · -- 50 f
          rw [if_pos (by (try clear hR); (try clear hDD); (try clear hsp); omega)] at hR hDD
          obtain ⟨i1, i2, i3, i4, i5, i6, i7, i8⟩ := aRow_spec (T := (vT M (tI i))) (X := (vX M i)) mk a b (b - a - 1).toNat (a + 1) a (by (try clear hR); (try clear hDD); (try clear hsp); omega) (by (try clear hR); (try clear hDD); (try clear hsp); omega) (by (try clear hR); (try clear hDD); (try clear hsp); omega) (by (try clear hR); (try clear hDD); (try clear hsp); omega) (Or.inl rfl)
          generalize hrow : aRow (vT M (tI i)) (vX M i) mk a b (b - a - 1).toNat (a + 1) a = row at hR hDD i1 i2 i3 i4 i5 i6 i7 i8
          obtain ⟨ra, rb, rn⟩ := row
          dsimp only at hR hDD i1 i2 i3 i4 i5 i6 i7 i8
          --go
          refine g_aload_n (pc := 53) G dX0_wootPlace_53 rfl ?_
          refine g_dup (pc := 54) G dX0_wootPlace_54 rfl ?_
          refine g_getI (pc := 55) G hinX0 (oCopy i hi) rfl 10 (by decide) f48 rfl rfl dX0_wootPlace_55 ?_
          refine g_iload_n (pc := 58) G dX0_wootPlace_58 rfl ?_
          refine g_iload_n (pc := 59) G dX0_wootPlace_59 rfl ?_
          refine g_isub (pc := 60) G dX0_wootPlace_60 ?_
          refine g_iconst (pc := 61) G dX0_wootPlace_61 ?_
          refine g_isub (pc := 62) G dX0_wootPlace_62 ?_
          refine g_iadd (pc := 63) G dX0_wootPlace_63 ?_
          refine g_put (pc := 64) G tyX0 tyX0_ok nmX0 hinX0 (oCopy i hi) rfl 10 (by decide) (pCopy5 _ _) f48 rfl rfl rfl dX0_wootPlace_64 ?_
          rw [hMd]
          refine g_iload_n (pc := 67) G dX0_wootPlace_67 rfl ?_
          refine g_istore (pc := 68) (lv' := [_, _, _, _, _, _, _, _, _, _]) G dX0_wootPlace_68 (by decide) rfl ?_
          refine g_iload_n (pc := 70) G dX0_wootPlace_70 rfl ?_
          refine g_istore (pc := 71) (lv' := [_, _, _, _, _, _, _, _, _, _]) G dX0_wootPlace_71 (by decide) rfl ?_
          refine g_iload_n (pc := 73) G dX0_wootPlace_73 rfl ?_
          refine g_iconst (pc := 74) G dX0_wootPlace_74 ?_
          refine g_iadd (pc := 75) G dX0_wootPlace_75 ?_
          refine g_istore (pc := 76) (lv' := [_, _, _, _, _, _, _, _, _, _]) G dX0_wootPlace_76 (by decide) rfl ?_
          refine inner a b t ra rb (d + (b - a - 1) + rn) (by (try clear hR); (try clear hDD); (try clear hsp); omega) (by (try clear hR); (try clear hDD); (try clear hsp); omega) (by (try clear hR); (try clear hDD); (try clear hsp); omega) (fun x8 x9 => ?_) _ (a + 1) a (d + (b - a - 1)) rn _ (by (try clear hR); (try clear hDD); (try clear hsp); omega) (by (try clear hR); (try clear hDD); (try clear hsp); omega) (Nat.lt_succ_self _) (by (try clear hR); (try clear hDD); (try clear hsp); omega) (by (try clear hR); (try clear hDD); (try clear hsp); omega) (by rw [show b - (a + 1) = b - a - 1 by (try clear hR); (try clear hDD); (try clear hsp); omega]; exact hrow) rfl
          refine g_iload (pc := 150) G dX0_wootPlace_150 rfl ?_
          refine g_istore_n (pc := 152) (lv' := [_, _, _, _, _, _, _, _, _, _]) G dX0_wootPlace_152 (by decide) rfl ?_
          refine g_iload (pc := 153) G dX0_wootPlace_153 rfl ?_
          refine g_istore_n (pc := 155) (lv' := [_, _, _, _, _, _, _, _, _, _]) G dX0_wootPlace_155 (by decide) rfl ?_
          refine g_iinc (pc := 156) (lv' := [_, _, _, _, _, _, _, _, _, _]) G dX0_wootPlace_156 (by decide) rfl rfl ?_
          refine g_goto (pc := 159) G 39 dX0_wootPlace_159 (by decide) ?_
          exact ih (t + 1) ra rb (d + (b - a - 1) + rn) _ _ _ _ (by (try clear hR); (try clear hDD); (try clear hsp); omega) (by (try clear hR); (try clear hDD); (try clear hsp); omega) (by (try clear hR); (try clear hDD); (try clear hsp); omega) (by (try clear hR); (try clear hDD); (try clear hsp); omega) (by (try clear hR); (try clear hDD); (try clear hsp); omega) (by (try clear hR); (try clear hDD); (try clear hsp); omega) (by (try clear hR); (try clear hDD); (try clear hsp); omega) hR (sj_as3 hDD)
  refine g_aload_n (pc := 0) G dX0_wootPlace_0 rfl ?_
  refine g_aload_n (pc := 1) G dX0_wootPlace_1 rfl ?_
  refine g_getR (pc := 2) G hinX0 (oCopy i hi) rfl 0 (by decide) f9 rfl rfl dX0_wootPlace_2 ?_
  refine g_iload_n (pc := 5) G dX0_wootPlace_5 rfl ?_
  refine g_call (pc := 6) (n := 1) (As := [_]) G (kX2_leftOf hD (tI i) (tI_lt i) (c) (hc) M L) gX0_wootPlace_X2_leftOf (oText _ (tI_lt i)) rfl rfl hdX2_leftOf rfl rfl ⟨Nat.le_of_ble_eq_true rfl, Nat.le_of_ble_eq_true rfl⟩ rfl rfl (Nat.le_of_ble_eq_true rfl) dX0_wootPlace_6 ?_
  rintro _ _ _ ⟨rfl, rfl, rfl⟩
  refine g_call (pc := 9) (n := 1) (As := [_]) G (kX0_placeOf hD i hi (_) (rg_left _ _ _) M L) gX0_wootPlace_X0_placeOf (oCopy i hi) rfl rfl hdX0_placeOf rfl rfl ⟨Nat.le_of_ble_eq_true rfl, Nat.le_of_ble_eq_true rfl⟩ rfl rfl (Nat.le_of_ble_eq_true rfl) dX0_wootPlace_9 ?_
  rintro _ _ _ ⟨rfl, rfl, rfl⟩
  refine g_istore_n (pc := 12) (lv' := [_, _, _, _, _, _, _, _, _, _]) G dX0_wootPlace_12 (by decide) rfl ?_
  refine g_aload_n (pc := 13) G dX0_wootPlace_13 rfl ?_
  refine g_aload_n (pc := 14) G dX0_wootPlace_14 rfl ?_
  refine g_getR (pc := 15) G hinX0 (oCopy i hi) rfl 0 (by decide) f9 rfl rfl dX0_wootPlace_15 ?_
  refine g_iload_n (pc := 18) G dX0_wootPlace_18 rfl ?_
  refine g_call (pc := 19) (n := 1) (As := [_]) G (kX2_rightOf hD (tI i) (tI_lt i) (c) (hc) M L) gX0_wootPlace_X2_rightOf (oText _ (tI_lt i)) rfl rfl hdX2_rightOf rfl rfl ⟨Nat.le_of_ble_eq_true rfl, Nat.le_of_ble_eq_true rfl⟩ rfl rfl (Nat.le_of_ble_eq_true rfl) dX0_wootPlace_19 ?_
  rintro _ _ _ ⟨rfl, rfl, rfl⟩
  refine g_call (pc := 22) (n := 1) (As := [_]) G (kX0_placeOf hD i hi (_) (rg_right _ _ _) M L) gX0_wootPlace_X0_placeOf (oCopy i hi) rfl rfl hdX0_placeOf rfl rfl ⟨Nat.le_of_ble_eq_true rfl, Nat.le_of_ble_eq_true rfl⟩ rfl rfl (Nat.le_of_ble_eq_true rfl) dX0_wootPlace_22 ?_
  rintro _ _ _ ⟨rfl, rfl, rfl⟩
  refine g_istore_n (pc := 25) (lv' := [_, _, _, _, _, _, _, _, _, _]) G dX0_wootPlace_25 (by decide) rfl ?_
  refine g_aload_n (pc := 26) G dX0_wootPlace_26 rfl ?_
  refine g_getR (pc := 27) G hinX0 (oCopy i hi) rfl 0 (by decide) f9 rfl rfl dX0_wootPlace_27 ?_
  refine g_iload_n (pc := 30) G dX0_wootPlace_30 rfl ?_
  refine g_call (pc := 31) (n := 1) (As := [_]) G (kX2_markOf hD (tI i) (tI_lt i) (c) (hc) M L) gX0_wootPlace_X2_markOf (oText _ (tI_lt i)) rfl rfl hdX2_markOf rfl rfl ⟨Nat.le_of_ble_eq_true rfl, Nat.le_of_ble_eq_true rfl⟩ rfl rfl (Nat.le_of_ble_eq_true rfl) dX0_wootPlace_31 ?_
  rintro _ _ _ ⟨rfl, rfl, rfl⟩
  refine g_istore (pc := 34) (lv' := [_, _, _, _, _, _, _, _, _, _]) G dX0_wootPlace_34 (by decide) rfl ?_
  refine g_iconst (pc := 36) G dX0_wootPlace_36 ?_
  refine g_istore (pc := 37) (lv' := [_, _, _, _, _, _, _, _, _, _]) G dX0_wootPlace_37 (by decide) rfl ?_
  have K := outer _ 0 _ _ 0 none none none none (by omega) (by omega) (Nat.lt_succ_self _) h1 h2 h3 h4 (by rw [show ((60 : Int) - 0).toNat = 60 from rfl, aWoot, hmk]) (by rw [show ((60 : Int) - 0).toNat = 60 from rfl, aWoot, hmk, Int.zero_add])
  rw [hM0] at K
  rw [hmk]
  exact K
