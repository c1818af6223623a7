theorem sj_at {d x D : Int} (h : d + (x + 1) = D) : d + 1 + x = D := by omega
theorem sj_at3 {d x y z D : Int} (h : d + (x + y + z) = D) : d + x + y + z = D := by omega
set_option maxHeartbeats 4000000 in
set_option maxRecDepth 100000 in
theorem kX0_yataPlace {l : Launch} {D : va_G} {cI cZ cJ cT cC : ClassId} {ad : Nat → Nat} {A : Nat → Prop} (hD : ∀ g : Nat → va_E, va_D A (sjW 89 ad g)) (i : Nat) (hi : i < 12) (c : Int) (hc : rng c) (M : sjM) (L : sjL) (h1 : -2 ≤ aPl (vX M i) (aLeft (vT M (tI i)) c)) (h2 : aPl (vX M i) (aLeft (vT M (tI i)) c) ≤ 60) (h3 : -2 ≤ aPl (vX M i) (aRight (vT M (tI i)) c)) (h4 : aPl (vX M i) (aRight (vT M (tI i)) c) ≤ 60) : Met l yX0_yataPlace wsX0_yataPlace { frames := 2, cells := 0, slots := 0, locals := 42 } (sjA D cI cZ cJ cT cC 89 ad (kC cI cZ cJ cT cC ad) [.ref (ad (29 + 5 * i)), .int (iI c)] M L) (sjZ D 89 ad (kC cI cZ cJ cT cC ad) A (fun v M' L' => L = L' ∧ M' = sjU M (29 + 5 * i) 5 (iI ((M (29 + 5 * i) 5).toInt + (aYata (vT M (tI i)) (vX M i) c).2)) ∧ v = some (.int (iI (aYata (vT M (tI i)) (vX M i) c).1)))) 0 0 A := by
  refine g_met (cc := cX0_yataPlace) (maxL := 9) (ret := (some .int)) (lv := [_, _, _, _, _, _, _, _, _]) (by decide) rfl hD kC_loc (List.forall_mem_cons.mpr ⟨rfl, List.forall_mem_cons.mpr ⟨rfl, fun _ h => absurd h List.not_mem_nil⟩⟩) (Nat.le_of_ble_eq_true rfl) rfl ?_
  intro J G
  have f9 : Cond.fieldLink RX0 9 "SharedPage$Copy" "text" "LSharedPage$Text;" ∈ wsX0_yataPlace := by decide +kernel
  have f48 : Cond.fieldLink RX0 48 "SharedPage$Copy" "looksOfCall" "I" ∈ wsX0_yataPlace := by decide +kernel
  have hinX0 : ∀ w ∈ u_ws RX0 TX0 12, w ∈ wsX0_yataPlace := fun w h => List.mem_cons_of_mem _ (List.mem_append_left _ (List.mem_append_right _ h))
  have hT5 : ∀ d : Int, vT (sjU M (29 + 5 * i) 5 (iI ((M (29 + 5 * i) 5).toInt + d))) (tI i) = (vT M (tI i)) := fun d => onC_T (onC_U0 M i 5 _) _ (tI_lt i)
  have hX5 : ∀ d : Int, vX (sjU M (29 + 5 * i) 5 (iI ((M (29 + 5 * i) 5).toInt + d))) i = aUp (vX M i) 0 5 (iI ((M (29 + 5 * i) 5).toInt + d)).toInt := fun d => vX_U0 M i 5 _
  have hM0 : (sjU M (29 + 5 * i) 5 (iI ((M (29 + 5 * i) 5).toInt + 0))) = M := by rw [Int.add_zero, iI_of, sjU_self]
  have hMd : ∀ d e : Int, sjU (sjU M (29 + 5 * i) 5 (iI ((M (29 + 5 * i) 5).toInt + d))) (29 + 5 * i) 5 (iI (((sjU M (29 + 5 * i) 5 (iI ((M (29 + 5 * i) 5).toInt + d))) (29 + 5 * i) 5).toInt + e)) = (sjU M (29 + 5 * i) 5 (iI ((M (29 + 5 * i) 5).toInt + ((d + e))))) := by
    intro d e
    rw [sjU_U, sjU_s, if_pos rfl, iI_wr, Int.add_assoc]
  have loop : ∀ (n : Nat) (q a d : Int) (x7 x8 : Option Value), -2 ≤ q → q ≤ 62 → -2 ≤ a → a ≤ 62 → ((aPl (vX M i) (aRight (vT M (tI i)) c)) - q).toNat < n → (aYataF (vT M (tI i)) (vX M i) c (aPl (vX M i) (aLeft (vT M (tI i)) c) + 1) ((aPl (vX M i) (aRight (vT M (tI i)) c)) - q).toNat q a).1 = (aYata (vT M (tI i)) (vX M i) c).1 → d + (aYataF (vT M (tI i)) (vX M i) c (aPl (vX M i) (aLeft (vT M (tI i)) c) + 1) ((aPl (vX M i) (aRight (vT M (tI i)) c)) - q).toNat q a).2 = (aYata (vT M (tI i)) (vX M i) c).2 → J 37 (sjU M (29 + 5 * i) 5 (iI ((M (29 + 5 * i) 5).toInt + d))) L [some (.ref (ad (29 + 5 * i))), some (.int (iI c)), some (.int (iI (aLeft (vT M (tI i)) c))), some (.int (iI (aPl (vX M i) (aLeft (vT M (tI i)) c) + 1))), some (.int (iI (aPl (vX M i) (aRight (vT M (tI i)) c)))), some (.int (iI a)), some (.int (iI q)), x7, x8] [] := by
    intro n
    induction n with
    | zero => intro q a d x7 x8 _ _ _ _ h; omega
    | succ n ih =>
      intro q a d x7 x8 hq0 hq1 ha0 ha1 hn hR hDD
      refine g_iload (pc := 37) G dX0_yataPlace_37 rfl ?_
      refine g_iload (pc := 39) G dX0_yataPlace_39 rfl ?_
      refine g_icmp_ge (pc := 41) G (by (try clear hR); (try clear hDD); (try clear hsp); omega) (by (try clear hR); (try clear hDD); (try clear hsp); omega) 167 dX0_yataPlace_41 (by decide) (fun h41 => ?_) (fun h41 => ?_)
      · -- 41 t
        rw [show ((aPl (vX M i) (aRight (vT M (tI i)) c)) - q).toNat = 0 by (try clear hR); (try clear hDD); (try clear hsp); omega, aYataF] at hR hDD
        dsimp only at hR hDD
        refine g_iload G dX0_yataPlace_167 rfl ?_
        refine g_iret G dX0_yataPlace_169 ?_
        refine ⟨rfl, ?_, ?_⟩
        · first | (rw [← hDD]; done) | (rw [← hDD, Int.add_zero]; done)
        · rw [← hR]
      · -- 41 f
        rw [show ((aPl (vX M i) (aRight (vT M (tI i)) c)) - q).toNat = ((aPl (vX M i) (aRight (vT M (tI i)) c)) - (q + 1)).toNat + 1 by (try clear hR); (try clear hDD); (try clear hsp); omega, aYataF] at hR hDD
        --go
        refine g_aload_n (pc := 44) G dX0_yataPlace_44 rfl ?_
        refine g_dup (pc := 45) G dX0_yataPlace_45 rfl ?_
        refine g_getI (pc := 46) G hinX0 (oCopy i hi) rfl 10 (by decide) f48 rfl rfl dX0_yataPlace_46 ?_
        refine g_iconst (pc := 49) G dX0_yataPlace_49 ?_
        refine g_iadd (pc := 50) G dX0_yataPlace_50 ?_
        refine g_put (pc := 51) G tyX0 tyX0_ok nmX0 hinX0 (oCopy i hi) rfl 10 (by decide) (pCopy5 _ _) f48 rfl rfl rfl dX0_yataPlace_51 ?_
        rw [hMd]
        refine g_aload_n (pc := 54) G dX0_yataPlace_54 rfl ?_
        refine g_iload (pc := 55) G dX0_yataPlace_55 rfl ?_
        refine g_call (pc := 57) (n := 1) (As := [_]) G (kX0_characterAt hD i hi (q) (⟨by (try clear hR); (try clear hDD); (try clear hsp); omega, by (try clear hR); (try clear hDD); (try clear hsp); omega⟩) (sjU M (29 + 5 * i) 5 (iI ((M (29 + 5 * i) 5).toInt + (d + 1)))) L) gX0_yataPlace_X0_characterAt (oCopy i hi) rfl rfl hdX0_characterAt rfl rfl ⟨Nat.le_of_ble_eq_true rfl, Nat.le_of_ble_eq_true rfl⟩ rfl rfl (Nat.le_of_ble_eq_true rfl) dX0_yataPlace_57 ?_
        rintro _ _ _ ⟨rfl, rfl, rfl⟩
        rw [hX5 (d + 1), aAt_up0 _ _ _ _ (by decide)]
        refine g_istore (pc := 60) (lv' := [_, _, _, _, _, _, _, _, _]) G dX0_yataPlace_60 (by decide) rfl ?_
        refine g_aload_n (pc := 62) G dX0_yataPlace_62 rfl ?_
        refine g_getR (pc := 63) G hinX0 (oCopy i hi) rfl 0 (by decide) f9 rfl rfl dX0_yataPlace_63 ?_
        refine g_iload (pc := 66) G dX0_yataPlace_66 rfl ?_
        refine g_call (pc := 68) (n := 1) (As := [_]) G (kX2_leftOf hD (tI i) (tI_lt i) (_) (rg_at M i _) (sjU M (29 + 5 * i) 5 (iI ((M (29 + 5 * i) 5).toInt + (d + 1)))) L) gX0_yataPlace_X2_leftOf (oText _ (tI_lt i)) rfl rfl hdX2_leftOf rfl rfl ⟨Nat.le_of_ble_eq_true rfl, Nat.le_of_ble_eq_true rfl⟩ rfl rfl (Nat.le_of_ble_eq_true rfl) dX0_yataPlace_68 ?_
        rintro _ _ _ ⟨rfl, rfl, rfl⟩
        rw [hT5 (d + 1)]
        refine g_istore (pc := 71) (lv' := [_, _, _, _, _, _, _, _, _]) G dX0_yataPlace_71 (by decide) rfl ?_
        refine g_iload (pc := 73) G dX0_yataPlace_73 rfl ?_
        refine g_iload_n (pc := 75) G dX0_yataPlace_75 rfl ?_
        refine g_icmp_ne (pc := 76) G (by exact rg_left M _ _) (by exact rg_left M _ _) 131 dX0_yataPlace_76 (by decide) (fun h76 => ?_) (fun h76 => ?_)
        · -- 76 t
          rw [if_neg h76] at hR hDD
          --go
          refine g_aload_n (pc := 131) G dX0_yataPlace_131 rfl ?_
          refine g_iload (pc := 132) G dX0_yataPlace_132 rfl ?_
          refine g_call (pc := 134) (n := 1) (As := [_]) G (kX0_placeOf hD i hi (_) (rg_left M _ _) (sjU M (29 + 5 * i) 5 (iI ((M (29 + 5 * i) 5).toInt + (d + 1)))) L) gX0_yataPlace_X0_placeOf (oCopy i hi) rfl rfl hdX0_placeOf rfl rfl ⟨Nat.le_of_ble_eq_true rfl, Nat.le_of_ble_eq_true rfl⟩ rfl rfl (Nat.le_of_ble_eq_true rfl) dX0_yataPlace_134 ?_
          rintro _ _ _ ⟨rfl, rfl, rfl⟩
          rw [hX5 (d + 1), aPl_up0 _ _ _ _ (by decide)]
          refine g_iload_n (pc := 137) G dX0_yataPlace_137 rfl ?_
          refine g_icmp_ge (pc := 138) G (by exact rg_pl M i _) (by (try clear hR); (try clear hDD); (try clear hsp); omega) 144 dX0_yataPlace_138 (by decide) (fun h138 => ?_) (fun h138 => ?_)
          · -- 138 t
            rw [if_neg (by (try clear hR); (try clear hDD); (try clear hsp); omega)] at hR hDD
            --go
            refine g_aload_n (pc := 144) G dX0_yataPlace_144 rfl ?_
            refine g_iload (pc := 145) G dX0_yataPlace_145 rfl ?_
            refine g_call (pc := 147) (n := 1) (As := [_]) G (kX0_placeOf hD i hi (_) (rg_left M _ _) (sjU M (29 + 5 * i) 5 (iI ((M (29 + 5 * i) 5).toInt + (d + 1)))) L) gX0_yataPlace_X0_placeOf (oCopy i hi) rfl rfl hdX0_placeOf rfl rfl ⟨Nat.le_of_ble_eq_true rfl, Nat.le_of_ble_eq_true rfl⟩ rfl rfl (Nat.le_of_ble_eq_true rfl) dX0_yataPlace_147 ?_
            rintro _ _ _ ⟨rfl, rfl, rfl⟩
            rw [hX5 (d + 1), aPl_up0 _ _ _ _ (by decide)]
            refine g_iload (pc := 150) G dX0_yataPlace_150 rfl ?_
            refine g_icmp_ge (pc := 152) G (by exact rg_pl M i _) (by (try clear hR); (try clear hDD); (try clear hsp); omega) 161 dX0_yataPlace_152 (by decide) (fun h152 => ?_) (fun h152 => ?_)
            · -- 152 t
              rw [if_neg (by (try clear hR); (try clear hDD); (try clear hsp); omega)] at hR hDD
              dsimp only at hR hDD
              --go
              refine g_iinc (pc := 161) (lv' := [_, _, _, _, _, _, _, _, _]) G dX0_yataPlace_161 (by decide) rfl rfl ?_
              refine g_goto (pc := 164) G 37 dX0_yataPlace_164 (by decide) ?_
              exact ih (q + 1) _ (d + 1) _ _ (by (try clear hR); (try clear hDD); (try clear hsp); omega) (by (try clear hR); (try clear hDD); (try clear hsp); omega) (by (try clear hR); (try clear hDD); (try clear hsp); omega) (by (try clear hR); (try clear hDD); (try clear hsp); omega) (by (try clear hR); (try clear hDD); (try clear hsp); omega) hR (sj_at hDD)
            · -- 152 f
              rw [if_pos h152] at hR hDD
              dsimp only at hR hDD
              --go
              refine g_iload (pc := 155) G dX0_yataPlace_155 rfl ?_
              refine g_iconst (pc := 157) G dX0_yataPlace_157 ?_
              refine g_iadd (pc := 158) G dX0_yataPlace_158 ?_
              refine g_istore (pc := 159) (lv' := [_, _, _, _, _, _, _, _, _]) G dX0_yataPlace_159 (by decide) rfl ?_
              refine g_iinc (pc := 161) (lv' := [_, _, _, _, _, _, _, _, _]) G dX0_yataPlace_161 (by decide) rfl rfl ?_
              refine g_goto (pc := 164) G 37 dX0_yataPlace_164 (by decide) ?_
              exact ih (q + 1) _ (d + 1) _ _ (by (try clear hR); (try clear hDD); (try clear hsp); omega) (by (try clear hR); (try clear hDD); (try clear hsp); omega) (by (try clear hR); (try clear hDD); (try clear hsp); omega) (by (try clear hR); (try clear hDD); (try clear hsp); omega) (by (try clear hR); (try clear hDD); (try clear hsp); omega) hR (sj_at hDD)
          · -- 138 f
            rw [if_pos h138] at hR hDD
            --go
            refine g_goto (pc := 141) G 167 dX0_yataPlace_141 (by decide) ?_
            dsimp only at hR hDD
            refine g_iload G dX0_yataPlace_167 rfl ?_
            refine g_iret G dX0_yataPlace_169 ?_
            refine ⟨rfl, ?_, ?_⟩
            · first | (rw [← hDD]; done) | (rw [← hDD, Int.add_zero]; done)
            · rw [← hR]
        · -- 76 f
          rw [if_pos h76] at hR hDD
          --go
          refine g_aload_n (pc := 79) G dX0_yataPlace_79 rfl ?_
          refine g_getR (pc := 80) G hinX0 (oCopy i hi) rfl 0 (by decide) f9 rfl rfl dX0_yataPlace_80 ?_
          refine g_iload (pc := 83) G dX0_yataPlace_83 rfl ?_
          refine g_call (pc := 85) (n := 1) (As := [_]) G (kX2_siteOf hD (tI i) (tI_lt i) (_) (rg_at M i _) (sjU M (29 + 5 * i) 5 (iI ((M (29 + 5 * i) 5).toInt + (d + 1)))) L) gX0_yataPlace_X2_siteOf (oText _ (tI_lt i)) rfl rfl hdX2_siteOf rfl rfl ⟨Nat.le_of_ble_eq_true rfl, Nat.le_of_ble_eq_true rfl⟩ rfl rfl (Nat.le_of_ble_eq_true rfl) dX0_yataPlace_85 ?_
          rintro _ _ _ ⟨rfl, rfl, rfl⟩
          rw [hT5 (d + 1)]
          refine g_aload_n (pc := 88) G dX0_yataPlace_88 rfl ?_
          refine g_getR (pc := 89) G hinX0 (oCopy i hi) rfl 0 (by decide) f9 rfl rfl dX0_yataPlace_89 ?_
          refine g_iload_n (pc := 92) G dX0_yataPlace_92 rfl ?_
          refine g_call (pc := 93) (n := 1) (As := [_]) G (kX2_siteOf hD (tI i) (tI_lt i) (c) (hc) (sjU M (29 + 5 * i) 5 (iI ((M (29 + 5 * i) 5).toInt + (d + 1)))) L) gX0_yataPlace_X2_siteOf (oText _ (tI_lt i)) rfl rfl hdX2_siteOf rfl rfl ⟨Nat.le_of_ble_eq_true rfl, Nat.le_of_ble_eq_true rfl⟩ rfl rfl (Nat.le_of_ble_eq_true rfl) dX0_yataPlace_93 ?_
          rintro _ _ _ ⟨rfl, rfl, rfl⟩
          rw [hT5 (d + 1)]
          refine g_icmp_ge (pc := 96) G (by exact rg_site M _ _) (by exact rg_site M _ _) 108 dX0_yataPlace_96 (by decide) (fun h96 => ?_) (fun h96 => ?_)
          · -- 96 t
            rw [if_neg (by (try clear hR); (try clear hDD); (try clear hsp); omega)] at hR hDD
            --go
            refine g_aload_n (pc := 108) G dX0_yataPlace_108 rfl ?_
            refine g_getR (pc := 109) G hinX0 (oCopy i hi) rfl 0 (by decide) f9 rfl rfl dX0_yataPlace_109 ?_
            refine g_iload (pc := 112) G dX0_yataPlace_112 rfl ?_
            refine g_call (pc := 114) (n := 1) (As := [_]) G (kX2_rightOf hD (tI i) (tI_lt i) (_) (rg_at M i _) (sjU M (29 + 5 * i) 5 (iI ((M (29 + 5 * i) 5).toInt + (d + 1)))) L) gX0_yataPlace_X2_rightOf (oText _ (tI_lt i)) rfl rfl hdX2_rightOf rfl rfl ⟨Nat.le_of_ble_eq_true rfl, Nat.le_of_ble_eq_true rfl⟩ rfl rfl (Nat.le_of_ble_eq_true rfl) dX0_yataPlace_114 ?_
            rintro _ _ _ ⟨rfl, rfl, rfl⟩
            rw [hT5 (d + 1)]
            refine g_aload_n (pc := 117) G dX0_yataPlace_117 rfl ?_
            refine g_getR (pc := 118) G hinX0 (oCopy i hi) rfl 0 (by decide) f9 rfl rfl dX0_yataPlace_118 ?_
            refine g_iload_n (pc := 121) G dX0_yataPlace_121 rfl ?_
            refine g_call (pc := 122) (n := 1) (As := [_]) G (kX2_rightOf hD (tI i) (tI_lt i) (c) (hc) (sjU M (29 + 5 * i) 5 (iI ((M (29 + 5 * i) 5).toInt + (d + 1)))) L) gX0_yataPlace_X2_rightOf (oText _ (tI_lt i)) rfl rfl hdX2_rightOf rfl rfl ⟨Nat.le_of_ble_eq_true rfl, Nat.le_of_ble_eq_true rfl⟩ rfl rfl (Nat.le_of_ble_eq_true rfl) dX0_yataPlace_122 ?_
            rintro _ _ _ ⟨rfl, rfl, rfl⟩
            rw [hT5 (d + 1)]
            refine g_icmp_ne (pc := 125) G (by exact rg_right M _ _) (by exact rg_right M _ _) 161 dX0_yataPlace_125 (by decide) (fun h125 => ?_) (fun h125 => ?_)
            · -- 125 t
              rw [if_neg h125] at hR hDD
              dsimp only at hR hDD
              --go
              refine g_iinc (pc := 161) (lv' := [_, _, _, _, _, _, _, _, _]) G dX0_yataPlace_161 (by decide) rfl rfl ?_
              refine g_goto (pc := 164) G 37 dX0_yataPlace_164 (by decide) ?_
              exact ih (q + 1) _ (d + 1) _ _ (by (try clear hR); (try clear hDD); (try clear hsp); omega) (by (try clear hR); (try clear hDD); (try clear hsp); omega) (by (try clear hR); (try clear hDD); (try clear hsp); omega) (by (try clear hR); (try clear hDD); (try clear hsp); omega) (by (try clear hR); (try clear hDD); (try clear hsp); omega) hR (sj_at hDD)
            · -- 125 f
              rw [if_pos h125] at hR hDD
              --go
              refine g_goto (pc := 128) G 167 dX0_yataPlace_128 (by decide) ?_
              dsimp only at hR hDD
              refine g_iload G dX0_yataPlace_167 rfl ?_
              refine g_iret G dX0_yataPlace_169 ?_
              refine ⟨rfl, ?_, ?_⟩
              · first | (rw [← hDD]; done) | (rw [← hDD, Int.add_zero]; done)
              · rw [← hR]
          · -- 96 f
            rw [if_pos h96] at hR hDD
            dsimp only at hR hDD
            --go
            refine g_iload (pc := 99) G dX0_yataPlace_99 rfl ?_
            refine g_iconst (pc := 101) G dX0_yataPlace_101 ?_
            refine g_iadd (pc := 102) G dX0_yataPlace_102 ?_
            refine g_istore (pc := 103) (lv' := [_, _, _, _, _, _, _, _, _]) G dX0_yataPlace_103 (by decide) rfl ?_
            refine g_goto (pc := 105) G 161 dX0_yataPlace_105 (by decide) ?_
            refine g_iinc (pc := 161) (lv' := [_, _, _, _, _, _, _, _, _]) G dX0_yataPlace_161 (by decide) rfl rfl ?_
            refine g_goto (pc := 164) G 37 dX0_yataPlace_164 (by decide) ?_
            exact ih (q + 1) _ (d + 1) _ _ (by (try clear hR); (try clear hDD); (try clear hsp); omega) (by (try clear hR); (try clear hDD); (try clear hsp); omega) (by (try clear hR); (try clear hDD); (try clear hsp); omega) (by (try clear hR); (try clear hDD); (try clear hsp); omega) (by (try clear hR); (try clear hDD); (try clear hsp); omega) hR (sj_at hDD)
  refine g_aload_n (pc := 0) G dX0_yataPlace_0 rfl ?_
  refine g_getR (pc := 1) G hinX0 (oCopy i hi) rfl 0 (by decide) f9 rfl rfl dX0_yataPlace_1 ?_
  refine g_iload_n (pc := 4) G dX0_yataPlace_4 rfl ?_
  refine g_call (pc := 5) (n := 1) (As := [_]) G (kX2_leftOf hD (tI i) (tI_lt i) (c) (hc) M L) gX0_yataPlace_X2_leftOf (oText _ (tI_lt i)) rfl rfl hdX2_leftOf rfl rfl ⟨Nat.le_of_ble_eq_true rfl, Nat.le_of_ble_eq_true rfl⟩ rfl rfl (Nat.le_of_ble_eq_true rfl) dX0_yataPlace_5 ?_
  rintro _ _ _ ⟨rfl, rfl, rfl⟩
  refine g_istore_n (pc := 8) (lv' := [_, _, _, _, _, _, _, _, _]) G dX0_yataPlace_8 (by decide) rfl ?_
  refine g_aload_n (pc := 9) G dX0_yataPlace_9 rfl ?_
  refine g_iload_n (pc := 10) G dX0_yataPlace_10 rfl ?_
  refine g_call (pc := 11) (n := 1) (As := [_]) G (kX0_placeOf hD i hi (_) (rg_left _ _ _) M L) gX0_yataPlace_X0_placeOf (oCopy i hi) rfl rfl hdX0_placeOf rfl rfl ⟨Nat.le_of_ble_eq_true rfl, Nat.le_of_ble_eq_true rfl⟩ rfl rfl (Nat.le_of_ble_eq_true rfl) dX0_yataPlace_11 ?_
  rintro _ _ _ ⟨rfl, rfl, rfl⟩
  refine g_iconst (pc := 14) G dX0_yataPlace_14 ?_
  refine g_iadd (pc := 15) G dX0_yataPlace_15 ?_
  refine g_istore_n (pc := 16) (lv' := [_, _, _, _, _, _, _, _, _]) G dX0_yataPlace_16 (by decide) rfl ?_
  refine g_aload_n (pc := 17) G dX0_yataPlace_17 rfl ?_
  refine g_aload_n (pc := 18) G dX0_yataPlace_18 rfl ?_
  refine g_getR (pc := 19) G hinX0 (oCopy i hi) rfl 0 (by decide) f9 rfl rfl dX0_yataPlace_19 ?_
  refine g_iload_n (pc := 22) G dX0_yataPlace_22 rfl ?_
  refine g_call (pc := 23) (n := 1) (As := [_]) G (kX2_rightOf hD (tI i) (tI_lt i) (c) (hc) M L) gX0_yataPlace_X2_rightOf (oText _ (tI_lt i)) rfl rfl hdX2_rightOf rfl rfl ⟨Nat.le_of_ble_eq_true rfl, Nat.le_of_ble_eq_true rfl⟩ rfl rfl (Nat.le_of_ble_eq_true rfl) dX0_yataPlace_23 ?_
  rintro _ _ _ ⟨rfl, rfl, rfl⟩
  refine g_call (pc := 26) (n := 1) (As := [_]) G (kX0_placeOf hD i hi (_) (rg_right _ _ _) M L) gX0_yataPlace_X0_placeOf (oCopy i hi) rfl rfl hdX0_placeOf rfl rfl ⟨Nat.le_of_ble_eq_true rfl, Nat.le_of_ble_eq_true rfl⟩ rfl rfl (Nat.le_of_ble_eq_true rfl) dX0_yataPlace_26 ?_
  rintro _ _ _ ⟨rfl, rfl, rfl⟩
  refine g_istore (pc := 29) (lv' := [_, _, _, _, _, _, _, _, _]) G dX0_yataPlace_29 (by decide) rfl ?_
  refine g_iload_n (pc := 31) G dX0_yataPlace_31 rfl ?_
  refine g_istore (pc := 32) (lv' := [_, _, _, _, _, _, _, _, _]) G dX0_yataPlace_32 (by decide) rfl ?_
  refine g_iload_n (pc := 34) G dX0_yataPlace_34 rfl ?_
  refine g_istore (pc := 35) (lv' := [_, _, _, _, _, _, _, _, _]) G dX0_yataPlace_35 (by decide) rfl ?_
  have K := loop _ (aPl (vX M i) (aLeft (vT M (tI i)) c) + 1) (aPl (vX M i) (aLeft (vT M (tI i)) c) + 1) 0 none none (by omega) (by omega) (by omega) (by omega) (Nat.lt_succ_self _) (by rw [aYata]) (by rw [aYata, Int.zero_add])
  rw [hM0] at K
  exact K
