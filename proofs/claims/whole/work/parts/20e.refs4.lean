/-- nothing but PASSED, OPEN and what was LOOKED at -/
def yF (M M1 : sjM) : Prop := (∀ k, k ≠ 0 → k ≠ 21 → k ≠ 22 → M1 k = M k) ∧ ∀ z, ¬ z = 1 → M1 0 z = M 0 z
theorem yF_X {X : aS} {M M1 : sjM} {i : Int} (h : yF M M1) (hX : rX X M i) : rX X M1 i := rX_of hX (fun k h1 h2 => h.1 k (by omega) (by omega) (by omega))
theorem yF_T {T : aS} {M M1 : sjM} {t : Int} (h : yF M M1) (hT : rT T M t) : rT T M1 t := rT_of hT (fun k h1 h2 => h.1 k (by omega) (by omega) (by omega))
theorem yF_lk {M M1 M2 : sjM} {x : Int32} (h : yF M M1) (h2 : M2 = sjU M1 0 1 x) : yF M M2 := ⟨fun k h0 h1 h3 => by rw [h2, sjU_o h0]; exact h.1 k h0 h1 h3, fun z hz => by rw [h2, sjU_s, if_neg hz]; exact h.2 z hz⟩
theorem yF_po {M M1 M2 : sjM} {x : Int32} {k0 : Nat} {z : Int} (h : yF M M1) (h2 : M2 = sjU M1 k0 z x) (h0 : k0 = 21 ∨ k0 = 22) : yF M M2 := ⟨fun k a b c => by rw [h2, sjU_o (by omega)]; exact h.1 k a b c, fun z hz => by rw [h2, sjU_o (by omega)]; exact h.2 z hz⟩
theorem yF_no {M M1 M2 : sjM} (h : yF M M1) (h2 : ∀ k, k ≠ 22 → M2 k = M1 k) : yF M M2 := ⟨fun k a b c => by rw [h2 k c]; exact h.1 k a b c, fun z hz => by rw [h2 0 (by omega)]; exact h.2 z hz⟩
theorem yF_on {M M1 : sjM} (h : yF M M1) (i : Int) : onR M M1 i := ⟨fun k h1 h2 => h.1 k (by omega) (by omega) (by omega), ⟨h.1 18 (by omega) (by omega) (by omega), h.1 19 (by omega) (by omega) (by omega), h.1 23 (by omega) (by omega) (by omega), h.1 24 (by omega) (by omega) (by omega), h.2 0 (by omega), h.2 3 (by omega)⟩, fun z _ => ⟨by rw [h.1 13 (by omega) (by omega) (by omega)], by rw [h.1 15 (by omega) (by omega) (by omega)], by rw [h.1 16 (by omega) (by omega) (by omega)]⟩, fun z _ => by rw [h.1 14 (by omega) (by omega) (by omega)], fun z _ => by rw [h.1 17 (by omega) (by omega) (by omega)]⟩
def ysP (X : aS) (R : Int → Int32) (a p : Int) : Prop := ∀ o, 0 ≤ o → o < 60 → R o = iI (if a ≤ X 2 o ∧ X 2 o < p then 1 else 0)
theorem ysP_s {T X : aS} (hcp : cpOK T X) {R R2 : Int → Int32} {a p : Int} (h : ysP X R a p) (h0 : 0 ≤ p) (h1 : p < X 0 0) (ha : a ≤ p) (h2 : ∀ z, R2 z = if z = X 1 p then iI 1 else R z) : ysP X R2 a (p + 1) := by
  intro o o0 o1
  obtain ⟨c1, c2⟩ := hcp.2.2.1 p h0 h1
  rw [h2]
  by_cases ho : o = X 1 p
  · rw [if_pos ho, ho, c2, if_pos (by omega)]
  · rw [if_neg ho, h o o0 o1]
    have hne : ¬ X 2 o = p := by
      intro q
      rcases hcp.2.2.2.1 o o0 o1 with w | w
      · omega
      · rw [q] at w; exact ho w.2.2.symm
    by_cases hc : a ≤ X 2 o ∧ X 2 o < p
    · rw [if_pos hc, if_pos (by omega)]
    · rw [if_neg hc, if_neg (by omega)]
theorem ysP_0 {X : aS} {R : Int → Int32} {p : Int} (h : ∀ o, 0 ≤ o → o < 60 → R o = iI 0) : ysP X R p p := fun o o0 o1 => by rw [h o o0 o1, if_neg (by omega)]
theorem site_rg {T : aS} (h : gT T) {c : Int} (hc : aHasC T c) : 0 ≤ aSite T c ∧ aSite T c ≤ 4 := by
  have := h.2.2.2.1 c hc
  unfold aSite
  rw [if_pos hc]
  omega
set_option maxHeartbeats 4000000 in
set_option maxRecDepth 100000 in
theorem kX4_yata {l : Launch} {D : va_G} {cI cZ cJ cT cC : ClassId} {ad : Nat → Nat} {A : Nat → Prop} (hD : ∀ g : Nat → va_E, va_D A (sjW 26 ad g)) (i : Int) (hi0 : 0 ≤ i) (hi1 : i ≤ 10) (c : Int) (M : sjM) (L : sjL) (T X : aS) (ρ : Int → Int) (hX : rX X M i) (hI : cpOK T X ∧ srtL (fun a b => ρ a < ρ b) X) (hT : rT T M 1) (hG : gT T) (hy : yOK T ρ) (hfree : gFree T X) (hc : aHasC T c) (hn : X 2 c = -2) (h60 : X 0 0 < 60) (hil : inX X (aLeft T c)) (hir : inX X (aRight T c)) : Met l yX4_yata wsX4_yata { frames := 1, cells := 0, slots := 0, locals := 24 } (sjA D cI cZ cJ cT cC 26 ad (kR cI cZ cJ ad) [.ref (ad 0), .int (iI i), .int (iI c)] M L) (sjZ D 26 ad (kR cI cZ cJ ad) A (fun v M' L' => v = none ∧ L = L' ∧ onR M M' i ∧ rX (aIns X c (aYata T X c).1) M' i ∧ M' 0 1 = iI ((M 0 1).toInt + (aYata T X c).2) ∧ M' 0 2 = M 0 2)) 0 0 A := by
  refine g_met (cc := cX4_yata) (maxL := 10) (ret := none) (lv := [_, _, _, _, _, _, _, _, _, _]) (by decide) rfl hD kR_loc (List.forall_mem_cons.mpr ⟨rfl, List.forall_mem_cons.mpr ⟨rfl, List.forall_mem_cons.mpr ⟨rfl, fun _ h => absurd h List.not_mem_nil⟩⟩⟩) (Nat.le_of_ble_eq_true rfl) rfl ?_
  intro J G
  have f13 : Cond.fieldLink RX4 13 "SharedPageModel" "siteOf" "[I" ∈ wsX4_yata := by decide +kernel
  have f22 : Cond.fieldLink RX4 22 "SharedPageModel" "leftOf" "[I" ∈ wsX4_yata := by decide +kernel
  have f25 : Cond.fieldLink RX4 25 "SharedPageModel" "rightOf" "[I" ∈ wsX4_yata := by decide +kernel
  have f47 : Cond.fieldLink RX4 47 "SharedPageModel" "row" "[I" ∈ wsX4_yata := by decide +kernel
  have f71 : Cond.fieldLink RX4 71 "SharedPageModel" "passed" "[Z" ∈ wsX4_yata := by decide +kernel
  have f74 : Cond.fieldLink RX4 74 "SharedPageModel" "open" "[Z" ∈ wsX4_yata := by decide +kernel
  have f105 : Cond.fieldLink RX4 105 "SharedPageModel" "looked" "I" ∈ wsX4_yata := by decide +kernel
  have hinX4 : ∀ w ∈ u_ws RX4 TX4 29, w ∈ wsX4_yata := fun w h => List.mem_cons_of_mem _ (List.mem_append_right _ h)
  have hlen0 := hI.1.1
  obtain ⟨b1, b2, b3, b4, b5, b6⟩ := yata_place hy hG.1.2.2.2.2.1 hI.1 hI.2 hc hn hil hir
  have hplL := pl_b hI.1 hil
  have hplR := pl_b hI.1 hir
  have fin : ∀ (at0 : Int) (M1 : sjM) (x6 x7 x8 x9 : Option Value), yF M M1 → at0 + 1 = (aYata T X c).1 → M1 0 1 = iI ((M 0 1).toInt + (aYata T X c).2) → J 245 M1 L [some (.ref (ad 0)), some (.int (iI i)), some (.int (iI c)), some (.int (iI (aLeft T c))), some (.int (iI at0)), some (.int (iI (aPl X (aRight T c)))), x6, x7, x8, x9] [] := by
    intro at0 M1 x6 x7 x8 x9 hF1 hR1 hd1
    refine g_aload_n (pc := 245) G dX4_yata_245 rfl ?_
    refine g_iload_n (pc := 246) G dX4_yata_246 rfl ?_
    refine g_iload_n (pc := 247) G dX4_yata_247 rfl ?_
    refine g_iload (pc := 248) G dX4_yata_248 rfl ?_
    refine g_iconst (pc := 250) G dX4_yata_250 ?_
    refine g_iadd (pc := 251) G dX4_yata_251 ?_
    refine g_call (pc := 252) (n := 3) (As := [_, _, _]) G (kX4_lay hD i hi0 hi1 c (at0 + 1) hc.1 hc.2.2 (by omega) M1 L T X _ (yF_X hF1 hX) hI (by omega) h60 hn) gX4_yata_X4_lay oModel rfl rfl hdX4_lay rfl rfl ⟨Nat.le_of_ble_eq_true rfl, Nat.le_of_ble_eq_true rfl⟩ rfl rfl (Nat.le_of_ble_eq_true rfl) dX4_yata_252 ?_
    rintro _ M2 _ ⟨rfl, rfl, hon, hko, hx2⟩
    refine g_vret (pc := 255) G dX4_yata_255 ?_
    refine ⟨rfl, rfl, onR_tr (yF_on hF1 i) hon, ?_, ?_, ?_⟩
    · rw [← hR1]; exact hx2
    · rw [hko 0 (by omega) (by omega) (by omega), hd1]
    · rw [hko 0 (by omega) (by omega) (by omega)]; exact hF1.2 2 (by omega)
  have stop0 : ∀ (at0 p : Int) (M1 : sjM) (x8 x9 : Option Value), yF M M1 → at0 + 1 = (aYata T X c).1 → M1 0 1 = iI ((M 0 1).toInt + (aYata T X c).2) → J 68 M1 L [some (.ref (ad 0)), some (.int (iI i)), some (.int (iI c)), some (.int (iI (aLeft T c))), some (.int (iI at0)), some (.int (iI (aPl X (aRight T c)))), some (.int (iI 0)), some (.int (iI p)), x8, x9] [] := by
    intro at0 p M1 x8 x9 hF1 hR1 hd1
    refine g_iload (pc := 68) G dX4_yata_68 rfl ?_
    refine g_if_eq (pc := 70) G (by omega) 245 dX4_yata_70 (by decide) (fun _ => ?_) (fun h => absurd h (by decide))
    exact fin at0 M1 _ _ _ _ hF1 hR1 hd1
  have loop : ∀ (f : Nat) (p at0 d : Int) (M1 : sjM) (x8 x9 : Option Value), (aPl X (aRight T c) - p).toNat < f → (aPl X (aLeft T c) + 1) ≤ at0 + 1 → at0 + 1 ≤ p → p ≤ aPl X (aRight T c) → yF M M1 → ysP X (M1 21) (aPl X (aLeft T c) + 1) p → ysP X (M1 22) (at0 + 1) p → M1 0 1 = iI ((M 0 1).toInt + d) → (aYataF T X c (aPl X (aLeft T c) + 1) (aPl X (aRight T c) - p).toNat p (at0 + 1)).1 = (aYata T X c).1 → d + (aYataF T X c (aPl X (aLeft T c) + 1) (aPl X (aRight T c) - p).toNat p (at0 + 1)).2 = (aYata T X c).2 → J 68 M1 L [some (.ref (ad 0)), some (.int (iI i)), some (.int (iI c)), some (.int (iI (aLeft T c))), some (.int (iI at0)), some (.int (iI (aPl X (aRight T c)))), some (.int (iI 1)), some (.int (iI p)), x8, x9] [] := by
    intro f
    induction f with
    | zero => intro p at0 d M1 x8 x9 h; omega
    | succ f ih =>
      intro p at0 d M1 x8 x9 hf ha0 ha1 hp1 hF1 hP1 hQ1 hd1 hR1 hR2
      refine g_iload (pc := 68) G dX4_yata_68 rfl ?_
      refine g_if_eq (pc := 70) G (by omega) 245 dX4_yata_70 (by decide) (fun h => absurd h (by decide)) (fun _ => ?_)
      refine g_iload (pc := 73) G dX4_yata_73 rfl ?_
      refine g_iload (pc := 75) G dX4_yata_75 rfl ?_
      refine g_icmp_ge (pc := 77) G (by omega) (by omega) 245 dX4_yata_77 (by decide) (fun h77 => ?_) (fun h77 => ?_)
      · -- 77 t
        rw [show (aPl X (aRight T c) - p).toNat = 0 by omega, aYataF] at hR1 hR2
        --go
        exact fin at0 M1 _ _ _ _ hF1 (by rw [← hR1]) (by rw [hd1, ← hR2]; congr 1; dsimp only; omega)
      · -- 77 f
        rw [show (aPl X (aRight T c) - p).toNat = (aPl X (aRight T c) - (p + 1)).toNat + 1 by omega, aYataF] at hR1 hR2
        have hpx := cp_at hI.1 (show 0 ≤ p by omega) (show p < X 0 0 by omega)
        have hat := at_in (X := X) (show 0 ≤ p by omega) (show p < X 0 0 by omega) (by omega)
        rw [hat] at hpx hR1 hR2
        have hoc := hpx.1
        have hob0 := hoc.1
        have hob1 := hoc.2.2
        have hfr := (hfree p (by omega) (by omega)).1
        have hlo := hG.1.2.2.2.2.1 (X 1 p) hoc
        have hlc := hG.1.2.2.2.2.1 c hc
        --go
        refine g_aload_n (pc := 80) G dX4_yata_80 rfl ?_
        refine g_aload_n (pc := 81) G dX4_yata_81 rfl ?_
        refine g_getI (pc := 82) G hinX4 oModel rfl 19 (by decide) f105 rfl rfl dX4_yata_82 ?_
        refine g_top (ld (hd1)) ?_
        refine g_iconst (pc := 85) G dX4_yata_85 ?_
        refine g_iadd (pc := 86) G dX4_yata_86 ?_
        refine g_put (pc := 87) G tyX4 tyX4_ok nmX4 hinX4 oModel rfl 19 (by decide) pModel1 f105 rfl rfl rfl dX4_yata_87 ?_
        refine g_mem (fun M3 L3 hM3 hL3 => ?_)
        obtain rfl : L = L3 := hL3.symm
        have hF3 := yF_lk hF1 hM3
        have hd3 : M3 0 1 = iI ((M 0 1).toInt + (d + 1)) := by rw [hM3, sjU_s, if_pos rfl, ← Int.add_assoc]
        have e21 : M3 21 = M1 21 := by rw [hM3, sjU_o (by omega)]
        have e22 : M3 22 = M1 22 := by rw [hM3, sjU_o (by omega)]
        clear hM3
        refine g_aload_n (pc := 90) G dX4_yata_90 rfl ?_
        refine g_getR (pc := 91) G hinX4 oModel rfl 13 (by decide) f47 rfl rfl dX4_yata_91 ?_
        refine g_bipush (pc := 94) G dX4_yata_94 rfl ?_
        refine g_iload_n (pc := 96) G dX4_yata_96 rfl ?_
        refine g_imul (pc := 97) G dX4_yata_97 ?_
        refine g_iload (pc := 98) G dX4_yata_98 rfl ?_
        refine g_iadd (pc := 100) G dX4_yata_100 ?_
        refine g_iald (pc := 101) G rRow (by have := hc.1; have := hc.2.2; omega) dX4_yata_101 ?_
        refine g_top (ld ((yF_X hF3 hX).2.1 p (by omega) (by omega))) ?_
        refine g_istore (pc := 102) (lv' := [_, _, _, _, _, _, _, _, _, _]) G dX4_yata_102 (by decide) rfl ?_
        refine g_aload_n (pc := 104) G dX4_yata_104 rfl ?_
        refine g_getR (pc := 105) G hinX4 oModel rfl 24 (by decide) f71 rfl rfl dX4_yata_105 ?_
        refine g_iload (pc := 108) G dX4_yata_108 rfl ?_
        refine g_iconst (pc := 110) G dX4_yata_110 ?_
        refine g_zast (pc := 111) G rPassed (by have := hc.1; have := hc.2.2; omega) rfl dX4_yata_111 ?_
        refine g_mem (fun M4 L4 hM4 hL4 => ?_)
        obtain rfl : L = L4 := hL4.symm
        have hF4 := yF_po hF3 hM4 (Or.inl rfl)
        have hP4 : ysP X (M4 21) (aPl X (aLeft T c) + 1) (p + 1) := ysP_s hI.1 hP1 (by omega) (by omega) (by omega) (fun z => by rw [hM4, sjU_s, e21])
        have e224 : M4 22 = M1 22 := by rw [hM4, sjU_o (by omega), e22]
        have hd4 : M4 0 1 = iI ((M 0 1).toInt + (d + 1)) := by rw [hM4, sjU_o (by omega)]; exact hd3
        clear hM4
        refine g_aload_n (pc := 112) G dX4_yata_112 rfl ?_
        refine g_getR (pc := 113) G hinX4 oModel rfl 25 (by decide) f74 rfl rfl dX4_yata_113 ?_
        refine g_iload (pc := 116) G dX4_yata_116 rfl ?_
        refine g_iconst (pc := 118) G dX4_yata_118 ?_
        refine g_zast (pc := 119) G rOpen (by have := hc.1; have := hc.2.2; omega) rfl dX4_yata_119 ?_
        refine g_mem (fun M5 L5 hM5 hL5 => ?_)
        obtain rfl : L = L5 := hL5.symm
        have hF5 := yF_po hF4 hM5 (Or.inr rfl)
        have hQ5 : ysP X (M5 22) (at0 + 1) (p + 1) := ysP_s hI.1 hQ1 (by omega) (by omega) (by omega) (fun z => by rw [hM5, sjU_s, e224])
        have hP5 : ysP X (M5 21) (aPl X (aLeft T c) + 1) (p + 1) := by rw [hM5, sjU_o (by omega)]; exact hP4
        have hd5 : M5 0 1 = iI ((M 0 1).toInt + (d + 1)) := by rw [hM5, sjU_o (by omega)]; exact hd4
        clear hM5
        refine g_aload_n (pc := 120) G dX4_yata_120 rfl ?_
        refine g_getR (pc := 121) G hinX4 oModel rfl 5 (by decide) f22 rfl rfl dX4_yata_121 ?_
        refine g_bipush (pc := 124) G dX4_yata_124 rfl ?_
        refine g_iload (pc := 126) G dX4_yata_126 rfl ?_
        refine g_iadd (pc := 128) G dX4_yata_128 ?_
        refine g_iald (pc := 129) G rLeft (by have := hc.1; have := hc.2.2; omega) dX4_yata_129 ?_
        refine g_top (ld (rT1_left (yF_T hF5 hT) hoc)) ?_
        refine g_istore (pc := 130) (lv' := [_, _, _, _, _, _, _, _, _, _]) G dX4_yata_130 (by decide) rfl ?_
        refine g_iload (pc := 132) G dX4_yata_132 rfl ?_
        refine g_iload_n (pc := 134) G dX4_yata_134 rfl ?_
        refine g_icmp_ne (pc := 135) G (by omega) (by omega) 199 dX4_yata_135 (by decide) (fun h135 => ?_) (fun h135 => ?_)
        · -- 135 t
          rw [if_neg h135] at hR1 hR2
          have hplb := pl_b hI.1 hpx.2.2.2.1
          --go
          refine g_iload (pc := 199) G dX4_yata_199 rfl ?_
          refine g_iconst (pc := 201) G dX4_yata_201 ?_
          refine g_icmp_eq (pc := 202) G (by omega) (by omega) 236 dX4_yata_202 (by decide) (fun h202 => ?_) (fun h202 => ?_)
          · -- 202 t
            rw [if_pos (show aPl X (aLeft T (X 1 p)) < (aPl X (aLeft T c) + 1) by rw [h202, pl_beg]; omega)] at hR1 hR2
            dsimp only at hR1 hR2
            --go
            refine g_iconst (pc := 236) G dX4_yata_236 ?_
            refine g_istore (pc := 237) (lv' := [_, _, _, _, _, _, _, _, _, _]) G dX4_yata_237 (by decide) rfl ?_
            refine g_iinc (pc := 239) (lv' := [_, _, _, _, _, _, _, _, _, _]) G dX4_yata_239 (by decide) rfl rfl ?_
            refine g_goto (pc := 242) G 68 dX4_yata_242 (by decide) ?_
            exact stop0 at0 (p + 1) M5 _ _ hF5 hR1 (by rw [hd5, ← hR2])
          · -- 202 f
            have hple := pl_char (X := X) (c := aLeft T (X 1 p)) (by omega) (by omega)
            --go
            refine g_aload_n (pc := 205) G dX4_yata_205 rfl ?_
            refine g_getR (pc := 206) G hinX4 oModel rfl 24 (by decide) f71 rfl rfl dX4_yata_206 ?_
            refine g_iload (pc := 209) G dX4_yata_209 rfl ?_
            refine g_zald (pc := 211) G rPassed (by have := hc.1; have := hc.2.2; omega) dX4_yata_211 ?_
            refine g_top (ld (hP5 _ (by omega) (by omega))) ?_
            refine g_if_eq (pc := 212) G (by split <;> omega) 236 dX4_yata_212 (by decide) (fun h212 => ?_) (fun h212 => ?_)
            · -- 212 t
              rw [if_pos (show aPl X (aLeft T (X 1 p)) < (aPl X (aLeft T c) + 1) by rw [hple]; split at h212 <;> omega)] at hR1 hR2
              dsimp only at hR1 hR2
              --go
              refine g_iconst (pc := 236) G dX4_yata_236 ?_
              refine g_istore (pc := 237) (lv' := [_, _, _, _, _, _, _, _, _, _]) G dX4_yata_237 (by decide) rfl ?_
              refine g_iinc (pc := 239) (lv' := [_, _, _, _, _, _, _, _, _, _]) G dX4_yata_239 (by decide) rfl rfl ?_
              refine g_goto (pc := 242) G 68 dX4_yata_242 (by decide) ?_
              exact stop0 at0 (p + 1) M5 _ _ hF5 hR1 (by rw [hd5, ← hR2])
            · -- 212 f
              rw [if_neg (show ¬ aPl X (aLeft T (X 1 p)) < (aPl X (aLeft T c) + 1) by rw [hple]; split at h212 <;> omega)] at hR1 hR2
              --go
              refine g_aload_n (pc := 215) G dX4_yata_215 rfl ?_
              refine g_getR (pc := 216) G hinX4 oModel rfl 25 (by decide) f74 rfl rfl dX4_yata_216 ?_
              refine g_iload (pc := 219) G dX4_yata_219 rfl ?_
              refine g_zald (pc := 221) G rOpen (by have := hc.1; have := hc.2.2; omega) dX4_yata_221 ?_
              refine g_top (ld (hQ5 _ (by omega) (by omega))) ?_
              refine g_if_ne (pc := 222) G (by split <;> omega) 239 dX4_yata_222 (by decide) (fun h222 => ?_) (fun h222 => ?_)
              · -- 222 t
                rw [if_neg (show ¬ aPl X (aLeft T (X 1 p)) < at0 + 1 by rw [hple]; split at h222 <;> omega)] at hR1 hR2
                dsimp only at hR1 hR2
                --go
                refine g_iinc (pc := 239) (lv' := [_, _, _, _, _, _, _, _, _, _]) G dX4_yata_239 (by decide) rfl rfl ?_
                refine g_goto (pc := 242) G 68 dX4_yata_242 (by decide) ?_
                exact ih (p + 1) at0 (d + 1) M5 _ _ (by omega) (by omega) (by omega) (by omega) hF5 hP5 hQ5 hd5 hR1 (by omega)
              · -- 222 f
                rw [if_pos (show aPl X (aLeft T (X 1 p)) < at0 + 1 by rw [hple]; split at h222 <;> omega)] at hR1 hR2
                dsimp only at hR1 hR2
                --go
                refine g_iload (pc := 225) G dX4_yata_225 rfl ?_
                refine g_istore (pc := 227) (lv' := [_, _, _, _, _, _, _, _, _, _]) G dX4_yata_227 (by decide) rfl ?_
                refine g_aload_n (pc := 229) G dX4_yata_229 rfl ?_
                refine g_call (pc := 230) (n := 0) (As := []) G (kX4_none hD M5 L) gX4_yata_X4_none oModel rfl rfl hdX4_none rfl rfl ⟨Nat.le_of_ble_eq_true rfl, Nat.le_of_ble_eq_true rfl⟩ rfl rfl (Nat.le_of_ble_eq_true rfl) dX4_yata_230 ?_
                rintro _ M6 _ ⟨rfl, rfl, ho6, h226⟩
                have hF6 := yF_no hF5 ho6
                have hP6 : ysP X (M6 21) (aPl X (aLeft T c) + 1) (p + 1) := by rw [ho6 21 (by omega)]; exact hP5
                have hQ6 : ysP X (M6 22) (p + 1) (p + 1) := ysP_0 (fun o o0 o1 => by rw [h226]; show (if 0 ≤ o ∧ o < 60 then iI 0 else M5 22 o) = iI 0; rw [if_pos ⟨o0, o1⟩])
                have hd6 : M6 0 1 = iI ((M 0 1).toInt + (d + 1)) := by rw [ho6 0 (by omega)]; exact hd5
                refine g_goto (pc := 233) G 239 dX4_yata_233 (by decide) ?_
                refine g_iinc (pc := 239) (lv' := [_, _, _, _, _, _, _, _, _, _]) G dX4_yata_239 (by decide) rfl rfl ?_
                refine g_goto (pc := 242) G 68 dX4_yata_242 (by decide) ?_
                exact ih (p + 1) p (d + 1) M6 _ _ (by omega) (by omega) (by omega) (by omega) hF6 hP6 hQ6 hd6 hR1 (by omega)
        · -- 135 f
          rw [if_pos h135] at hR1 hR2
          --go
          refine g_aload_n (pc := 138) G dX4_yata_138 rfl ?_
          refine g_getR (pc := 139) G hinX4 oModel rfl 2 (by decide) f13 rfl rfl dX4_yata_139 ?_
          refine g_bipush (pc := 142) G dX4_yata_142 rfl ?_
          refine g_iload (pc := 144) G dX4_yata_144 rfl ?_
          refine g_iadd (pc := 146) G dX4_yata_146 ?_
          refine g_iald (pc := 147) G rSite (by have := hc.1; have := hc.2.2; omega) dX4_yata_147 ?_
          refine g_top (ld (rT1_site (yF_T hF5 hT) hoc)) ?_
          refine g_aload_n (pc := 148) G dX4_yata_148 rfl ?_
          refine g_getR (pc := 149) G hinX4 oModel rfl 2 (by decide) f13 rfl rfl dX4_yata_149 ?_
          refine g_bipush (pc := 152) G dX4_yata_152 rfl ?_
          refine g_iload_n (pc := 154) G dX4_yata_154 rfl ?_
          refine g_iadd (pc := 155) G dX4_yata_155 ?_
          refine g_iald (pc := 156) G rSite (by have := hc.1; have := hc.2.2; omega) dX4_yata_156 ?_
          refine g_top (ld (rT1_site (yF_T hF5 hT) hc)) ?_
          refine g_icmp_ge (pc := 157) G (by have := site_rg hG hoc; omega) (by have := site_rg hG hc; omega) 171 dX4_yata_157 (by decide) (fun h157 => ?_) (fun h157 => ?_)
          · -- 157 t
            rw [if_neg (by omega)] at hR1 hR2
            --go
            refine g_aload_n (pc := 171) G dX4_yata_171 rfl ?_
            refine g_getR (pc := 172) G hinX4 oModel rfl 6 (by decide) f25 rfl rfl dX4_yata_172 ?_
            refine g_bipush (pc := 175) G dX4_yata_175 rfl ?_
            refine g_iload (pc := 177) G dX4_yata_177 rfl ?_
            refine g_iadd (pc := 179) G dX4_yata_179 ?_
            refine g_iald (pc := 180) G rRight (by have := hc.1; have := hc.2.2; omega) dX4_yata_180 ?_
            refine g_top (ld (rT1_right (yF_T hF5 hT) hoc)) ?_
            refine g_aload_n (pc := 181) G dX4_yata_181 rfl ?_
            refine g_getR (pc := 182) G hinX4 oModel rfl 6 (by decide) f25 rfl rfl dX4_yata_182 ?_
            refine g_bipush (pc := 185) G dX4_yata_185 rfl ?_
            refine g_iload_n (pc := 187) G dX4_yata_187 rfl ?_
            refine g_iadd (pc := 188) G dX4_yata_188 ?_
            refine g_iald (pc := 189) G rRight (by have := hc.1; have := hc.2.2; omega) dX4_yata_189 ?_
            refine g_top (ld (rT1_right (yF_T hF5 hT) hc)) ?_
            refine g_icmp_ne (pc := 190) G (by omega) (by omega) 239 dX4_yata_190 (by decide) (fun h190 => ?_) (fun h190 => ?_)
            · -- 190 t
              rw [if_neg h190] at hR1 hR2
              dsimp only at hR1 hR2
              --go
              refine g_iinc (pc := 239) (lv' := [_, _, _, _, _, _, _, _, _, _]) G dX4_yata_239 (by decide) rfl rfl ?_
              refine g_goto (pc := 242) G 68 dX4_yata_242 (by decide) ?_
              exact ih (p + 1) at0 (d + 1) M5 _ _ (by omega) (by omega) (by omega) (by omega) hF5 hP5 hQ5 hd5 hR1 (by omega)
            · -- 190 f
              rw [if_pos h190] at hR1 hR2
              dsimp only at hR1 hR2
              --go
              refine g_iconst (pc := 193) G dX4_yata_193 ?_
              refine g_istore (pc := 194) (lv' := [_, _, _, _, _, _, _, _, _, _]) G dX4_yata_194 (by decide) rfl ?_
              refine g_goto (pc := 196) G 239 dX4_yata_196 (by decide) ?_
              refine g_iinc (pc := 239) (lv' := [_, _, _, _, _, _, _, _, _, _]) G dX4_yata_239 (by decide) rfl rfl ?_
              refine g_goto (pc := 242) G 68 dX4_yata_242 (by decide) ?_
              exact stop0 at0 (p + 1) M5 _ _ hF5 hR1 (by rw [hd5, ← hR2])
          · -- 157 f
            rw [if_pos (by omega)] at hR1 hR2
            dsimp only at hR1 hR2
            --go
            refine g_iload (pc := 160) G dX4_yata_160 rfl ?_
            refine g_istore (pc := 162) (lv' := [_, _, _, _, _, _, _, _, _, _]) G dX4_yata_162 (by decide) rfl ?_
            refine g_aload_n (pc := 164) G dX4_yata_164 rfl ?_
            refine g_call (pc := 165) (n := 0) (As := []) G (kX4_none hD M5 L) gX4_yata_X4_none oModel rfl rfl hdX4_none rfl rfl ⟨Nat.le_of_ble_eq_true rfl, Nat.le_of_ble_eq_true rfl⟩ rfl rfl (Nat.le_of_ble_eq_true rfl) dX4_yata_165 ?_
            rintro _ M6 _ ⟨rfl, rfl, ho6, h226⟩
            have hF6 := yF_no hF5 ho6
            have hP6 : ysP X (M6 21) (aPl X (aLeft T c) + 1) (p + 1) := by rw [ho6 21 (by omega)]; exact hP5
            have hQ6 : ysP X (M6 22) (p + 1) (p + 1) := ysP_0 (fun o o0 o1 => by rw [h226]; show (if 0 ≤ o ∧ o < 60 then iI 0 else M5 22 o) = iI 0; rw [if_pos ⟨o0, o1⟩])
            have hd6 : M6 0 1 = iI ((M 0 1).toInt + (d + 1)) := by rw [ho6 0 (by omega)]; exact hd5
            refine g_goto (pc := 168) G 239 dX4_yata_168 (by decide) ?_
            refine g_iinc (pc := 239) (lv' := [_, _, _, _, _, _, _, _, _, _]) G dX4_yata_239 (by decide) rfl rfl ?_
            refine g_goto (pc := 242) G 68 dX4_yata_242 (by decide) ?_
            exact ih (p + 1) p (d + 1) M6 _ _ (by omega) (by omega) (by omega) (by omega) hF6 hP6 hQ6 hd6 hR1 (by omega)
  have after1 : ∀ (x3 : Option Value) (M1 : sjM), (∀ k, k ≠ 21 → M1 k = M k) → (∀ o, 0 ≤ o → o < 60 → M1 21 o = iI 0) → J 21 M1 L [some (.ref (ad 0)), some (.int (iI i)), some (.int (iI c)), x3, none, none, none, none, none, none] [] := by
    intro x3 M1 ho1 hp
    refine g_aload_n (pc := 21) G dX4_yata_21 rfl ?_
    refine g_call (pc := 22) (n := 0) (As := []) G (kX4_none hD M1 L) gX4_yata_X4_none oModel rfl rfl hdX4_none rfl rfl ⟨Nat.le_of_ble_eq_true rfl, Nat.le_of_ble_eq_true rfl⟩ rfl rfl (Nat.le_of_ble_eq_true rfl) dX4_yata_22 ?_
    rintro _ M6 _ ⟨rfl, rfl, ho6, h226⟩
    have hF6 : yF M M6 := ⟨fun k a b c => by rw [ho6 k c, ho1 k b], fun z _ => by rw [ho6 0 (by omega), ho1 0 (by omega)]⟩
    have hP6 : ysP X (M6 21) (aPl X (aLeft T c) + 1) (aPl X (aLeft T c) + 1) := ysP_0 (fun o o0 o1 => by rw [ho6 21 (by omega)]; exact hp o o0 o1)
    have hQ6 : ysP X (M6 22) (aPl X (aLeft T c) + 1) (aPl X (aLeft T c) + 1) := ysP_0 (fun o o0 o1 => by rw [h226]; show (if 0 ≤ o ∧ o < 60 then iI 0 else M1 22 o) = iI 0; rw [if_pos ⟨o0, o1⟩])
    refine g_aload_n (pc := 25) G dX4_yata_25 rfl ?_
    refine g_getR (pc := 26) G hinX4 oModel rfl 5 (by decide) f22 rfl rfl dX4_yata_26 ?_
    refine g_bipush (pc := 29) G dX4_yata_29 rfl ?_
    refine g_iload_n (pc := 31) G dX4_yata_31 rfl ?_
    refine g_iadd (pc := 32) G dX4_yata_32 ?_
    refine g_iald (pc := 33) G rLeft (by have := hc.1; have := hc.2.2; omega) dX4_yata_33 ?_
    refine g_top (ld (rT1_left (yF_T hF6 hT) hc)) ?_
    refine g_istore_n (pc := 34) (lv' := [_, _, _, _, _, _, _, _, _, _]) G dX4_yata_34 (by decide) rfl ?_
    refine g_aload_n (pc := 35) G dX4_yata_35 rfl ?_
    refine g_iload_n (pc := 36) G dX4_yata_36 rfl ?_
    refine g_iload_n (pc := 37) G dX4_yata_37 rfl ?_
    refine g_call (pc := 38) (n := 2) (As := [_, _]) G (kX4_place hD i hi0 hi1 (aLeft T c) M6 L T X _ (yF_X hF6 hX) hI hil) gX4_yata_X4_place oModel rfl rfl hdX4_place rfl rfl ⟨Nat.le_of_ble_eq_true rfl, Nat.le_of_ble_eq_true rfl⟩ rfl rfl (Nat.le_of_ble_eq_true rfl) dX4_yata_38 ?_
    rintro _ _ _ ⟨rfl, rfl, rfl⟩
    refine g_istore (pc := 41) (lv' := [_, _, _, _, _, _, _, _, _, _]) G dX4_yata_41 (by decide) rfl ?_
    refine g_aload_n (pc := 43) G dX4_yata_43 rfl ?_
    refine g_iload_n (pc := 44) G dX4_yata_44 rfl ?_
    refine g_aload_n (pc := 45) G dX4_yata_45 rfl ?_
    refine g_getR (pc := 46) G hinX4 oModel rfl 6 (by decide) f25 rfl rfl dX4_yata_46 ?_
    refine g_bipush (pc := 49) G dX4_yata_49 rfl ?_
    refine g_iload_n (pc := 51) G dX4_yata_51 rfl ?_
    refine g_iadd (pc := 52) G dX4_yata_52 ?_
    refine g_iald (pc := 53) G rRight (by have := hc.1; have := hc.2.2; omega) dX4_yata_53 ?_
    refine g_top (ld (rT1_right (yF_T hF6 hT) hc)) ?_
    refine g_call (pc := 54) (n := 2) (As := [_, _]) G (kX4_place hD i hi0 hi1 (aRight T c) M6 L T X _ (yF_X hF6 hX) hI hir) gX4_yata_X4_place oModel rfl rfl hdX4_place rfl rfl ⟨Nat.le_of_ble_eq_true rfl, Nat.le_of_ble_eq_true rfl⟩ rfl rfl (Nat.le_of_ble_eq_true rfl) dX4_yata_54 ?_
    rintro _ _ _ ⟨rfl, rfl, rfl⟩
    refine g_istore (pc := 57) (lv' := [_, _, _, _, _, _, _, _, _, _]) G dX4_yata_57 (by decide) rfl ?_
    refine g_iconst (pc := 59) G dX4_yata_59 ?_
    refine g_istore (pc := 60) (lv' := [_, _, _, _, _, _, _, _, _, _]) G dX4_yata_60 (by decide) rfl ?_
    refine g_iload (pc := 62) G dX4_yata_62 rfl ?_
    refine g_iconst (pc := 64) G dX4_yata_64 ?_
    refine g_iadd (pc := 65) G dX4_yata_65 ?_
    refine g_istore (pc := 66) (lv' := [_, _, _, _, _, _, _, _, _, _]) G dX4_yata_66 (by decide) rfl ?_
    exact loop _ _ (aPl X (aLeft T c)) 0 M6 _ _ (Nat.lt_succ_self _) (by omega) (by omega) (by omega) hF6 hP6 hQ6 (by rw [Int.add_zero, ho6 0 (by omega), ho1 0 (by omega), iI_of]) rfl (by rw [Int.zero_add]; rfl)
  have loop1 : ∀ (f : Nat) (p : Int) (M1 : sjM), 0 ≤ p → p ≤ 60 → (60 - p).toNat < f → (∀ k, k ≠ 21 → M1 k = M k) → (M1 21 = fun z => if 0 ≤ z ∧ z < p then iI 0 else M 21 z) → J 2 M1 L [some (.ref (ad 0)), some (.int (iI i)), some (.int (iI c)), some (.int (iI p)), none, none, none, none, none, none] [] := by
    intro f
    induction f with
    | zero => intro p M1 _ _ h; omega
    | succ f ih =>
      intro p M1 hp0 hp1 hf ho1 h61
      refine g_iload_n (pc := 2) G dX4_yata_2 rfl ?_
      refine g_bipush (pc := 3) G dX4_yata_3 rfl ?_
      refine g_icmp_ge (pc := 5) G (by first | assumption | omega) (by first | assumption | omega) 21 dX4_yata_5 (by decide) (fun h5 => ?_) (fun h5 => ?_)
      · -- 5 t
        exact after1 _ M1 ho1 (fun o o0 o1 => by rw [h61]; show (if 0 ≤ o ∧ o < p then iI 0 else M 21 o) = iI 0; rw [if_pos (by omega)])
      · -- 5 f
        refine g_aload_n (pc := 8) G dX4_yata_8 rfl ?_
        refine g_getR (pc := 9) G hinX4 oModel rfl 24 (by decide) f71 rfl rfl dX4_yata_9 ?_
        refine g_iload_n (pc := 12) G dX4_yata_12 rfl ?_
        refine g_iconst (pc := 13) G dX4_yata_13 ?_
        refine g_zast (pc := 14) G rPassed (by omega) rfl dX4_yata_14 ?_
        refine g_mem (fun M2 L2 hM2 hL2 => ?_)
        obtain rfl : L = L2 := hL2.symm
        have h22 : M2 21 = fun z => if 0 ≤ z ∧ z < p + 1 then iI 0 else M 21 z := by
          funext z
          rw [hM2, sjU_s, h61]
          show (if z = p then iI 0 else if 0 ≤ z ∧ z < p then iI 0 else M 21 z) = _
          by_cases hz : z = p
          · rw [if_pos hz, if_pos (by omega)]
          · rw [if_neg hz]
            by_cases hc : 0 ≤ z ∧ z < p
            · rw [if_pos hc, if_pos (by omega)]
            · rw [if_neg hc, if_neg (by omega)]
        have ho2 : ∀ k, k ≠ 21 → M2 k = M k := fun k hk => by rw [hM2, sjU_o hk]; exact ho1 k hk
        clear hM2
        refine g_iinc (pc := 15) (lv' := [_, _, _, _, _, _, _, _, _, _]) G dX4_yata_15 (by decide) rfl rfl ?_
        refine g_goto (pc := 18) G 2 dX4_yata_18 (by decide) ?_
        exact ih (p + 1) M2 (by omega) (by omega) (by omega) ho2 h22
  refine g_iconst (pc := 0) G dX4_yata_0 ?_
  refine g_istore_n (pc := 1) (lv' := [_, _, _, _, _, _, _, _, _, _]) G dX4_yata_1 (by decide) rfl ?_
  exact loop1 61 0 M (by omega) (by omega) (by omega) (fun _ _ => rfl) (by funext z; rw [if_neg (by omega)])
