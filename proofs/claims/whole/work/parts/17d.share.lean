/-- a site is told all that is DONE at another one (s: it is the same one), from step p on -/
def aShF (T : aS) (w d s : Bool) (X : aS) : Nat → Int → aS → Int → aS × Int
  | 0, _, Y, n => (Y, n)
  | f + 1, p, Y, n => if aSt (if s then Y else X) (if d then T 0 1 - 1 - p else p) = 2 then aShF T w d s X f (p + 1) (aHear T w Y (if d then T 0 1 - 1 - p else p)).1 (n + (aHear T w Y (if d then T 0 1 - 1 - p else p)).2) else aShF T w d s X f (p + 1) Y n
theorem rg_st2 {b : Bool} (M M1 : sjM) (j i : Nat) (k : Int) : rng (aSt (if b = true then vX M1 j else vX M i) k) := by
  split
  · exact rg_st M1 j k
  · exact rg_st M i k
set_option maxHeartbeats 4000000 in
set_option maxRecDepth 100000 in
theorem kX3_share {l : Launch} {D : va_G} {cI cZ cJ cT cC : ClassId} {ad : Nat → Nat} {A : Nat → Prop} (hD : ∀ g : Nat → va_E, va_D A (sjW 89 ad g)) (x a b dn : Int) (hx : rng x) (ha : rng a) (hb : rng b) (hdn : rng dn) (M : sjM) (L : sjL) (lts : Nat → Int → Int → Prop) (hI : pInv M lts) : Met l yX3_share wsX3_share { frames := 6, cells := 0, slots := 0, locals := 140 } (sjA D cI cZ cJ cT cC 89 ad (kC cI cZ cJ cT cC ad) [.ref (ad 0), .int (iI x), .int (iI a), .int (iI b), .int (iI dn)] M L) (sjZ D 89 ad (kC cI cZ cJ cT cC ad) A (fun v M' L' => L = L' ∧ ((okTS x a ∧ okTS x b ∧ onC M M' (x * 5 + b).toNat ∧ vX M' (x * 5 + b).toNat = aEnd (aShF (vT M (tI (x * 5 + b).toNat)) (decide (tI (x * 5 + b).toNat = 0)) (decide (¬ dn = 0)) (decide ((x * 5 + a).toNat = (x * 5 + b).toNat)) (vX M (x * 5 + a).toNat) ((vT M (tI (x * 5 + b).toNat)) 0 1).toNat 0 (aStart (vX M (x * 5 + b).toNat)) 0).1 ∧ v = some (.int (iI (aShF (vT M (tI (x * 5 + b).toNat)) (decide (tI (x * 5 + b).toNat = 0)) (decide (¬ dn = 0)) (decide ((x * 5 + a).toNat = (x * 5 + b).toNat)) (vX M (x * 5 + a).toNat) ((vT M (tI (x * 5 + b).toNat)) 0 1).toNat 0 (aStart (vX M (x * 5 + b).toNat)) 0).2))) ∨ (¬ (okTS x a ∧ okTS x b) ∧ M' = M ∧ v = some (.int (iI (-1))))))) 0 0 A := by
  refine g_met (cc := cX3_share) (maxL := 11) (ret := (some .int)) (lv := [_, _, _, _, _, _, _, _, _, _, _]) (by decide) rfl hD kC_loc (List.forall_mem_cons.mpr ⟨rfl, List.forall_mem_cons.mpr ⟨rfl, List.forall_mem_cons.mpr ⟨rfl, List.forall_mem_cons.mpr ⟨rfl, List.forall_mem_cons.mpr ⟨rfl, fun _ h => absurd h List.not_mem_nil⟩⟩⟩⟩⟩) (Nat.le_of_ble_eq_true rfl) rfl ?_
  intro J G
  have f62 : Cond.fieldLink RX3 62 "SharedPage$Copy" "text" "LSharedPage$Text;" ∈ wsX3_share := by decide +kernel
  have f94 : Cond.fieldLink RX3 94 "SharedPage$Text" "messages" "I" ∈ wsX3_share := by decide +kernel
  have hinX0 : ∀ w ∈ u_ws RX0 TX0 12, w ∈ wsX3_share := fun w h => List.mem_cons_of_mem _ (List.mem_append_left _ (List.mem_append_left _ (List.mem_append_right _ h)))
  have hinX2 : ∀ w ∈ u_ws RX2 TX2 13, w ∈ wsX3_share := fun w h => List.mem_cons_of_mem _ (List.mem_append_left _ (List.mem_append_right _ h))
  refine g_aload_n (pc := 0) G dX3_share_0 rfl ?_
  refine g_iload_n (pc := 1) G dX3_share_1 rfl ?_
  refine g_iload_n (pc := 2) G dX3_share_2 rfl ?_
  refine g_call (pc := 3) (n := 2) (As := [_, _]) G (kX3_copyAt hD x a hx ha M L) gX3_share_X3_copyAt oPage rfl rfl hdX3_copyAt rfl rfl ⟨Nat.le_of_ble_eq_true rfl, Nat.le_of_ble_eq_true rfl⟩ rfl rfl (Nat.le_of_ble_eq_true rfl) dX3_share_3 ?_
  rintro _ _ _ ⟨rfl, rfl, qv⟩
  rcases qv with ⟨qv, rfl⟩ | ⟨qv, rfl⟩
  · generalize hie : (x * 5 + a).toNat = i
    have hi : i < 12 := by omega
    have hi10 : i < 10 := by omega
    refine g_astore (pc := 6) (lv' := [_, _, _, _, _, _, _, _, _, _, _]) G dX3_share_6 (by decide) rfl ?_
    refine g_aload_n (pc := 8) G dX3_share_8 rfl ?_
    refine g_iload_n (pc := 9) G dX3_share_9 rfl ?_
    refine g_iload_n (pc := 10) G dX3_share_10 rfl ?_
    refine g_call (pc := 11) (n := 2) (As := [_, _]) G (kX3_copyAt hD x b hx hb M L) gX3_share_X3_copyAt oPage rfl rfl hdX3_copyAt rfl rfl ⟨Nat.le_of_ble_eq_true rfl, Nat.le_of_ble_eq_true rfl⟩ rfl rfl (Nat.le_of_ble_eq_true rfl) dX3_share_11 ?_
    rintro _ _ _ ⟨rfl, rfl, qw⟩
    rcases qw with ⟨qw, rfl⟩ | ⟨qw, rfl⟩
    · generalize hje : (x * 5 + b).toNat = j
      have hj : j < 12 := by omega
      have hj10 : j < 10 := by omega
      refine g_astore (pc := 14) (lv' := [_, _, _, _, _, _, _, _, _, _, _]) G dX3_share_14 (by decide) rfl ?_
      refine g_aload (pc := 16) G dX3_share_16 rfl ?_
      refine g_ifnull (pc := 18) G dX3_share_18 ?_
      refine g_aload (pc := 21) G dX3_share_21 rfl ?_
      refine g_ifnonnull (pc := 23) G 28 dX3_share_23 (by decide) ?_
      refine g_aload (pc := 28) G dX3_share_28 rfl ?_
      refine g_call (pc := 30) (n := 0) (As := []) G (kX0_startCall hD j hj M L) gX3_share_X0_startCall (oCopy j hj) rfl rfl hdX0_startCall rfl rfl ⟨Nat.le_of_ble_eq_true rfl, Nat.le_of_ble_eq_true rfl⟩ rfl rfl (Nat.le_of_ble_eq_true rfl) dX3_share_30 ?_
      rintro _ M1 _ ⟨rfl, rfl, hM1⟩
      have hv1 : vX M1 j = aStart (vX M j) := by rw [hM1, vX_U0, vX_U0]; rfl
      have ho1 : onC M M1 j := by rw [hM1]; exact onC_tr (onC_U0 _ j _ _) (onC_U0 _ j _ _)
      clear hM1
      refine g_iconst (pc := 33) G dX3_share_33 ?_
      refine g_istore (pc := 34) (lv' := [_, _, _, _, _, _, _, _, _, _, _]) G dX3_share_34 (by decide) rfl ?_
      refine g_aload (pc := 36) G dX3_share_36 rfl ?_
      refine g_getR (pc := 38) G hinX0 (oCopy i hi) rfl 0 (by decide) f62 rfl rfl dX3_share_38 ?_
      refine g_getI (pc := 41) G hinX2 (oText _ (tI_lt i)) rfl 11 (by decide) f94 rfl rfl dX3_share_41 ?_
      refine g_istore (pc := 44) (lv' := [_, _, _, _, _, _, _, _, _, _, _]) G dX3_share_44 (by decide) rfl ?_
      refine g_iconst (pc := 46) G dX3_share_46 ?_
      refine g_istore (pc := 47) (lv' := [_, _, _, _, _, _, _, _, _, _, _]) G dX3_share_47 (by decide) rfl ?_
      have hij : tI i = tI j := by
        unfold tI
        rw [← hie, ← hje]
        have h1 := qv.1
        have h2 := qv.2.1
        have h3 := qv.2.2
        have h4 := qw.2.2
        rcases (show x = 0 ∨ x = 1 by omega) with q | q
        · rw [if_pos (by omega), if_pos (by omega)]
        · rw [if_neg (by omega), if_pos (by omega), if_neg (by omega), if_pos (by omega)]
      obtain ⟨ht, ho, hin0⟩ := hI j hj10
      generalize hlt : lts (tI j) = lt at ho hin0
      have hm0 := ht.2.2.1
      have hm1 := ht.2.2.2.1
      have hms : (M1 (9 + 10 * tI i) 1).toInt = (vT M (tI j)) 0 1 := by rw [hij, ← vT_0 M1 (tI j) 1, onC_T ho1 _ (tI_lt j)]
      rw [hms]
      have hstart := hv1
      have loop : ∀ (n : Nat) (q n0 : Int) (M1 : sjM) (x10 : Option Value), 0 ≤ q → q ≤ 160 → ((vT M (tI j)) 0 1 - q).toNat < n → onC M M1 j → cInv (vT M (tI j)) lt (vX M1 j) → aShF (vT M (tI j)) (decide (tI j = 0)) (decide (¬ dn = 0)) (decide (i = j)) (vX M i) ((vT M (tI j)) 0 1 - q).toNat q (vX M1 j) n0 = aShF (vT M (tI j)) (decide (tI j = 0)) (decide (¬ dn = 0)) (decide (i = j)) (vX M i) ((vT M (tI j)) 0 1).toNat 0 (aStart (vX M j)) 0 → J 49 M1 L [some (.ref (ad 0)), some (.int (iI x)), some (.int (iI a)), some (.int (iI b)), some (.int (iI dn)), some (.ref (ad (29 + 5 * i))), some (.ref (ad (29 + 5 * j))), some (.int (iI n0)), some (.int (iI ((vT M (tI j)) 0 1))), some (.int (iI q)), x10] [] := by
        clear hms hstart hv1 ho1 M1
        intro n
        induction n with
        | zero => intro q n0 M1 x10 _ _ h; omega
        | succ n ih =>
          intro q n0 M1 x10 hq0 hq1 hn ho1 hin hR
          have hT1 : vT M1 (tI j) = (vT M (tI j)) := onC_T ho1 _ (tI_lt j)
          have hsrc : vX M1 i = if (decide (i = j)) = true then vX M1 j else (vX M i) := by
            by_cases hq : i = j
            · rw [if_pos (decide_eq_true hq), hq]
            · rw [if_neg (fun w => hq (of_decide_eq_true w)), onC_X ho1 hq]
          refine g_iload (pc := 49) G dX3_share_49 rfl ?_
          refine g_iload (pc := 51) G dX3_share_51 rfl ?_
          refine g_icmp_ge (pc := 53) G (by clear hR; omega) (by clear hR; omega) 104 dX3_share_53 (by decide) (fun h53 => ?_) (fun h53 => ?_)
          · -- 53 t
            rw [show ((vT M (tI j)) 0 1 - q).toNat = 0 by clear hR; omega, aShF] at hR
            refine g_aload (pc := 104) G dX3_share_104 rfl ?_
            refine g_call (pc := 106) (n := 0) (As := []) G (kX0_endCall hD j hj M1 L) gX3_share_X0_endCall (oCopy j hj) rfl rfl hdX0_endCall rfl rfl ⟨Nat.le_of_ble_eq_true rfl, Nat.le_of_ble_eq_true rfl⟩ rfl rfl (Nat.le_of_ble_eq_true rfl) dX3_share_106 ?_
            rintro _ M3 _ ⟨rfl, rfl, hM3⟩
            refine g_iload (pc := 109) G dX3_share_109 rfl ?_
            refine g_iret (pc := 111) G dX3_share_111 ?_
            refine ⟨rfl, Or.inl ?_⟩
            rw [hie, hje]
            have e6 : (M1 (29 + 5 * j) 6).toInt = vX M1 j 0 6 := rfl
            refine ⟨qv, qw, onC_tr ho1 ?_, ?_, ?_⟩
            · rw [hM3]; split
              · exact onC_U0 _ j _ _
              · exact onC_rf _ j
            · rw [hM3, ← hR, aEnd, e6]
              split
              · rw [vX_U0]; rfl
              · rfl
            · rw [← hR]
          · -- 53 f
            rw [show ((vT M (tI j)) 0 1 - q).toNat = ((vT M (tI j)) 0 1 - (q + 1)).toNat + 1 by clear hR; omega, aShF] at hR
            --go
            refine g_iload (pc := 56) G dX3_share_56 rfl ?_
            refine g_if_eq (pc := 58) G (by assumption) 71 dX3_share_58 (by decide) (fun h58 => ?_) (fun h58 => ?_)
            · -- 58 t
              rw [if_neg (show ¬ ((decide (¬ dn = 0)) = true) from fun w => (of_decide_eq_true w) h58)] at hR
              --go
              refine g_iload (pc := 71) G dX3_share_71 rfl ?_
              refine g_istore (pc := 73) (lv' := [_, _, _, _, _, _, _, _, _, _, _]) G dX3_share_73 (by decide) rfl ?_
              refine g_aload (pc := 75) G dX3_share_75 rfl ?_
              refine g_iload (pc := 77) G dX3_share_77 rfl ?_
              refine g_call (pc := 79) (n := 1) (As := [_]) G (kX0_stateOf hD i hi (q) ⟨by clear hR; omega, by clear hR; omega⟩ M1 L) gX3_share_X0_stateOf (oCopy i hi) rfl rfl hdX0_stateOf rfl rfl ⟨Nat.le_of_ble_eq_true rfl, Nat.le_of_ble_eq_true rfl⟩ rfl rfl (Nat.le_of_ble_eq_true rfl) dX3_share_79 ?_
              rintro _ _ _ ⟨rfl, rfl, rfl⟩
              rw [hsrc]
              refine g_iconst (pc := 82) G dX3_share_82 ?_
              refine g_icmp_ne (pc := 83) G (rg_st2 _ _ _ _ _) (by clear hR; omega) 98 dX3_share_83 (by decide) (fun h83 => ?_) (fun h83 => ?_)
              · -- 83 t
                rw [if_neg h83] at hR
                --go
                refine g_iinc (pc := 98) (lv' := [_, _, _, _, _, _, _, _, _, _, _]) G dX3_share_98 (by decide) rfl rfl ?_
                refine g_goto (pc := 101) G 49 dX3_share_101 (by decide) ?_
                exact ih (q + 1) n0 M1 _ (by clear hR; omega) (by clear hR; omega) (by clear hR; omega) ho1 hin hR
              · -- 83 f
                rw [if_pos h83] at hR
                --go
                refine g_iload (pc := 86) G dX3_share_86 rfl ?_
                refine g_aload (pc := 88) G dX3_share_88 rfl ?_
                refine g_iload (pc := 90) G dX3_share_90 rfl ?_
                refine g_call (pc := 92) (n := 1) (As := [_]) G (kX0_hear hD j hj (q) ⟨by clear hR; omega, by clear hR; omega⟩ M1 L lt (by rw [hT1]; exact ht) (by rw [hT1]; exact ho) (by rw [hT1]; exact hin)) gX3_share_X0_hear (oCopy j hj) rfl rfl hdX0_hear rfl rfl ⟨Nat.le_of_ble_eq_true rfl, Nat.le_of_ble_eq_true rfl⟩ rfl rfl (Nat.le_of_ble_eq_true rfl) dX3_share_92 ?_
                rintro _ M2 _ ⟨rfl, ho2, hv2, rfl⟩
                rw [hT1] at hv2 ⊢
                refine g_iadd (pc := 95) G dX3_share_95 ?_
                refine g_istore (pc := 96) (lv' := [_, _, _, _, _, _, _, _, _, _, _]) G dX3_share_96 (by decide) rfl ?_
                refine g_iinc (pc := 98) (lv' := [_, _, _, _, _, _, _, _, _, _, _]) G dX3_share_98 (by decide) rfl rfl ?_
                refine g_goto (pc := 101) G 49 dX3_share_101 (by decide) ?_
                exact ih (q + 1) _ M2 _ (by clear hR; omega) (by clear hR; omega) (by clear hR; omega) (onC_tr ho1 ho2) (by rw [hv2]; exact hear_inv ht ho hin) (by rw [hv2]; exact hR)
            · -- 58 f
              rw [if_pos (show (decide (¬ dn = 0)) = true from decide_eq_true h58)] at hR
              --go
              refine g_iload (pc := 61) G dX3_share_61 rfl ?_
              refine g_iconst (pc := 63) G dX3_share_63 ?_
              refine g_isub (pc := 64) G dX3_share_64 ?_
              refine g_iload (pc := 65) G dX3_share_65 rfl ?_
              refine g_isub (pc := 67) G dX3_share_67 ?_
              refine g_goto (pc := 68) G 73 dX3_share_68 (by decide) ?_
              refine g_istore (pc := 73) (lv' := [_, _, _, _, _, _, _, _, _, _, _]) G dX3_share_73 (by decide) rfl ?_
              refine g_aload (pc := 75) G dX3_share_75 rfl ?_
              refine g_iload (pc := 77) G dX3_share_77 rfl ?_
              refine g_call (pc := 79) (n := 1) (As := [_]) G (kX0_stateOf hD i hi ((vT M (tI j)) 0 1 - 1 - q) ⟨by clear hR; omega, by clear hR; omega⟩ M1 L) gX3_share_X0_stateOf (oCopy i hi) rfl rfl hdX0_stateOf rfl rfl ⟨Nat.le_of_ble_eq_true rfl, Nat.le_of_ble_eq_true rfl⟩ rfl rfl (Nat.le_of_ble_eq_true rfl) dX3_share_79 ?_
              rintro _ _ _ ⟨rfl, rfl, rfl⟩
              rw [hsrc]
              refine g_iconst (pc := 82) G dX3_share_82 ?_
              refine g_icmp_ne (pc := 83) G (rg_st2 _ _ _ _ _) (by clear hR; omega) 98 dX3_share_83 (by decide) (fun h83 => ?_) (fun h83 => ?_)
              · -- 83 t
                rw [if_neg h83] at hR
                --go
                refine g_iinc (pc := 98) (lv' := [_, _, _, _, _, _, _, _, _, _, _]) G dX3_share_98 (by decide) rfl rfl ?_
                refine g_goto (pc := 101) G 49 dX3_share_101 (by decide) ?_
                exact ih (q + 1) n0 M1 _ (by clear hR; omega) (by clear hR; omega) (by clear hR; omega) ho1 hin hR
              · -- 83 f
                rw [if_pos h83] at hR
                --go
                refine g_iload (pc := 86) G dX3_share_86 rfl ?_
                refine g_aload (pc := 88) G dX3_share_88 rfl ?_
                refine g_iload (pc := 90) G dX3_share_90 rfl ?_
                refine g_call (pc := 92) (n := 1) (As := [_]) G (kX0_hear hD j hj ((vT M (tI j)) 0 1 - 1 - q) ⟨by clear hR; omega, by clear hR; omega⟩ M1 L lt (by rw [hT1]; exact ht) (by rw [hT1]; exact ho) (by rw [hT1]; exact hin)) gX3_share_X0_hear (oCopy j hj) rfl rfl hdX0_hear rfl rfl ⟨Nat.le_of_ble_eq_true rfl, Nat.le_of_ble_eq_true rfl⟩ rfl rfl (Nat.le_of_ble_eq_true rfl) dX3_share_92 ?_
                rintro _ M2 _ ⟨rfl, ho2, hv2, rfl⟩
                rw [hT1] at hv2 ⊢
                refine g_iadd (pc := 95) G dX3_share_95 ?_
                refine g_istore (pc := 96) (lv' := [_, _, _, _, _, _, _, _, _, _, _]) G dX3_share_96 (by decide) rfl ?_
                refine g_iinc (pc := 98) (lv' := [_, _, _, _, _, _, _, _, _, _, _]) G dX3_share_98 (by decide) rfl rfl ?_
                refine g_goto (pc := 101) G 49 dX3_share_101 (by decide) ?_
                exact ih (q + 1) _ M2 _ (by clear hR; omega) (by clear hR; omega) (by clear hR; omega) (onC_tr ho1 ho2) (by rw [hv2]; exact hear_inv ht ho hin) (by rw [hv2]; exact hR)
      exact loop _ 0 0 M1 _ (by omega) (by omega) (Nat.lt_succ_self _) ho1 (by rw [hv1]; exact start_inv hin0) (by rw [hv1, Int.sub_zero])
    · skip
      refine g_astoreN (pc := 14) (lv' := [_, _, _, _, _, _, _, _, _, _, _]) G dX3_share_14 (by decide) rfl ?_
      refine g_aload (pc := 16) G dX3_share_16 rfl ?_
      refine g_ifnull (pc := 18) G dX3_share_18 ?_
      refine g_aloadN (pc := 21) G dX3_share_21 rfl ?_
      refine g_ifnonnullN (pc := 23) G dX3_share_23 ?_
      refine g_iconst (pc := 26) G dX3_share_26 ?_
      refine g_iret (pc := 27) G dX3_share_27 ?_
      first | exact ⟨rfl, Or.inr ⟨fun q => qv q.1, rfl, rfl⟩⟩ | exact ⟨rfl, Or.inr ⟨fun q => qw q.2, rfl, rfl⟩⟩
  · skip
    refine g_astoreN (pc := 6) (lv' := [_, _, _, _, _, _, _, _, _, _, _]) G dX3_share_6 (by decide) rfl ?_
    refine g_aload_n (pc := 8) G dX3_share_8 rfl ?_
    refine g_iload_n (pc := 9) G dX3_share_9 rfl ?_
    refine g_iload_n (pc := 10) G dX3_share_10 rfl ?_
    refine g_call (pc := 11) (n := 2) (As := [_, _]) G (kX3_copyAt hD x b hx hb M L) gX3_share_X3_copyAt oPage rfl rfl hdX3_copyAt rfl rfl ⟨Nat.le_of_ble_eq_true rfl, Nat.le_of_ble_eq_true rfl⟩ rfl rfl (Nat.le_of_ble_eq_true rfl) dX3_share_11 ?_
    rintro _ _ _ ⟨rfl, rfl, qw⟩
    rcases qw with ⟨qw, rfl⟩ | ⟨qw, rfl⟩
    · generalize hje : (x * 5 + b).toNat = j
      have hj : j < 12 := by omega
      have hj10 : j < 10 := by omega
      refine g_astore (pc := 14) (lv' := [_, _, _, _, _, _, _, _, _, _, _]) G dX3_share_14 (by decide) rfl ?_
      refine g_aloadN (pc := 16) G dX3_share_16 rfl ?_
      refine g_ifnullN (pc := 18) G 26 dX3_share_18 (by decide) ?_
      refine g_iconst (pc := 26) G dX3_share_26 ?_
      refine g_iret (pc := 27) G dX3_share_27 ?_
      first | exact ⟨rfl, Or.inr ⟨fun q => qv q.1, rfl, rfl⟩⟩ | exact ⟨rfl, Or.inr ⟨fun q => qw q.2, rfl, rfl⟩⟩
    · skip
      refine g_astoreN (pc := 14) (lv' := [_, _, _, _, _, _, _, _, _, _, _]) G dX3_share_14 (by decide) rfl ?_
      refine g_aloadN (pc := 16) G dX3_share_16 rfl ?_
      refine g_ifnullN (pc := 18) G 26 dX3_share_18 (by decide) ?_
      refine g_iconst (pc := 26) G dX3_share_26 ?_
      refine g_iret (pc := 27) G dX3_share_27 ?_
      first | exact ⟨rfl, Or.inr ⟨fun q => qv q.1, rfl, rfl⟩⟩ | exact ⟨rfl, Or.inr ⟨fun q => qw q.2, rfl, rfl⟩⟩
