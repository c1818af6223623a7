set_option maxHeartbeats 4000000 in
set_option maxRecDepth 100000 in
theorem kX3_look {l : Launch} {D : va_G} {cI cZ cJ cT cC : ClassId} {ad : Nat → Nat} {A : Nat → Prop} (hD : ∀ g : Nat → va_E, va_D A (sjW 89 ad g)) (x y w : Int) (hx : rng x) (hy : rng y) (hw : rng w) (M : sjM) (L : sjL)  : Met l yX3_look wsX3_look { frames := 1, cells := 0, slots := 0, locals := 23 } (sjA D cI cZ cJ cT cC 89 ad (kC cI cZ cJ cT cC ad) [.ref (ad 0), .int (iI x), .int (iI y), .int (iI w)] M L) (sjZ D 89 ad (kC cI cZ cJ cT cC ad) A (fun v M' L' => M = M' ∧ L = L' ∧ v = some (.int (iI (if okTS x y then aLook (vT M (tI (x * 5 + y).toNat)) (vX M (x * 5 + y).toNat) w else -1))))) 0 0 A := by
  refine g_met (cc := cX3_look) (maxL := 5) (ret := (some .int)) (lv := [_, _, _, _, _]) (by decide) rfl hD kC_loc (List.forall_mem_cons.mpr ⟨rfl, List.forall_mem_cons.mpr ⟨rfl, List.forall_mem_cons.mpr ⟨rfl, List.forall_mem_cons.mpr ⟨rfl, fun _ h => absurd h List.not_mem_nil⟩⟩⟩⟩) (Nat.le_of_ble_eq_true rfl) rfl ?_
  intro J G
  have f52 : Cond.fieldLink RX3 52 "SharedPage$Copy" "seen" "I" ∈ wsX3_look := by decide +kernel
  have f62 : Cond.fieldLink RX3 62 "SharedPage$Copy" "text" "LSharedPage$Text;" ∈ wsX3_look := by decide +kernel
  have f94 : Cond.fieldLink RX3 94 "SharedPage$Text" "messages" "I" ∈ wsX3_look := by decide +kernel
  have f100 : Cond.fieldLink RX3 100 "SharedPage$Text" "characters" "I" ∈ wsX3_look := by decide +kernel
  have f103 : Cond.fieldLink RX3 103 "SharedPage$Copy" "length" "I" ∈ wsX3_look := by decide +kernel
  have f106 : Cond.fieldLink RX3 106 "SharedPage$Copy" "done" "I" ∈ wsX3_look := by decide +kernel
  have f109 : Cond.fieldLink RX3 109 "SharedPage$Copy" "waiting" "I" ∈ wsX3_look := by decide +kernel
  have f112 : Cond.fieldLink RX3 112 "SharedPage$Copy" "looks" "I" ∈ wsX3_look := by decide +kernel
  have hinX0 : ∀ w ∈ u_ws RX0 TX0 12, w ∈ wsX3_look := fun w h => List.mem_cons_of_mem _ (List.mem_append_left _ (List.mem_append_left _ (List.mem_append_right _ h)))
  have hinX2 : ∀ w ∈ u_ws RX2 TX2 13, w ∈ wsX3_look := fun w h => List.mem_cons_of_mem _ (List.mem_append_left _ (List.mem_append_right _ h))
  refine g_aload_n (pc := 0) G dX3_look_0 rfl ?_
  refine g_iload_n (pc := 1) G dX3_look_1 rfl ?_
  refine g_iload_n (pc := 2) G dX3_look_2 rfl ?_
  refine g_call (pc := 3) (n := 2) (As := [_, _]) G (kX3_copyAt hD x y hx hy M L) gX3_look_X3_copyAt oPage rfl rfl hdX3_copyAt rfl rfl ⟨Nat.le_of_ble_eq_true rfl, Nat.le_of_ble_eq_true rfl⟩ rfl rfl (Nat.le_of_ble_eq_true rfl) dX3_look_3 ?_
  rintro _ _ _ ⟨rfl, rfl, qv⟩
  rcases qv with ⟨qv, rfl⟩ | ⟨qv, rfl⟩
  · generalize hie : (x * 5 + y).toNat = i
    have hi : i < 12 := by omega
    have hi10 : i < 10 := by omega
    refine g_astore (pc := 6) (lv' := [_, _, _, _, _]) G dX3_look_6 (by decide) rfl ?_
    refine g_aload (pc := 8) G dX3_look_8 rfl ?_
    refine g_ifnonnull (pc := 10) G 15 dX3_look_10 (by decide) ?_
    refine g_iload_n (pc := 15) G dX3_look_15 rfl ?_
    rcases (show w = 0 ∨ w = 1 ∨ w = 2 ∨ w = 3 ∨ w = 4 ∨ w = 5 ∨ w = 6 ∨ (w < 0 ∨ 6 < w) by omega) with rfl | rfl | rfl | rfl | rfl | rfl | rfl | hsw
    · refine g_tabIn (pc := 16) G ⟨by decide, by decide⟩ 60 dX3_look_16 (by decide) (by decide) rfl (by decide) ?_
      refine g_aload (pc := 60) G dX3_look_60 rfl ?_
      refine g_getR (pc := 62) G hinX0 (oCopy i hi) rfl 0 (by decide) f62 rfl rfl dX3_look_62 ?_
      refine g_getI (pc := 65) G hinX2 (oText _ (tI_lt i)) rfl 11 (by decide) f94 rfl rfl dX3_look_65 ?_
      refine g_iret (pc := 68) G dX3_look_68 ?_
      exact ⟨rfl, rfl, by rw [hie, if_pos qv]; rfl⟩
    · refine g_tabIn (pc := 16) G ⟨by decide, by decide⟩ 69 dX3_look_16 (by decide) (by decide) rfl (by decide) ?_
      refine g_aload (pc := 69) G dX3_look_69 rfl ?_
      refine g_getR (pc := 71) G hinX0 (oCopy i hi) rfl 0 (by decide) f62 rfl rfl dX3_look_71 ?_
      refine g_getI (pc := 74) G hinX2 (oText _ (tI_lt i)) rfl 10 (by decide) f100 rfl rfl dX3_look_74 ?_
      refine g_iret (pc := 77) G dX3_look_77 ?_
      exact ⟨rfl, rfl, by rw [hie, if_pos qv]; rfl⟩
    · refine g_tabIn (pc := 16) G ⟨by decide, by decide⟩ 78 dX3_look_16 (by decide) (by decide) rfl (by decide) ?_
      refine g_aload (pc := 78) G dX3_look_78 rfl ?_
      refine g_getI (pc := 80) G hinX0 (oCopy i hi) rfl 5 (by decide) f103 rfl rfl dX3_look_80 ?_
      refine g_iret (pc := 83) G dX3_look_83 ?_
      exact ⟨rfl, rfl, by rw [hie, if_pos qv]; rfl⟩
    · refine g_tabIn (pc := 16) G ⟨by decide, by decide⟩ 84 dX3_look_16 (by decide) (by decide) rfl (by decide) ?_
      refine g_aload (pc := 84) G dX3_look_84 rfl ?_
      refine g_getI (pc := 86) G hinX0 (oCopy i hi) rfl 6 (by decide) f52 rfl rfl dX3_look_86 ?_
      refine g_iret (pc := 89) G dX3_look_89 ?_
      exact ⟨rfl, rfl, by rw [hie, if_pos qv]; rfl⟩
    · refine g_tabIn (pc := 16) G ⟨by decide, by decide⟩ 90 dX3_look_16 (by decide) (by decide) rfl (by decide) ?_
      refine g_aload (pc := 90) G dX3_look_90 rfl ?_
      refine g_getI (pc := 92) G hinX0 (oCopy i hi) rfl 7 (by decide) f106 rfl rfl dX3_look_92 ?_
      refine g_iret (pc := 95) G dX3_look_95 ?_
      exact ⟨rfl, rfl, by rw [hie, if_pos qv]; rfl⟩
    · refine g_tabIn (pc := 16) G ⟨by decide, by decide⟩ 96 dX3_look_16 (by decide) (by decide) rfl (by decide) ?_
      refine g_aload (pc := 96) G dX3_look_96 rfl ?_
      refine g_getI (pc := 98) G hinX0 (oCopy i hi) rfl 8 (by decide) f109 rfl rfl dX3_look_98 ?_
      refine g_iret (pc := 101) G dX3_look_101 ?_
      exact ⟨rfl, rfl, by rw [hie, if_pos qv]; rfl⟩
    · refine g_tabIn (pc := 16) G ⟨by decide, by decide⟩ 102 dX3_look_16 (by decide) (by decide) rfl (by decide) ?_
      refine g_aload (pc := 102) G dX3_look_102 rfl ?_
      refine g_getI (pc := 104) G hinX0 (oCopy i hi) rfl 9 (by decide) f112 rfl rfl dX3_look_104 ?_
      refine g_iret (pc := 107) G dX3_look_107 ?_
      exact ⟨rfl, rfl, by rw [hie, if_pos qv]; rfl⟩
    · refine g_tabOut (pc := 16) G (by assumption) 108 dX3_look_16 hsw (by decide) ?_
      refine g_iconst (pc := 108) G dX3_look_108 ?_
      refine g_iret (pc := 109) G dX3_look_109 ?_
      exact ⟨rfl, rfl, by rw [hie, if_pos qv, aLook_o hsw]⟩
  · skip
    refine g_astoreN (pc := 6) (lv' := [_, _, _, _, _]) G dX3_look_6 (by decide) rfl ?_
    refine g_aloadN (pc := 8) G dX3_look_8 rfl ?_
    refine g_ifnonnullN (pc := 10) G dX3_look_10 ?_
    refine g_iconst (pc := 13) G dX3_look_13 ?_
    refine g_iret (pc := 14) G dX3_look_14 ?_
    exact ⟨rfl, rfl, by rw [if_neg qv]⟩
set_option maxHeartbeats 4000000 in
set_option maxRecDepth 100000 in
theorem kX3_message {l : Launch} {D : va_G} {cI cZ cJ cT cC : ClassId} {ad : Nat → Nat} {A : Nat → Prop} (hD : ∀ g : Nat → va_E, va_D A (sjW 89 ad g)) (x k w : Int) (hx : rng x) (hk : rng k) (hw : rng w) (M : sjM) (L : sjL)  : Met l yX3_message wsX3_message { frames := 2, cells := 0, slots := 0, locals := 42 } (sjA D cI cZ cJ cT cC 89 ad (kC cI cZ cJ cT cC ad) [.ref (ad 0), .int (iI x), .int (iI k), .int (iI w)] M L) (sjZ D 89 ad (kC cI cZ cJ cT cC ad) A (fun v M' L' => M = M' ∧ L = L' ∧ v = some (.int (iI (if (0 ≤ x ∧ x < 2) ∧ aHasM (vT M x.toNat) k then aMess (vT M x.toNat) k w else -1))))) 0 0 A := by
  refine g_met (cc := cX3_message) (maxL := 6) (ret := (some .int)) (lv := [_, _, _, _, _, _]) (by decide) rfl hD kC_loc (List.forall_mem_cons.mpr ⟨rfl, List.forall_mem_cons.mpr ⟨rfl, List.forall_mem_cons.mpr ⟨rfl, List.forall_mem_cons.mpr ⟨rfl, fun _ h => absurd h List.not_mem_nil⟩⟩⟩⟩) (Nat.le_of_ble_eq_true rfl) rfl ?_
  intro J G
  refine g_aload_n (pc := 0) G dX3_message_0 rfl ?_
  refine g_iload_n (pc := 1) G dX3_message_1 rfl ?_
  refine g_call (pc := 2) (n := 1) (As := [_]) G (kX3_textAt hD x hx M L) gX3_message_X3_textAt oPage rfl rfl hdX3_textAt rfl rfl ⟨Nat.le_of_ble_eq_true rfl, Nat.le_of_ble_eq_true rfl⟩ rfl rfl (Nat.le_of_ble_eq_true rfl) dX3_message_2 ?_
  rintro _ _ _ ⟨rfl, rfl, qv⟩
  rcases qv with ⟨qv, rfl⟩ | ⟨qv, rfl⟩
  · generalize hte : x.toNat = t
    have ht : t < 2 := by omega
    refine g_astore (pc := 5) (lv' := [_, _, _, _, _, _]) G dX3_message_5 (by decide) rfl ?_
    refine g_aload (pc := 7) G dX3_message_7 rfl ?_
    refine g_ifnull (pc := 9) G dX3_message_9 ?_
    refine g_aload (pc := 12) G dX3_message_12 rfl ?_
    refine g_iload_n (pc := 14) G dX3_message_14 rfl ?_
    refine g_call (pc := 15) (n := 1) (As := [_]) G (kX2_hasMessage hD t ht k hk M L) gX3_message_X2_hasMessage (oText t ht) rfl rfl hdX2_hasMessage rfl rfl ⟨Nat.le_of_ble_eq_true rfl, Nat.le_of_ble_eq_true rfl⟩ rfl rfl (Nat.le_of_ble_eq_true rfl) dX3_message_15 ?_
    rintro _ _ _ ⟨rfl, rfl, rfl⟩
    by_cases qm : aHasM (vT M t) k
    · rw [if_pos qm]
      refine g_if_ne (pc := 18) G (by omega) 23 dX3_message_18 (by decide) (fun _ => ?_) (fun h => absurd h (by decide))
      refine g_aload (pc := 23) G dX3_message_23 rfl ?_
      refine g_iload_n (pc := 25) G dX3_message_25 rfl ?_
      refine g_call (pc := 26) (n := 1) (As := [_]) G (kX2_subjectOf hD t ht (k) (hk) M L) gX3_message_X2_subjectOf (oText t ht) rfl rfl hdX2_subjectOf rfl rfl ⟨Nat.le_of_ble_eq_true rfl, Nat.le_of_ble_eq_true rfl⟩ rfl rfl (Nat.le_of_ble_eq_true rfl) dX3_message_26 ?_
      rintro _ _ _ ⟨rfl, rfl, rfl⟩
      refine g_istore (pc := 29) (lv' := [_, _, _, _, _, _]) G dX3_message_29 (by decide) rfl ?_
      refine g_iload_n (pc := 31) G dX3_message_31 rfl ?_
      rcases (show w = 0 ∨ w = 1 ∨ w = 2 ∨ w = 3 ∨ w = 4 ∨ w = 5 ∨ (w < 0 ∨ 5 < w) by omega) with rfl | rfl | rfl | rfl | rfl | rfl | hsw
      · refine g_tabIn (pc := 32) G ⟨by decide, by decide⟩ 72 dX3_message_32 (by decide) (by decide) rfl (by decide) ?_
        refine g_aload (pc := 72) G dX3_message_72 rfl ?_
        refine g_iload_n (pc := 74) G dX3_message_74 rfl ?_
        refine g_call (pc := 75) (n := 1) (As := [_]) G (kX2_kindOf hD t ht (k) (hk) M L) gX3_message_X2_kindOf (oText t ht) rfl rfl hdX2_kindOf rfl rfl ⟨Nat.le_of_ble_eq_true rfl, Nat.le_of_ble_eq_true rfl⟩ rfl rfl (Nat.le_of_ble_eq_true rfl) dX3_message_75 ?_
        rintro _ _ _ ⟨rfl, rfl, rfl⟩
        refine g_iret (pc := 78) G dX3_message_78 ?_
        exact ⟨rfl, rfl, by rw [hte, if_pos ⟨qv, qm⟩]; rfl⟩
      · refine g_tabIn (pc := 32) G ⟨by decide, by decide⟩ 79 dX3_message_32 (by decide) (by decide) rfl (by decide) ?_
        refine g_aload (pc := 79) G dX3_message_79 rfl ?_
        refine g_iload_n (pc := 81) G dX3_message_81 rfl ?_
        refine g_call (pc := 82) (n := 1) (As := [_]) G (kX2_makerOf hD t ht (k) (hk) M L) gX3_message_X2_makerOf (oText t ht) rfl rfl hdX2_makerOf rfl rfl ⟨Nat.le_of_ble_eq_true rfl, Nat.le_of_ble_eq_true rfl⟩ rfl rfl (Nat.le_of_ble_eq_true rfl) dX3_message_82 ?_
        rintro _ _ _ ⟨rfl, rfl, rfl⟩
        refine g_iret (pc := 85) G dX3_message_85 ?_
        exact ⟨rfl, rfl, by rw [hte, if_pos ⟨qv, qm⟩]; rfl⟩
      · refine g_tabIn (pc := 32) G ⟨by decide, by decide⟩ 86 dX3_message_32 (by decide) (by decide) rfl (by decide) ?_
        refine g_aload (pc := 86) G dX3_message_86 rfl ?_
        refine g_iload (pc := 88) G dX3_message_88 rfl ?_
        refine g_call (pc := 90) (n := 1) (As := [_]) G (kX2_markOf hD t ht (_) (rg_subj _ _ _) M L) gX3_message_X2_markOf (oText t ht) rfl rfl hdX2_markOf rfl rfl ⟨Nat.le_of_ble_eq_true rfl, Nat.le_of_ble_eq_true rfl⟩ rfl rfl (Nat.le_of_ble_eq_true rfl) dX3_message_90 ?_
        rintro _ _ _ ⟨rfl, rfl, rfl⟩
        refine g_iret (pc := 93) G dX3_message_93 ?_
        exact ⟨rfl, rfl, by rw [hte, if_pos ⟨qv, qm⟩]; rfl⟩
      · refine g_tabIn (pc := 32) G ⟨by decide, by decide⟩ 94 dX3_message_32 (by decide) (by decide) rfl (by decide) ?_
        refine g_aload (pc := 94) G dX3_message_94 rfl ?_
        refine g_aload (pc := 96) G dX3_message_96 rfl ?_
        refine g_iload (pc := 98) G dX3_message_98 rfl ?_
        refine g_call (pc := 100) (n := 1) (As := [_]) G (kX2_leftOf hD t ht (_) (rg_subj _ _ _) M L) gX3_message_X2_leftOf (oText t ht) rfl rfl hdX2_leftOf rfl rfl ⟨Nat.le_of_ble_eq_true rfl, Nat.le_of_ble_eq_true rfl⟩ rfl rfl (Nat.le_of_ble_eq_true rfl) dX3_message_100 ?_
        rintro _ _ _ ⟨rfl, rfl, rfl⟩
        refine g_call (pc := 103) (n := 1) (As := [_]) G (kX2_markOf hD t ht (_) (rg_left _ _ _) M L) gX3_message_X2_markOf (oText t ht) rfl rfl hdX2_markOf rfl rfl ⟨Nat.le_of_ble_eq_true rfl, Nat.le_of_ble_eq_true rfl⟩ rfl rfl (Nat.le_of_ble_eq_true rfl) dX3_message_103 ?_
        rintro _ _ _ ⟨rfl, rfl, rfl⟩
        refine g_iret (pc := 106) G dX3_message_106 ?_
        exact ⟨rfl, rfl, by rw [hte, if_pos ⟨qv, qm⟩]; rfl⟩
      · refine g_tabIn (pc := 32) G ⟨by decide, by decide⟩ 107 dX3_message_32 (by decide) (by decide) rfl (by decide) ?_
        refine g_aload (pc := 107) G dX3_message_107 rfl ?_
        refine g_aload (pc := 109) G dX3_message_109 rfl ?_
        refine g_iload (pc := 111) G dX3_message_111 rfl ?_
        refine g_call (pc := 113) (n := 1) (As := [_]) G (kX2_rightOf hD t ht (_) (rg_subj _ _ _) M L) gX3_message_X2_rightOf (oText t ht) rfl rfl hdX2_rightOf rfl rfl ⟨Nat.le_of_ble_eq_true rfl, Nat.le_of_ble_eq_true rfl⟩ rfl rfl (Nat.le_of_ble_eq_true rfl) dX3_message_113 ?_
        rintro _ _ _ ⟨rfl, rfl, rfl⟩
        refine g_call (pc := 116) (n := 1) (As := [_]) G (kX2_markOf hD t ht (_) (rg_right _ _ _) M L) gX3_message_X2_markOf (oText t ht) rfl rfl hdX2_markOf rfl rfl ⟨Nat.le_of_ble_eq_true rfl, Nat.le_of_ble_eq_true rfl⟩ rfl rfl (Nat.le_of_ble_eq_true rfl) dX3_message_116 ?_
        rintro _ _ _ ⟨rfl, rfl, rfl⟩
        refine g_iret (pc := 119) G dX3_message_119 ?_
        exact ⟨rfl, rfl, by rw [hte, if_pos ⟨qv, qm⟩]; rfl⟩
      · refine g_tabIn (pc := 32) G ⟨by decide, by decide⟩ 120 dX3_message_32 (by decide) (by decide) rfl (by decide) ?_
        refine g_aload (pc := 120) G dX3_message_120 rfl ?_
        refine g_iload (pc := 122) G dX3_message_122 rfl ?_
        refine g_call (pc := 124) (n := 1) (As := [_]) G (kX2_letterOf hD t ht (_) (rg_subj _ _ _) M L) gX3_message_X2_letterOf (oText t ht) rfl rfl hdX2_letterOf rfl rfl ⟨Nat.le_of_ble_eq_true rfl, Nat.le_of_ble_eq_true rfl⟩ rfl rfl (Nat.le_of_ble_eq_true rfl) dX3_message_124 ?_
        rintro _ _ _ ⟨rfl, rfl, rfl⟩
        refine g_iret (pc := 127) G dX3_message_127 ?_
        exact ⟨rfl, rfl, by rw [hte, if_pos ⟨qv, qm⟩]; rfl⟩
      · refine g_tabOut (pc := 32) G (by assumption) 128 dX3_message_32 hsw (by decide) ?_
        refine g_iconst (pc := 128) G dX3_message_128 ?_
        refine g_iret (pc := 129) G dX3_message_129 ?_
        exact ⟨rfl, rfl, by rw [hte, if_pos ⟨qv, qm⟩, aMess_o hsw]⟩
    · rw [if_neg qm]
      refine g_if_ne (pc := 18) G (by omega) 23 dX3_message_18 (by decide) (fun h => absurd h (by decide)) (fun _ => ?_)
      refine g_iconst (pc := 21) G dX3_message_21 ?_
      refine g_iret (pc := 22) G dX3_message_22 ?_
      first | exact ⟨rfl, rfl, by rw [if_neg (fun q => qv q.1)]⟩ | exact ⟨rfl, rfl, by rw [hte, if_neg (fun q => qm q.2)]⟩
  · skip
    refine g_astoreN (pc := 5) (lv' := [_, _, _, _, _, _]) G dX3_message_5 (by decide) rfl ?_
    refine g_aloadN (pc := 7) G dX3_message_7 rfl ?_
    refine g_ifnullN (pc := 9) G 21 dX3_message_9 (by decide) ?_
    refine g_iconst (pc := 21) G dX3_message_21 ?_
    refine g_iret (pc := 22) G dX3_message_22 ?_
    first | exact ⟨rfl, rfl, by rw [if_neg (fun q => qv q.1)]⟩ | exact ⟨rfl, rfl, by rw [hte, if_neg (fun q => qm q.2)]⟩
set_option maxHeartbeats 4000000 in
set_option maxRecDepth 100000 in
theorem kX3_character {l : Launch} {D : va_G} {cI cZ cJ cT cC : ClassId} {ad : Nat → Nat} {A : Nat → Prop} (hD : ∀ g : Nat → va_E, va_D A (sjW 89 ad g)) (x y z w : Int) (hx : rng x) (hy : rng y) (hz : rng z) (hw : rng w) (M : sjM) (L : sjL)  : Met l yX3_character wsX3_character { frames := 2, cells := 0, slots := 0, locals := 42 } (sjA D cI cZ cJ cT cC 89 ad (kC cI cZ cJ cT cC ad) [.ref (ad 0), .int (iI x), .int (iI y), .int (iI z), .int (iI w)] M L) (sjZ D 89 ad (kC cI cZ cJ cT cC ad) A (fun v M' L' => M = M' ∧ L = L' ∧ v = some (.int (iI (if okTS x y ∧ 0 ≤ z ∧ z < (vX M (x * 5 + y).toNat) 0 0 then aChar (vT M (tI (x * 5 + y).toNat)) (vX M (x * 5 + y).toNat) (aAt (vX M (x * 5 + y).toNat) z) w else -1))))) 0 0 A := by
  refine g_met (cc := cX3_character) (maxL := 7) (ret := (some .int)) (lv := [_, _, _, _, _, _, _]) (by decide) rfl hD kC_loc (List.forall_mem_cons.mpr ⟨rfl, List.forall_mem_cons.mpr ⟨rfl, List.forall_mem_cons.mpr ⟨rfl, List.forall_mem_cons.mpr ⟨rfl, List.forall_mem_cons.mpr ⟨rfl, fun _ h => absurd h List.not_mem_nil⟩⟩⟩⟩⟩) (Nat.le_of_ble_eq_true rfl) rfl ?_
  intro J G
  have f62 : Cond.fieldLink RX3 62 "SharedPage$Copy" "text" "LSharedPage$Text;" ∈ wsX3_character := by decide +kernel
  have f103 : Cond.fieldLink RX3 103 "SharedPage$Copy" "length" "I" ∈ wsX3_character := by decide +kernel
  have hinX0 : ∀ w ∈ u_ws RX0 TX0 12, w ∈ wsX3_character := fun w h => List.mem_cons_of_mem _ (List.mem_append_left _ (List.mem_append_left _ (List.mem_append_right _ h)))
  refine g_aload_n (pc := 0) G dX3_character_0 rfl ?_
  refine g_iload_n (pc := 1) G dX3_character_1 rfl ?_
  refine g_iload_n (pc := 2) G dX3_character_2 rfl ?_
  refine g_call (pc := 3) (n := 2) (As := [_, _]) G (kX3_copyAt hD x y hx hy M L) gX3_character_X3_copyAt oPage rfl rfl hdX3_copyAt rfl rfl ⟨Nat.le_of_ble_eq_true rfl, Nat.le_of_ble_eq_true rfl⟩ rfl rfl (Nat.le_of_ble_eq_true rfl) dX3_character_3 ?_
  rintro _ _ _ ⟨rfl, rfl, qv⟩
  rcases qv with ⟨qv, rfl⟩ | ⟨qv, rfl⟩
  · generalize hie : (x * 5 + y).toNat = i
    have hi : i < 12 := by omega
    have hi10 : i < 10 := by omega
    refine g_astore (pc := 6) (lv' := [_, _, _, _, _, _, _]) G dX3_character_6 (by decide) rfl ?_
    refine g_aload (pc := 8) G dX3_character_8 rfl ?_
    refine g_ifnull (pc := 10) G dX3_character_10 ?_
    refine g_iload_n (pc := 13) G dX3_character_13 rfl ?_
    refine g_if_lt (pc := 14) G (by first | assumption | omega) 26 dX3_character_14 (by decide) (fun h14 => ?_) (fun h14 => ?_)
    · -- 14 t
      refine g_iconst (pc := 26) G dX3_character_26 ?_
      refine g_iret (pc := 27) G dX3_character_27 ?_
      first | exact ⟨rfl, rfl, by rw [if_neg (fun q => qv q.1)]⟩ | exact ⟨rfl, rfl, by rw [hie, vX_0, if_neg (by omega)]⟩
    · -- 14 f
      refine g_iload_n (pc := 17) G dX3_character_17 rfl ?_
      refine g_aload (pc := 18) G dX3_character_18 rfl ?_
      refine g_getI (pc := 20) G hinX0 (oCopy i hi) rfl 5 (by decide) f103 rfl rfl dX3_character_20 ?_
      refine g_icmp_lt (pc := 23) G (by first | assumption | omega) (rg _) 28 dX3_character_23 (by decide) (fun h23 => ?_) (fun h23 => ?_)
      · -- 23 t
        refine g_aload (pc := 28) G dX3_character_28 rfl ?_
        refine g_iload_n (pc := 30) G dX3_character_30 rfl ?_
        refine g_call (pc := 31) (n := 1) (As := [_]) G (kX0_characterAt hD i hi (z) (hz) M L) gX3_character_X0_characterAt (oCopy i hi) rfl rfl hdX0_characterAt rfl rfl ⟨Nat.le_of_ble_eq_true rfl, Nat.le_of_ble_eq_true rfl⟩ rfl rfl (Nat.le_of_ble_eq_true rfl) dX3_character_31 ?_
        rintro _ _ _ ⟨rfl, rfl, rfl⟩
        refine g_istore (pc := 34) (lv' := [_, _, _, _, _, _, _]) G dX3_character_34 (by decide) rfl ?_
        refine g_iload (pc := 36) G dX3_character_36 rfl ?_
        rcases (show w = 0 ∨ w = 1 ∨ w = 2 ∨ w = 3 ∨ w = 4 ∨ (w < 0 ∨ 4 < w) by omega) with rfl | rfl | rfl | rfl | rfl | hsw
        · refine g_tabIn (pc := 38) G ⟨by decide, by decide⟩ 72 dX3_character_38 (by decide) (by decide) rfl (by decide) ?_
          refine g_aload (pc := 72) G dX3_character_72 rfl ?_
          refine g_getR (pc := 74) G hinX0 (oCopy i hi) rfl 0 (by decide) f62 rfl rfl dX3_character_74 ?_
          refine g_iload (pc := 77) G dX3_character_77 rfl ?_
          refine g_call (pc := 79) (n := 1) (As := [_]) G (kX2_markOf hD (tI i) (tI_lt i) (_) (rg_at _ _ _) M L) gX3_character_X2_markOf (oText _ (tI_lt i)) rfl rfl hdX2_markOf rfl rfl ⟨Nat.le_of_ble_eq_true rfl, Nat.le_of_ble_eq_true rfl⟩ rfl rfl (Nat.le_of_ble_eq_true rfl) dX3_character_79 ?_
          rintro _ _ _ ⟨rfl, rfl, rfl⟩
          refine g_iret (pc := 82) G dX3_character_82 ?_
          exact ⟨rfl, rfl, by rw [hie, vX_0, if_pos ⟨qv, by omega, by omega⟩]; rfl⟩
        · refine g_tabIn (pc := 38) G ⟨by decide, by decide⟩ 83 dX3_character_38 (by decide) (by decide) rfl (by decide) ?_
          refine g_aload (pc := 83) G dX3_character_83 rfl ?_
          refine g_getR (pc := 85) G hinX0 (oCopy i hi) rfl 0 (by decide) f62 rfl rfl dX3_character_85 ?_
          refine g_iload (pc := 88) G dX3_character_88 rfl ?_
          refine g_call (pc := 90) (n := 1) (As := [_]) G (kX2_letterOf hD (tI i) (tI_lt i) (_) (rg_at _ _ _) M L) gX3_character_X2_letterOf (oText _ (tI_lt i)) rfl rfl hdX2_letterOf rfl rfl ⟨Nat.le_of_ble_eq_true rfl, Nat.le_of_ble_eq_true rfl⟩ rfl rfl (Nat.le_of_ble_eq_true rfl) dX3_character_90 ?_
          rintro _ _ _ ⟨rfl, rfl, rfl⟩
          refine g_iret (pc := 93) G dX3_character_93 ?_
          exact ⟨rfl, rfl, by rw [hie, vX_0, if_pos ⟨qv, by omega, by omega⟩]; rfl⟩
        · refine g_tabIn (pc := 38) G ⟨by decide, by decide⟩ 94 dX3_character_38 (by decide) (by decide) rfl (by decide) ?_
          refine g_aload (pc := 94) G dX3_character_94 rfl ?_
          refine g_iload (pc := 96) G dX3_character_96 rfl ?_
          refine g_call (pc := 98) (n := 1) (As := [_]) G (kX0_isSeen hD i hi _ (rg_at _ _ _) M L) gX3_character_X0_isSeen (oCopy i hi) rfl rfl hdX0_isSeen rfl rfl ⟨Nat.le_of_ble_eq_true rfl, Nat.le_of_ble_eq_true rfl⟩ rfl rfl (Nat.le_of_ble_eq_true rfl) dX3_character_98 ?_
          rintro _ _ _ ⟨rfl, rfl, rfl⟩
          by_cases qs : aSeen (vX M i) (aAt (vX M i) z)
          · rw [if_pos qs]
            refine g_if_eq (pc := 101) G (by omega) 108 dX3_character_101 (by decide) (fun h => absurd h (by decide)) (fun _ => ?_)
            refine g_iconst (pc := 104) G dX3_character_104 ?_
            refine g_goto (pc := 105) G 109 dX3_character_105 (by decide) ?_
            refine g_iret (pc := 109) G dX3_character_109 ?_
            first | exact ⟨rfl, rfl, by rw [hie, vX_0, if_pos ⟨qv, by omega, by omega⟩]; show _ = some (Value.int (iI (if aSeen (vX M i) (aAt (vX M i) z) then 1 else 0))); rw [if_pos qs]⟩ | exact ⟨rfl, rfl, by rw [hie, vX_0, if_pos ⟨qv, by omega, by omega⟩]; show _ = some (Value.int (iI (if aSeen (vX M i) (aAt (vX M i) z) then 1 else 0))); rw [if_neg qs]⟩
          · rw [if_neg qs]
            refine g_if_eq (pc := 101) G (by omega) 108 dX3_character_101 (by decide) (fun _ => ?_) (fun h => absurd h (by decide))
            refine g_iconst (pc := 108) G dX3_character_108 ?_
            refine g_iret (pc := 109) G dX3_character_109 ?_
            first | exact ⟨rfl, rfl, by rw [hie, vX_0, if_pos ⟨qv, by omega, by omega⟩]; show _ = some (Value.int (iI (if aSeen (vX M i) (aAt (vX M i) z) then 1 else 0))); rw [if_pos qs]⟩ | exact ⟨rfl, rfl, by rw [hie, vX_0, if_pos ⟨qv, by omega, by omega⟩]; show _ = some (Value.int (iI (if aSeen (vX M i) (aAt (vX M i) z) then 1 else 0))); rw [if_neg qs]⟩
        · refine g_tabIn (pc := 38) G ⟨by decide, by decide⟩ 110 dX3_character_38 (by decide) (by decide) rfl (by decide) ?_
          refine g_aload (pc := 110) G dX3_character_110 rfl ?_
          refine g_aload (pc := 112) G dX3_character_112 rfl ?_
          refine g_getR (pc := 114) G hinX0 (oCopy i hi) rfl 0 (by decide) f62 rfl rfl dX3_character_114 ?_
          refine g_iload (pc := 117) G dX3_character_117 rfl ?_
          refine g_call (pc := 119) (n := 1) (As := [_]) G (kX2_leftOf hD (tI i) (tI_lt i) (_) (rg_at _ _ _) M L) gX3_character_X2_leftOf (oText _ (tI_lt i)) rfl rfl hdX2_leftOf rfl rfl ⟨Nat.le_of_ble_eq_true rfl, Nat.le_of_ble_eq_true rfl⟩ rfl rfl (Nat.le_of_ble_eq_true rfl) dX3_character_119 ?_
          rintro _ _ _ ⟨rfl, rfl, rfl⟩
          refine g_call (pc := 122) (n := 1) (As := [_]) G (kX0_placeOf hD i hi (_) (rg_left _ _ _) M L) gX3_character_X0_placeOf (oCopy i hi) rfl rfl hdX0_placeOf rfl rfl ⟨Nat.le_of_ble_eq_true rfl, Nat.le_of_ble_eq_true rfl⟩ rfl rfl (Nat.le_of_ble_eq_true rfl) dX3_character_122 ?_
          rintro _ _ _ ⟨rfl, rfl, rfl⟩
          refine g_iret (pc := 125) G dX3_character_125 ?_
          exact ⟨rfl, rfl, by rw [hie, vX_0, if_pos ⟨qv, by omega, by omega⟩]; rfl⟩
        · refine g_tabIn (pc := 38) G ⟨by decide, by decide⟩ 126 dX3_character_38 (by decide) (by decide) rfl (by decide) ?_
          refine g_aload (pc := 126) G dX3_character_126 rfl ?_
          refine g_aload (pc := 128) G dX3_character_128 rfl ?_
          refine g_getR (pc := 130) G hinX0 (oCopy i hi) rfl 0 (by decide) f62 rfl rfl dX3_character_130 ?_
          refine g_iload (pc := 133) G dX3_character_133 rfl ?_
          refine g_call (pc := 135) (n := 1) (As := [_]) G (kX2_rightOf hD (tI i) (tI_lt i) (_) (rg_at _ _ _) M L) gX3_character_X2_rightOf (oText _ (tI_lt i)) rfl rfl hdX2_rightOf rfl rfl ⟨Nat.le_of_ble_eq_true rfl, Nat.le_of_ble_eq_true rfl⟩ rfl rfl (Nat.le_of_ble_eq_true rfl) dX3_character_135 ?_
          rintro _ _ _ ⟨rfl, rfl, rfl⟩
          refine g_call (pc := 138) (n := 1) (As := [_]) G (kX0_placeOf hD i hi (_) (rg_right _ _ _) M L) gX3_character_X0_placeOf (oCopy i hi) rfl rfl hdX0_placeOf rfl rfl ⟨Nat.le_of_ble_eq_true rfl, Nat.le_of_ble_eq_true rfl⟩ rfl rfl (Nat.le_of_ble_eq_true rfl) dX3_character_138 ?_
          rintro _ _ _ ⟨rfl, rfl, rfl⟩
          refine g_iret (pc := 141) G dX3_character_141 ?_
          exact ⟨rfl, rfl, by rw [hie, vX_0, if_pos ⟨qv, by omega, by omega⟩]; rfl⟩
        · refine g_tabOut (pc := 38) G (by assumption) 142 dX3_character_38 hsw (by decide) ?_
          refine g_iconst (pc := 142) G dX3_character_142 ?_
          refine g_iret (pc := 143) G dX3_character_143 ?_
          exact ⟨rfl, rfl, by rw [hie, vX_0, if_pos ⟨qv, by omega, by omega⟩, aChar_o hsw]⟩
      · -- 23 f
        refine g_iconst (pc := 26) G dX3_character_26 ?_
        refine g_iret (pc := 27) G dX3_character_27 ?_
        first | exact ⟨rfl, rfl, by rw [if_neg (fun q => qv q.1)]⟩ | exact ⟨rfl, rfl, by rw [hie, vX_0, if_neg (by omega)]⟩
  · skip
    refine g_astoreN (pc := 6) (lv' := [_, _, _, _, _, _, _]) G dX3_character_6 (by decide) rfl ?_
    refine g_aloadN (pc := 8) G dX3_character_8 rfl ?_
    refine g_ifnullN (pc := 10) G 26 dX3_character_10 (by decide) ?_
    refine g_iconst (pc := 26) G dX3_character_26 ?_
    refine g_iret (pc := 27) G dX3_character_27 ?_
    first | exact ⟨rfl, rfl, by rw [if_neg (fun q => qv q.1)]⟩ | exact ⟨rfl, rfl, by rw [hie, vX_0, if_neg (by omega)]⟩
