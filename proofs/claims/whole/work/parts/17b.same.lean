/-- whether two copies are alike, from place q on: 1 or 0 -/
def aLik (X Y : aS) : Nat → Int → Int
  | 0, _ => 1
  | n + 1, q => if aAt X q = aAt Y q ∧ (aSeen X (aAt X q) ↔ aSeen Y (aAt X q)) then aLik X Y n (q + 1) else 0
def aAlike (X Y : aS) : Int := if X 0 0 = Y 0 0 then aLik X Y (X 0 0).toNat 0 else 0
theorem aLik_01 (X Y : aS) : ∀ (n : Nat) (q : Int), aLik X Y n q = 0 ∨ aLik X Y n q = 1
  | 0, _ => Or.inr rfl
  | n + 1, q => by
    rw [aLik]
    split
    · exact aLik_01 X Y n (q + 1)
    · exact Or.inl rfl
theorem aAlike_01 (X Y : aS) : aAlike X Y = 0 ∨ aAlike X Y = 1 := by
  unfold aAlike
  split
  · exact aLik_01 X Y _ _
  · exact Or.inl rfl
set_option maxHeartbeats 4000000 in
set_option maxRecDepth 100000 in
theorem kX0_isLike {l : Launch} {D : va_G} {cI cZ cJ cT cC : ClassId} {ad : Nat → Nat} {A : Nat → Prop} (hD : ∀ g : Nat → va_E, va_D A (sjW 89 ad g)) (i : Nat) (hi : i < 12) (j : Nat) (hj : j < 12) (M : sjM) (L : sjL)  : Met l yX0_isLike wsX0_isLike { frames := 1, cells := 0, slots := 0, locals := 21 } (sjA D cI cZ cJ cT cC 89 ad (kC cI cZ cJ cT cC ad) [.ref (ad (29 + 5 * i)), .ref (ad (29 + 5 * j))] M L) (sjZ D 89 ad (kC cI cZ cJ cT cC ad) A (fun v M' L' => M = M' ∧ L = L' ∧ v = some (.int (iI (aAlike (vX M i) (vX M j)))))) 0 0 A := by
  refine g_met (cc := cX0_isLike) (maxL := 4) (ret := (some .boolean)) (lv := [_, _, _, _]) (by decide) rfl hD kC_loc (List.forall_mem_cons.mpr ⟨rfl, List.forall_mem_cons.mpr ⟨rfl, fun _ h => absurd h List.not_mem_nil⟩⟩) (Nat.le_of_ble_eq_true rfl) rfl ?_
  intro J G
  have f32 : Cond.fieldLink RX0 32 "SharedPage$Copy" "length" "I" ∈ wsX0_isLike := by decide +kernel
  have hinX0 : ∀ w ∈ u_ws RX0 TX0 12, w ∈ wsX0_isLike := fun w h => List.mem_cons_of_mem _ (List.mem_append_right _ h)
  have hms := rg (M (29 + 5 * i) 0)
  have loop : ∀ (n : Nat) (q : Int) (x3 : Option Value), 0 ≤ q → q ≤ 2147483647 → ((M (29 + 5 * i) 0).toInt - q).toNat < n → aLik (vX M i) (vX M j) ((M (29 + 5 * i) 0).toInt - q).toNat q = aAlike (vX M i) (vX M j) → J 19 M L [some (.ref (ad (29 + 5 * i))), some (.ref (ad (29 + 5 * j))), some (.int (iI q)), x3] [] := by
    intro n
    induction n with
    | zero => intro q x3 _ _ h; omega
    | succ n ih =>
      intro q x3 hq0 hq1 hn hR
      refine g_iload_n (pc := 19) G dX0_isLike_19 rfl ?_
      refine g_aload_n (pc := 20) G dX0_isLike_20 rfl ?_
      refine g_getI (pc := 21) G hinX0 (oCopy i hi) rfl 5 (by decide) f32 rfl rfl dX0_isLike_21 ?_
      refine g_icmp_ge (pc := 24) G (by clear hR; omega) (rg _) 63 dX0_isLike_24 (by decide) (fun h24 => ?_) (fun h24 => ?_)
      · -- 24 t
        rw [show ((M (29 + 5 * i) 0).toInt - q).toNat = 0 by clear hR; omega, aLik] at hR
        refine g_iconst G dX0_isLike_63 ?_
        refine g_zret G rfl dX0_isLike_64 ?_
        exact ⟨rfl, rfl, by rw [← hR]⟩
      · -- 24 f
        rw [show ((M (29 + 5 * i) 0).toInt - q).toNat = ((M (29 + 5 * i) 0).toInt - (q + 1)).toNat + 1 by clear hR; omega, aLik] at hR
        --go
        refine g_aload_n (pc := 27) G dX0_isLike_27 rfl ?_
        refine g_iload_n (pc := 28) G dX0_isLike_28 rfl ?_
        refine g_call (pc := 29) (n := 1) (As := [_]) G (kX0_characterAt hD i hi q ⟨by clear hR; omega, by clear hR; omega⟩ M L) gX0_isLike_X0_characterAt (oCopy i hi) rfl rfl hdX0_characterAt rfl rfl ⟨Nat.le_of_ble_eq_true rfl, Nat.le_of_ble_eq_true rfl⟩ rfl rfl (Nat.le_of_ble_eq_true rfl) dX0_isLike_29 ?_
        rintro _ _ _ ⟨rfl, rfl, rfl⟩
        refine g_istore_n (pc := 32) (lv' := [_, _, _, _]) G dX0_isLike_32 (by decide) rfl ?_
        refine g_iload_n (pc := 33) G dX0_isLike_33 rfl ?_
        refine g_aload_n (pc := 34) G dX0_isLike_34 rfl ?_
        refine g_iload_n (pc := 35) G dX0_isLike_35 rfl ?_
        refine g_call (pc := 36) (n := 1) (As := [_]) G (kX0_characterAt hD j hj q ⟨by clear hR; omega, by clear hR; omega⟩ M L) gX0_isLike_X0_characterAt (oCopy j hj) rfl rfl hdX0_characterAt rfl rfl ⟨Nat.le_of_ble_eq_true rfl, Nat.le_of_ble_eq_true rfl⟩ rfl rfl (Nat.le_of_ble_eq_true rfl) dX0_isLike_36 ?_
        rintro _ _ _ ⟨rfl, rfl, rfl⟩
        refine g_icmp_ne (pc := 39) G (rg_at _ _ _) (rg_at _ _ _) 55 dX0_isLike_39 (by decide) (fun h39 => ?_) (fun h39 => ?_)
        · -- 39 t
          rw [if_neg (fun w => h39 w.1)] at hR
          --go
          refine g_iconst (pc := 55) G dX0_isLike_55 ?_
          refine g_zret (pc := 56) G rfl dX0_isLike_56 ?_
          exact ⟨rfl, rfl, by rw [← hR]⟩
        · -- 39 f
          refine g_aload_n (pc := 42) G dX0_isLike_42 rfl ?_
          refine g_iload_n (pc := 43) G dX0_isLike_43 rfl ?_
          refine g_call (pc := 44) (n := 1) (As := [_]) G (kX0_isSeen hD i hi _ (rg_at _ _ _) M L) gX0_isLike_X0_isSeen (oCopy i hi) rfl rfl hdX0_isSeen rfl rfl ⟨Nat.le_of_ble_eq_true rfl, Nat.le_of_ble_eq_true rfl⟩ rfl rfl (Nat.le_of_ble_eq_true rfl) dX0_isLike_44 ?_
          rintro _ _ _ ⟨rfl, rfl, rfl⟩
          by_cases q1 : aSeen (vX M i) (aAt (vX M i) q)
          · rw [if_pos q1]
            refine g_aload_n (pc := 47) G dX0_isLike_47 rfl ?_
            refine g_iload_n (pc := 48) G dX0_isLike_48 rfl ?_
            refine g_call (pc := 49) (n := 1) (As := [_]) G (kX0_isSeen hD j hj _ (rg_at _ _ _) M L) gX0_isLike_X0_isSeen (oCopy j hj) rfl rfl hdX0_isSeen rfl rfl ⟨Nat.le_of_ble_eq_true rfl, Nat.le_of_ble_eq_true rfl⟩ rfl rfl (Nat.le_of_ble_eq_true rfl) dX0_isLike_49 ?_
            rintro _ _ _ ⟨rfl, rfl, rfl⟩
            by_cases q2 : aSeen (vX M j) (aAt (vX M i) q)
            · rw [if_pos q2]
              rw [if_pos ⟨h39, ⟨fun _ => q2, fun _ => q1⟩⟩] at hR
              refine g_icmp_eq (pc := 52) G (by omega) (by omega) 57 dX0_isLike_52 (by decide) (fun _ => ?_) (fun h => absurd h (by decide))
              refine g_iinc (pc := 57) (lv' := [_, _, _, _]) G dX0_isLike_57 (by decide) rfl rfl ?_
              refine g_goto (pc := 60) G 19 dX0_isLike_60 (by decide) ?_
              exact ih (q + 1) _ (by clear hR; omega) (by clear hR; omega) (by clear hR; omega) hR
            · rw [if_neg q2]
              rw [if_neg (fun w => q2 (w.2.mp q1))] at hR
              refine g_icmp_eq (pc := 52) G (by omega) (by omega) 57 dX0_isLike_52 (by decide) (fun h => absurd h (by decide)) (fun _ => ?_)
              refine g_iconst (pc := 55) G dX0_isLike_55 ?_
              refine g_zret (pc := 56) G rfl dX0_isLike_56 ?_
              exact ⟨rfl, rfl, by rw [← hR]⟩
          · rw [if_neg q1]
            refine g_aload_n (pc := 47) G dX0_isLike_47 rfl ?_
            refine g_iload_n (pc := 48) G dX0_isLike_48 rfl ?_
            refine g_call (pc := 49) (n := 1) (As := [_]) G (kX0_isSeen hD j hj _ (rg_at _ _ _) M L) gX0_isLike_X0_isSeen (oCopy j hj) rfl rfl hdX0_isSeen rfl rfl ⟨Nat.le_of_ble_eq_true rfl, Nat.le_of_ble_eq_true rfl⟩ rfl rfl (Nat.le_of_ble_eq_true rfl) dX0_isLike_49 ?_
            rintro _ _ _ ⟨rfl, rfl, rfl⟩
            by_cases q2 : aSeen (vX M j) (aAt (vX M i) q)
            · rw [if_pos q2]
              rw [if_neg (fun w => q1 (w.2.mpr q2))] at hR
              refine g_icmp_eq (pc := 52) G (by omega) (by omega) 57 dX0_isLike_52 (by decide) (fun h => absurd h (by decide)) (fun _ => ?_)
              refine g_iconst (pc := 55) G dX0_isLike_55 ?_
              refine g_zret (pc := 56) G rfl dX0_isLike_56 ?_
              exact ⟨rfl, rfl, by rw [← hR]⟩
            · rw [if_neg q2]
              rw [if_pos ⟨h39, ⟨fun w => absurd w q1, fun w => absurd w q2⟩⟩] at hR
              refine g_icmp_eq (pc := 52) G (by omega) (by omega) 57 dX0_isLike_52 (by decide) (fun _ => ?_) (fun h => absurd h (by decide))
              refine g_iinc (pc := 57) (lv' := [_, _, _, _]) G dX0_isLike_57 (by decide) rfl rfl ?_
              refine g_goto (pc := 60) G 19 dX0_isLike_60 (by decide) ?_
              exact ih (q + 1) _ (by clear hR; omega) (by clear hR; omega) (by clear hR; omega) hR
  refine g_aload_n (pc := 0) G dX0_isLike_0 rfl ?_
  refine g_ifnull (pc := 1) G dX0_isLike_1 ?_
  refine g_aload_n (pc := 4) G dX0_isLike_4 rfl ?_
  refine g_getI (pc := 5) G hinX0 (oCopy i hi) rfl 5 (by decide) f32 rfl rfl dX0_isLike_5 ?_
  refine g_aload_n (pc := 8) G dX0_isLike_8 rfl ?_
  refine g_getI (pc := 9) G hinX0 (oCopy j hj) rfl 5 (by decide) f32 rfl rfl dX0_isLike_9 ?_
  refine g_icmp_eq (pc := 12) G (rg _) (rg _) 17 dX0_isLike_12 (by decide) (fun h12 => ?_) (fun h12 => ?_)
  · -- 12 t
    refine g_iconst (pc := 17) G dX0_isLike_17 ?_
    refine g_istore_n (pc := 18) (lv' := [_, _, _, _]) G dX0_isLike_18 (by decide) rfl ?_
    exact loop _ 0 _ (by omega) (by omega) (Nat.lt_succ_self _) (by rw [aAlike, vX_0, vX_0, if_pos h12, Int.sub_zero])
  · -- 12 f
    refine g_iconst (pc := 15) G dX0_isLike_15 ?_
    refine g_zret (pc := 16) G rfl dX0_isLike_16 ?_
    exact ⟨rfl, rfl, by rw [aAlike, vX_0, vX_0, if_neg h12]⟩
set_option maxHeartbeats 4000000 in
set_option maxRecDepth 100000 in
theorem kX3_same {l : Launch} {D : va_G} {cI cZ cJ cT cC : ClassId} {ad : Nat → Nat} {A : Nat → Prop} (hD : ∀ g : Nat → va_E, va_D A (sjW 89 ad g)) (x a b : Int) (hx : rng x) (ha : rng a) (hb : rng b) (M : sjM) (L : sjL)  : Met l yX3_same wsX3_same { frames := 2, cells := 0, slots := 0, locals := 44 } (sjA D cI cZ cJ cT cC 89 ad (kC cI cZ cJ cT cC ad) [.ref (ad 0), .int (iI x), .int (iI a), .int (iI b)] M L) (sjZ D 89 ad (kC cI cZ cJ cT cC ad) A (fun v M' L' => M = M' ∧ L = L' ∧ v = some (.int (iI (if okTS x a ∧ okTS x b then aAlike (vX M (x * 5 + a).toNat) (vX M (x * 5 + b).toNat) else 0))))) 0 0 A := by
  refine g_met (cc := cX3_same) (maxL := 6) (ret := (some .boolean)) (lv := [_, _, _, _, _, _]) (by decide) rfl hD kC_loc (List.forall_mem_cons.mpr ⟨rfl, List.forall_mem_cons.mpr ⟨rfl, List.forall_mem_cons.mpr ⟨rfl, List.forall_mem_cons.mpr ⟨rfl, fun _ h => absurd h List.not_mem_nil⟩⟩⟩⟩) (Nat.le_of_ble_eq_true rfl) rfl ?_
  intro J G
  refine g_aload_n (pc := 0) G dX3_same_0 rfl ?_
  refine g_iload_n (pc := 1) G dX3_same_1 rfl ?_
  refine g_iload_n (pc := 2) G dX3_same_2 rfl ?_
  refine g_call (pc := 3) (n := 2) (As := [_, _]) G (kX3_copyAt hD x a hx ha M L) gX3_same_X3_copyAt oPage rfl rfl hdX3_copyAt rfl rfl ⟨Nat.le_of_ble_eq_true rfl, Nat.le_of_ble_eq_true rfl⟩ rfl rfl (Nat.le_of_ble_eq_true rfl) dX3_same_3 ?_
  rintro _ _ _ ⟨rfl, rfl, qv⟩
  rcases qv with ⟨qv, rfl⟩ | ⟨qv, rfl⟩
  · generalize hie : (x * 5 + a).toNat = i
    have hi : i < 12 := by omega
    have hi10 : i < 10 := by omega
    refine g_astore (pc := 6) (lv' := [_, _, _, _, _, _]) G dX3_same_6 (by decide) rfl ?_
    refine g_aload_n (pc := 8) G dX3_same_8 rfl ?_
    refine g_iload_n (pc := 9) G dX3_same_9 rfl ?_
    refine g_iload_n (pc := 10) G dX3_same_10 rfl ?_
    refine g_call (pc := 11) (n := 2) (As := [_, _]) G (kX3_copyAt hD x b hx hb M L) gX3_same_X3_copyAt oPage rfl rfl hdX3_copyAt rfl rfl ⟨Nat.le_of_ble_eq_true rfl, Nat.le_of_ble_eq_true rfl⟩ rfl rfl (Nat.le_of_ble_eq_true rfl) dX3_same_11 ?_
    rintro _ _ _ ⟨rfl, rfl, qw⟩
    rcases qw with ⟨qw, rfl⟩ | ⟨qw, rfl⟩
    · generalize hje : (x * 5 + b).toNat = j
      have hj : j < 12 := by omega
      have hj10 : j < 10 := by omega
      refine g_astore (pc := 14) (lv' := [_, _, _, _, _, _]) G dX3_same_14 (by decide) rfl ?_
      refine g_aload (pc := 16) G dX3_same_16 rfl ?_
      refine g_ifnull (pc := 18) G dX3_same_18 ?_
      refine g_aload (pc := 21) G dX3_same_21 rfl ?_
      refine g_ifnull (pc := 23) G dX3_same_23 ?_
      refine g_aload (pc := 26) G dX3_same_26 rfl ?_
      refine g_aload (pc := 28) G dX3_same_28 rfl ?_
      refine g_call (pc := 30) (n := 1) (As := [_]) G (kX0_isLike hD i hi j hj M L) gX3_same_X0_isLike (oCopy i hi) rfl rfl hdX0_isLike rfl rfl ⟨Nat.le_of_ble_eq_true rfl, Nat.le_of_ble_eq_true rfl⟩ rfl rfl (Nat.le_of_ble_eq_true rfl) dX3_same_30 ?_
      rintro _ _ _ ⟨rfl, rfl, rfl⟩
      rcases aAlike_01 (vX M i) (vX M j) with h01 | h01
      · rw [h01]
        refine g_if_eq (pc := 33) G (by omega) 40 dX3_same_33 (by decide) (fun _ => ?_) (fun h => absurd h (by decide))
        refine g_iconst (pc := 40) G dX3_same_40 ?_
        refine g_zret (pc := 41) G rfl dX3_same_41 ?_
        first | exact ⟨rfl, rfl, by rw [if_neg (fun q => qv q.1)]⟩ | exact ⟨rfl, rfl, by rw [if_neg (fun q => qw q.2)]⟩ | exact ⟨rfl, rfl, by rw [hie, hje, if_pos ⟨qv, qw⟩, h01]⟩
      · rw [h01]
        refine g_if_eq (pc := 33) G (by omega) 40 dX3_same_33 (by decide) (fun h => absurd h (by decide)) (fun _ => ?_)
        refine g_iconst (pc := 36) G dX3_same_36 ?_
        refine g_goto (pc := 37) G 41 dX3_same_37 (by decide) ?_
        refine g_zret (pc := 41) G rfl dX3_same_41 ?_
        first | exact ⟨rfl, rfl, by rw [if_neg (fun q => qv q.1)]⟩ | exact ⟨rfl, rfl, by rw [if_neg (fun q => qw q.2)]⟩ | exact ⟨rfl, rfl, by rw [hie, hje, if_pos ⟨qv, qw⟩, h01]⟩
    · skip
      refine g_astoreN (pc := 14) (lv' := [_, _, _, _, _, _]) G dX3_same_14 (by decide) rfl ?_
      refine g_aload (pc := 16) G dX3_same_16 rfl ?_
      refine g_ifnull (pc := 18) G dX3_same_18 ?_
      refine g_aloadN (pc := 21) G dX3_same_21 rfl ?_
      refine g_ifnullN (pc := 23) G 40 dX3_same_23 (by decide) ?_
      refine g_iconst (pc := 40) G dX3_same_40 ?_
      refine g_zret (pc := 41) G rfl dX3_same_41 ?_
      first | exact ⟨rfl, rfl, by rw [if_neg (fun q => qv q.1)]⟩ | exact ⟨rfl, rfl, by rw [if_neg (fun q => qw q.2)]⟩ | exact ⟨rfl, rfl, by rw [hie, hje, if_pos ⟨qv, qw⟩, h01]⟩
  · skip
    refine g_astoreN (pc := 6) (lv' := [_, _, _, _, _, _]) G dX3_same_6 (by decide) rfl ?_
    refine g_aload_n (pc := 8) G dX3_same_8 rfl ?_
    refine g_iload_n (pc := 9) G dX3_same_9 rfl ?_
    refine g_iload_n (pc := 10) G dX3_same_10 rfl ?_
    refine g_call (pc := 11) (n := 2) (As := [_, _]) G (kX3_copyAt hD x b hx hb M L) gX3_same_X3_copyAt oPage rfl rfl hdX3_copyAt rfl rfl ⟨Nat.le_of_ble_eq_true rfl, Nat.le_of_ble_eq_true rfl⟩ rfl rfl (Nat.le_of_ble_eq_true rfl) dX3_same_11 ?_
    rintro _ _ _ ⟨rfl, rfl, qw⟩
    rcases qw with ⟨qw, rfl⟩ | ⟨qw, rfl⟩
    · generalize hje : (x * 5 + b).toNat = j
      have hj : j < 12 := by omega
      have hj10 : j < 10 := by omega
      refine g_astore (pc := 14) (lv' := [_, _, _, _, _, _]) G dX3_same_14 (by decide) rfl ?_
      refine g_aloadN (pc := 16) G dX3_same_16 rfl ?_
      refine g_ifnullN (pc := 18) G 40 dX3_same_18 (by decide) ?_
      refine g_iconst (pc := 40) G dX3_same_40 ?_
      refine g_zret (pc := 41) G rfl dX3_same_41 ?_
      first | exact ⟨rfl, rfl, by rw [if_neg (fun q => qv q.1)]⟩ | exact ⟨rfl, rfl, by rw [if_neg (fun q => qw q.2)]⟩ | exact ⟨rfl, rfl, by rw [hie, hje, if_pos ⟨qv, qw⟩, h01]⟩
    · skip
      refine g_astoreN (pc := 14) (lv' := [_, _, _, _, _, _]) G dX3_same_14 (by decide) rfl ?_
      refine g_aloadN (pc := 16) G dX3_same_16 rfl ?_
      refine g_ifnullN (pc := 18) G 40 dX3_same_18 (by decide) ?_
      refine g_iconst (pc := 40) G dX3_same_40 ?_
      refine g_zret (pc := 41) G rfl dX3_same_41 ?_
      first | exact ⟨rfl, rfl, by rw [if_neg (fun q => qv q.1)]⟩ | exact ⟨rfl, rfl, by rw [if_neg (fun q => qw q.2)]⟩ | exact ⟨rfl, rfl, by rw [hie, hje, if_pos ⟨qv, qw⟩, h01]⟩
