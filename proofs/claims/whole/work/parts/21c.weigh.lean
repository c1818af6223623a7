theorem cmp_eq (x y : Int64) : (lg_cmp x y).toInt = 0 ↔ x = y := by
  unfold lg_cmp
  constructor
  · intro h
    split at h
    · exact absurd h (by decide)
    · split at h
      · assumption
      · exact absurd h (by decide)
  · intro h
    rw [if_neg (by rw [h]; exact Int64.lt_irrefl), if_pos h]
    rfl
theorem wys_in {L : sjL} {S : Nat} (h : S < 4096) : wysF L (S : Int) = L 5 (S : Int) := by unfold wysF; rw [if_pos (by omega)]
set_option maxHeartbeats 4000000 in
set_option maxRecDepth 100000 in
theorem kX1_weigh {l : Launch} {D : va_G} {cI cZ cJ cT cC : ClassId} {ad : Nat → Nat} {A : Nat → Prop} (hD : ∀ g : Nat → va_E, va_D A (sjW 89 ad g)) (i : Nat) (hi : i < 12) (M : sjM) (L : sjL) (hcp : cpOK (vT M (tI i)) (vX M i)) (h12 : (vX M i) 0 0 ≤ 12) : Met l yX1_weigh wsX1_weigh { frames := 3, cells := 0, slots := 0, locals := 66 } (sjA D cI cZ cJ cT cC 89 ad (kC cI cZ cJ cT cC ad) [.ref (ad 4), .ref (ad (29 + 5 * i))] M L) (sjZ D 89 ad (kC cI cZ cJ cT cC ad) A (fun v M' L' => v = none ∧ (∀ k, k ≠ 6 → M' k = M k) ∧ (∀ k, k ≠ 5 → L' k = L k) ∧ recV ((vX M i) 0 0).toNat (prX (vT M (tI i)) (vX M i)) 0 (fun S => L' 5 (S : Int)))) 0 0 A := by
  refine g_met (cc := cX1_weigh) (maxL := 5) (ret := none) (lv := [_, _, _, _, _]) (by decide) rfl hD kC_loc (List.forall_mem_cons.mpr ⟨rfl, List.forall_mem_cons.mpr ⟨rfl, fun _ h => absurd h List.not_mem_nil⟩⟩) (Nat.le_of_ble_eq_true rfl) rfl ?_
  intro J G
  have f9 : Cond.fieldLink RX1 9 "SharedPage$FreeOrders" "ways" "[J" ∈ wsX1_weigh := by decide +kernel
  have f27 : Cond.fieldLink RX1 27 "SharedPage$Copy" "length" "I" ∈ wsX1_weigh := by decide +kernel
  have hinX0 : ∀ w ∈ u_ws RX0 TX0 12, w ∈ wsX1_weigh := fun w h => List.mem_cons_of_mem _ (List.mem_append_left _ (List.mem_append_left _ (List.mem_append_right _ h)))
  have hinX1 : ∀ w ∈ u_ws RX1 TX1 2, w ∈ wsX1_weigh := fun w h => List.mem_cons_of_mem _ (List.mem_append_left _ (List.mem_append_right _ h))
  have hl0 := hcp.1
  obtain ⟨n, hnn⟩ : ∃ n : Nat, n = ((vX M i) 0 0).toNat := ⟨_, rfl⟩
  have hx0 : (vX M i) 0 0 = (n : Int) := by omega
  have hn12 : n ≤ 12 := by omega
  have hp12 := p12 hn12
  have hp0 := Nat.two_pow_pos n
  rw [← hnn] at G
  refine g_aload_n (pc := 0) G dX1_weigh_0 rfl ?_
  refine g_getI (pc := 1) G hinX0 (oCopy i hi) rfl 5 (by decide) f27 rfl rfl dX1_weigh_1 ?_
  refine g_bipush (pc := 4) G dX1_weigh_4 rfl ?_
  refine g_min (pc := 6) G (rg _) (by omega) (by decide +kernel) (by decide +kernel) (by decide +kernel) (List.mem_cons_of_mem _ (by decide +kernel)) (Nat.le_of_ble_eq_true rfl) (Nat.le_of_ble_eq_true rfl) dX1_weigh_6 ?_
  refine g_top (show iI (if 12 < (M (29 + 5 * i) 0).toInt then 12 else (M (29 + 5 * i) 0).toInt) = iI (n : Int) by have e9 : (vX M i) 0 0 = (M (29 + 5 * i) 0).toInt := rfl; rw [if_neg (by omega), ← e9, hx0]) ?_
  refine g_istore_n (pc := 9) (lv' := [_, _, _, _, _]) G dX1_weigh_9 (by decide) rfl ?_
  refine g_iconst (pc := 10) G dX1_weigh_10 ?_
  refine g_iload_n (pc := 11) G dX1_weigh_11 rfl ?_
  refine g_ishl (pc := 12) G dX1_weigh_12 ?_
  refine g_top (bit_I (x := (n : Int)) (by omega) (by omega)) ?_
  refine g_iconst (pc := 13) G dX1_weigh_13 ?_
  refine g_isub (pc := 14) G dX1_weigh_14 ?_
  refine g_istore_n (pc := 15) (lv' := [_, _, _, _, _]) G dX1_weigh_15 (by decide) rfl ?_
  refine g_aload_n (pc := 16) G dX1_weigh_16 rfl ?_
  refine g_aload_n (pc := 17) G dX1_weigh_17 rfl ?_
  refine g_iload_n (pc := 18) G dX1_weigh_18 rfl ?_
  refine g_call (pc := 19) (n := 2) (As := [_, _]) G (kX1_listFollowers hD i hi (n : Int) (by omega) (by omega) M L) gX1_weigh_X1_listFollowers oFree rfl rfl hdX1_listFollowers rfl rfl ⟨Nat.le_of_ble_eq_true rfl, Nat.le_of_ble_eq_true rfl⟩ rfl rfl (Nat.le_of_ble_eq_true rfl) dX1_weigh_19 ?_
  rintro _ M1 _ ⟨rfl, rfl, hM1, h6⟩
  have hfm : fmOK (M1 6) n (prX (vT M (tI i)) (vX M i)) := by
    rw [← h6, show ((n : Int)).toNat = n by omega]
    refine foF_spec hn12 hx0 hcp n 0 _ (by omega) (by omega) (fm_0 (fun x hx => ?_) (fun a b w => ?_))
    · show (if 0 ≤ (x : Int) ∧ (x : Int) < 12 then iI 0 else M 6 (x : Int)) = iI 0
      rw [if_pos (by omega)]
    · rcases w.2.2 with v | v
      · omega
      · omega
  refine g_iconst (pc := 22) G dX1_weigh_22 ?_
  refine g_istore (pc := 23) (lv' := [_, _, _, _, _]) G dX1_weigh_23 (by decide) rfl ?_
  have loop2 : ∀ (f s : Nat) (L1 : sjL), s < f → s < 2 ^ n → (∀ k, k ≠ 5 → L1 k = L k) → recV n (prX (vT M (tI i)) (vX M i)) s (fun S => L1 5 (S : Int)) → J 68 M1 L1 [some (.ref (ad 4)), some (.ref (ad (29 + 5 * i))), some (.int (iI (n : Int))), some (.int (iI (((2 ^ n : Nat) : Int) - 1))), some (.int (iI (s : Int)))] [] := by
    intro f
    induction f with
    | zero => intro s L1 h; omega
    | succ f ih =>
      intro s L1 hf hs1 hL1 hrv
      refine g_iload (pc := 68) G dX1_weigh_68 rfl ?_
      refine g_if_le (pc := 70) G (by omega) 97 dX1_weigh_70 (by decide) (fun h70 => ?_) (fun h70 => ?_)
      · -- 70 t
        refine g_vret (pc := 97) G dX1_weigh_97 ?_
        exact ⟨rfl, hM1, hL1, by rw [show s = 0 by omega] at hrv; exact hrv⟩
      · -- 70 f
        refine g_aload_n (pc := 73) G dX1_weigh_73 rfl ?_
        refine g_iload (pc := 74) G dX1_weigh_74 rfl ?_
        refine g_call (pc := 76) (n := 1) (As := [_]) G (kX1_waysFrom hD (s : Int) ⟨by omega, by omega⟩ M1 L1) gX1_weigh_X1_waysFrom oFree rfl rfl hdX1_waysFrom rfl rfl ⟨Nat.le_of_ble_eq_true rfl, Nat.le_of_ble_eq_true rfl⟩ rfl rfl (Nat.le_of_ble_eq_true rfl) dX1_weigh_76 ?_
        rintro _ _ _ ⟨rfl, rfl, rfl⟩
        rw [wys_in (by omega)]
        refine g_lconst (pc := 79) (v := 0) G dX1_weigh_79 rfl ?_
        refine g_lcmp (pc := 80) G dX1_weigh_80 ?_
        refine g_top ((iI_of _).symm) ?_
        refine g_if_eq (pc := 81) G (rg _) 91 dX1_weigh_81 (by decide) (fun h81 => ?_) (fun h81 => ?_)
        · -- 81 t
          refine g_iinc (pc := 91) (lv' := [_, _, _, _, _]) G dX1_weigh_91 (by decide) rfl rfl ?_
          refine g_goto (pc := 94) G 68 dX1_weigh_94 (by decide) ?_
          rw [show (s : Int) + -1 = ((s - 1 : Nat) : Int) by omega]
          exact ih (s - 1) L1 (by omega) (by omega) hL1 (recV_step hn12 (by omega) hs1 hrv (fun Z => by
            have h0 : L1 5 (s : Int) = 0 := (cmp_eq _ _).mp h81
            by_cases he : hdE (prX (vT M (tI i)) (vX M i)) n s 0 Z
            · rw [cif_pos he]; show _ = L1 5 (Z : Int) + L1 5 (s : Int); rw [h0, Int64.add_zero]
            · rw [cif_neg he]))
        · -- 81 f
          refine g_aload_n (pc := 84) G dX1_weigh_84 rfl ?_
          refine g_iload (pc := 85) G dX1_weigh_85 rfl ?_
          refine g_iload_n (pc := 87) G dX1_weigh_87 rfl ?_
          refine g_call (pc := 88) (n := 2) (As := [_, _]) G (kX1_handOn hD (s : Int) (n : Int) ⟨by omega, by omega⟩ (by omega) (by omega) M1 L1) gX1_weigh_X1_handOn oFree rfl rfl hdX1_handOn rfl rfl ⟨Nat.le_of_ble_eq_true rfl, Nat.le_of_ble_eq_true rfl⟩ rfl rfl (Nat.le_of_ble_eq_true rfl) dX1_weigh_88 ?_
          rintro _ _ L2 ⟨rfl, rfl, ho2, h52⟩
          refine g_iinc (pc := 91) (lv' := [_, _, _, _, _]) G dX1_weigh_91 (by decide) rfl rfl ?_
          refine g_goto (pc := 94) G 68 dX1_weigh_94 (by decide) ?_
          rw [show (s : Int) + -1 = ((s - 1 : Nat) : Int) by omega]
          exact ih (s - 1) L2 (by omega) (by omega) (fun k hk => (ho2 k hk).trans (hL1 k hk)) (recV_step hn12 (by omega) hs1 hrv (fun Z => by
            show L2 5 (Z : Int) = _
            rw [h52, show ((n : Int)).toNat = n by omega]
            exact hd_spec hn12 (by omega) hfm n 0 (L1 5) (by omega) Z))
  have loop1 : ∀ (f : Nat) (s : Int) (L1 : sjL), 0 ≤ s → s ≤ ((2 ^ n : Nat) : Int) → (((2 ^ n : Nat) : Int) - s).toNat < f → (∀ k, k ≠ 5 → L1 k = L k) → (∀ z, 0 ≤ z → z < s → L1 5 z = if z = ((2 ^ n : Nat) : Int) - 1 then 1 else 0) → J 25 M1 L1 [some (.ref (ad 4)), some (.ref (ad (29 + 5 * i))), some (.int (iI (n : Int))), some (.int (iI (((2 ^ n : Nat) : Int) - 1))), some (.int (iI s))] [] := by
    intro f
    induction f with
    | zero => intro s L1 _ _ h; omega
    | succ f ih =>
      intro s L1 hs0 hs1 hf hL1 h5
      refine g_iload (pc := 25) G dX1_weigh_25 rfl ?_
      refine g_iload_n (pc := 27) G dX1_weigh_27 rfl ?_
      refine g_icmp_gt (pc := 28) G (by omega) (by omega) 65 dX1_weigh_28 (by decide) (fun h28 => ?_) (fun h28 => ?_)
      · -- 28 t
        refine g_iload_n (pc := 65) G dX1_weigh_65 rfl ?_
        refine g_istore (pc := 66) (lv' := [_, _, _, _, _]) G dX1_weigh_66 (by decide) rfl ?_
        have h68 := loop2 (2 ^ n) (2 ^ n - 1) L1 (by omega) (by omega) hL1 (recV_0 (fun S hS => by show L1 5 (S : Int) = _; rw [h5 (S : Int) (by omega) (by omega)]; by_cases hz : S = 2 ^ n - 1; rw [if_pos hz, if_pos (by omega)]; rw [if_neg hz, if_neg (by omega)]))
        rw [show ((2 ^ n - 1 : Nat) : Int) = ((2 ^ n : Nat) : Int) - 1 by omega] at h68
        exact h68
      · -- 28 f
        refine g_iload (pc := 31) G dX1_weigh_31 rfl ?_
        refine g_aload_n (pc := 33) G dX1_weigh_33 rfl ?_
        refine g_getR (pc := 34) G hinX1 oFree rfl 0 (by decide) f9 rfl rfl dX1_weigh_34 ?_
        refine g_alenJ (pc := 37) G aWays dX1_weigh_37 ?_
        refine g_icmp_ge (pc := 38) G (by omega) (by omega) 65 dX1_weigh_38 (by decide) (fun h38 => ?_) (fun h38 => ?_)
        · -- 38 t
          exact absurd h38 (by omega)
        · -- 38 f
          refine g_aload_n (pc := 41) G dX1_weigh_41 rfl ?_
          refine g_getR (pc := 42) G hinX1 oFree rfl 0 (by decide) f9 rfl rfl dX1_weigh_42 ?_
          refine g_iload (pc := 45) G dX1_weigh_45 rfl ?_
          refine g_iload (pc := 47) G dX1_weigh_47 rfl ?_
          refine g_iload_n (pc := 49) G dX1_weigh_49 rfl ?_
          refine g_icmp_ne (pc := 50) G (by omega) (by omega) 57 dX1_weigh_50 (by decide) (fun h50 => ?_) (fun h50 => ?_)
          · -- 50 t
            refine g_lconst (pc := 57) (v := 0) G dX1_weigh_57 rfl ?_
            refine g_last (pc := 58) G aWays ⟨by omega, by omega⟩ dX1_weigh_58 ?_
            refine g_mem (fun M2 L2 hM2 hL2 => ?_)
            obtain rfl : M1 = M2 := hM2.symm
            have hL2o : ∀ k, k ≠ 5 → L2 k = L k := fun k hk => by rw [hL2, sjV_o hk]; exact hL1 k hk
            have h52 : ∀ z, 0 ≤ z → z < s + 1 → L2 5 z = if z = ((2 ^ n : Nat) : Int) - 1 then 1 else 0 := by
              intro z z0 z1
              rw [hL2, sjV_s]
              by_cases hz : z = s
              · rw [if_pos hz, hz]
                first
                | rw [if_pos h50]
                | rw [if_neg h50]
              · rw [if_neg hz]; exact h5 z z0 (by omega)
            clear hL2
            refine g_iinc (pc := 59) (lv' := [_, _, _, _, _]) G dX1_weigh_59 (by decide) rfl rfl ?_
            refine g_goto (pc := 62) G 25 dX1_weigh_62 (by decide) ?_
            exact ih (s + 1) L2 (by omega) (by omega) (by omega) hL2o h52
          · -- 50 f
            refine g_lconst (pc := 53) (v := 1) G dX1_weigh_53 rfl ?_
            refine g_goto (pc := 54) G 58 dX1_weigh_54 (by decide) ?_
            refine g_last (pc := 58) G aWays ⟨by omega, by omega⟩ dX1_weigh_58 ?_
            refine g_mem (fun M2 L2 hM2 hL2 => ?_)
            obtain rfl : M1 = M2 := hM2.symm
            have hL2o : ∀ k, k ≠ 5 → L2 k = L k := fun k hk => by rw [hL2, sjV_o hk]; exact hL1 k hk
            have h52 : ∀ z, 0 ≤ z → z < s + 1 → L2 5 z = if z = ((2 ^ n : Nat) : Int) - 1 then 1 else 0 := by
              intro z z0 z1
              rw [hL2, sjV_s]
              by_cases hz : z = s
              · rw [if_pos hz, hz]
                first
                | rw [if_pos h50]
                | rw [if_neg h50]
              · rw [if_neg hz]; exact h5 z z0 (by omega)
            clear hL2
            refine g_iinc (pc := 59) (lv' := [_, _, _, _, _]) G dX1_weigh_59 (by decide) rfl rfl ?_
            refine g_goto (pc := 62) G 25 dX1_weigh_62 (by decide) ?_
            exact ih (s + 1) L2 (by omega) (by omega) (by omega) hL2o h52
  exact loop1 _ 0 L (by omega) (by omega) (Nat.lt_succ_self _) (fun _ _ => rfl) (fun z z0 z1 => by omega)
