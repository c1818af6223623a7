/-- place a's must come ahead of place b's -/
def aFo (F : Int → Int32) (a b n : Int) : Int → Int32 := if 0 ≤ a ∧ a < n ∧ a < 12 ∧ 0 ≤ b ∧ b < n then (fun z => if z = a then F a ||| bitI b else F z) else F
def aFoF (T X : aS) (n : Int) : Nat → Int → (Int → Int32) → Int → Int32
  | 0, _, F => F
  | f + 1, p, F => aFoF T X n f (p + 1) (aFo (aFo F (aPl X (aLeft T (aAt X p))) p n) p (aPl X (aRight T (aAt X p))) n)
theorem aFo_6 (M M' : sjM) (a b n : Int) (h : M' = if 0 ≤ a ∧ a < n ∧ a < 12 ∧ 0 ≤ b ∧ b < n then sjU M 6 a (M 6 a ||| bitI b) else M) : M' 6 = aFo (M 6) a b n ∧ ∀ k, k ≠ 6 → M' k = M k := by
  rw [h]
  unfold aFo
  split
  · exact ⟨by funext z; rw [sjU_s], fun k hk => sjU_o hk⟩
  · exact ⟨rfl, fun _ _ => rfl⟩
set_option maxHeartbeats 4000000 in
set_option maxRecDepth 100000 in
theorem kX1_listFollowers {l : Launch} {D : va_G} {cI cZ cJ cT cC : ClassId} {ad : Nat → Nat} {A : Nat → Prop} (hD : ∀ g : Nat → va_E, va_D A (sjW 89 ad g)) (i : Nat) (hi : i < 12) (n : Int) (hn0 : 0 ≤ n) (hn1 : n ≤ 12) (M : sjM) (L : sjL)  : Met l yX1_listFollowers wsX1_listFollowers { frames := 2, cells := 0, slots := 0, locals := 42 } (sjA D cI cZ cJ cT cC 89 ad (kC cI cZ cJ cT cC ad) [.ref (ad 4), .ref (ad (29 + 5 * i)), .int (iI n)] M L) (sjZ D 89 ad (kC cI cZ cJ cT cC ad) A (fun v M' L' => v = none ∧ L = L' ∧ (∀ k, k ≠ 6 → M' k = M k) ∧ aFoF (vT M (tI i)) (vX M i) n n.toNat 0 (fun z : Int => if 0 ≤ z ∧ z < 12 then iI 0 else M 6 z) = M' 6)) 0 0 A := by
  refine g_met (cc := cX1_listFollowers) (maxL := 5) (ret := none) (lv := [_, _, _, _, _]) (by decide) rfl hD kC_loc (List.forall_mem_cons.mpr ⟨rfl, List.forall_mem_cons.mpr ⟨rfl, List.forall_mem_cons.mpr ⟨rfl, fun _ h => absurd h List.not_mem_nil⟩⟩⟩) (Nat.le_of_ble_eq_true rfl) rfl ?_
  intro J G
  have f15 : Cond.fieldLink RX1 15 "SharedPage$FreeOrders" "followers" "[I" ∈ wsX1_listFollowers := by decide +kernel
  have f39 : Cond.fieldLink RX1 39 "SharedPage$Copy" "text" "LSharedPage$Text;" ∈ wsX1_listFollowers := by decide +kernel
  have hinX0 : ∀ w ∈ u_ws RX0 TX0 12, w ∈ wsX1_listFollowers := fun w h => List.mem_cons_of_mem _ (List.mem_append_left _ (List.mem_append_right _ h))
  have hinX1 : ∀ w ∈ u_ws RX1 TX1 2, w ∈ wsX1_listFollowers := fun w h => List.mem_cons_of_mem _ (List.mem_append_left _ (List.mem_append_left _ (List.mem_append_right _ h)))
  have loop2 : ∀ (f : Nat) (p : Int) (M1 : sjM) (x4 : Option Value), 0 ≤ p → p ≤ n → (n - p).toNat < f → (∀ k, k ≠ 6 → M1 k = M k) → aFoF (vT M (tI i)) (vX M i) n (n - p).toNat p (M1 6) = aFoF (vT M (tI i)) (vX M i) n n.toNat 0 (fun z : Int => if 0 ≤ z ∧ z < 12 then iI 0 else M 6 z) → J 23 M1 L [some (.ref (ad 4)), some (.ref (ad (29 + 5 * i))), some (.int (iI n)), some (.int (iI p)), x4] [] := by
    intro f
    induction f with
    | zero => intro p M1 x4 _ _ h; omega
    | succ f ih =>
      intro p M1 x4 hp0 hp1 hf ho1 hR
      have hX1 : vX M1 i = (vX M i) := vX_o M M1 i (fun k h1 h2 => ho1 k (by clear hR; omega))
      have hT1 : vT M1 (tI i) = (vT M (tI i)) := vT_o M M1 _ (fun k h1 h2 => ho1 k (by clear hR; omega))
      refine g_iload_n (pc := 23) G dX1_listFollowers_23 rfl ?_
      refine g_iload_n (pc := 24) G dX1_listFollowers_24 rfl ?_
      refine g_icmp_ge (pc := 25) G (by clear hR; omega) (by clear hR; omega) 79 dX1_listFollowers_25 (by decide) (fun h25 => ?_) (fun h25 => ?_)
      · -- 25 t
        rw [show (n - p).toNat = 0 by clear hR; omega, aFoF] at hR
        refine g_vret G dX1_listFollowers_79 ?_
        exact ⟨rfl, rfl, ho1, hR.symm⟩
      · -- 25 f
        rw [show (n - p).toNat = (n - (p + 1)).toNat + 1 by clear hR; omega, aFoF] at hR
        --go
        refine g_aload_n (pc := 28) G dX1_listFollowers_28 rfl ?_
        refine g_iload_n (pc := 29) G dX1_listFollowers_29 rfl ?_
        refine g_call (pc := 30) (n := 1) (As := [_]) G (kX0_characterAt hD i hi p ⟨by clear hR; omega, by clear hR; omega⟩ M1 L) gX1_listFollowers_X0_characterAt (oCopy i hi) rfl rfl hdX0_characterAt rfl rfl ⟨Nat.le_of_ble_eq_true rfl, Nat.le_of_ble_eq_true rfl⟩ rfl rfl (Nat.le_of_ble_eq_true rfl) dX1_listFollowers_30 ?_
        rintro _ _ _ ⟨rfl, rfl, rfl⟩
        rw [hX1]
        refine g_istore (pc := 33) (lv' := [_, _, _, _, _]) G dX1_listFollowers_33 (by decide) rfl ?_
        refine g_aload_n (pc := 35) G dX1_listFollowers_35 rfl ?_
        refine g_aload_n (pc := 36) G dX1_listFollowers_36 rfl ?_
        refine g_aload_n (pc := 37) G dX1_listFollowers_37 rfl ?_
        refine g_getR (pc := 38) G hinX0 (oCopy i hi) rfl 0 (by decide) f39 rfl rfl dX1_listFollowers_38 ?_
        refine g_iload (pc := 41) G dX1_listFollowers_41 rfl ?_
        refine g_call (pc := 43) (n := 1) (As := [_]) G (kX2_leftOf hD (tI i) (tI_lt i) _ (rg_at M i _) M1 L) gX1_listFollowers_X2_leftOf (oText _ (tI_lt i)) rfl rfl hdX2_leftOf rfl rfl ⟨Nat.le_of_ble_eq_true rfl, Nat.le_of_ble_eq_true rfl⟩ rfl rfl (Nat.le_of_ble_eq_true rfl) dX1_listFollowers_43 ?_
        rintro _ _ _ ⟨rfl, rfl, rfl⟩
        rw [hT1]
        refine g_call (pc := 46) (n := 1) (As := [_]) G (kX0_placeOf hD i hi _ (rg_left M _ _) M1 L) gX1_listFollowers_X0_placeOf (oCopy i hi) rfl rfl hdX0_placeOf rfl rfl ⟨Nat.le_of_ble_eq_true rfl, Nat.le_of_ble_eq_true rfl⟩ rfl rfl (Nat.le_of_ble_eq_true rfl) dX1_listFollowers_46 ?_
        rintro _ _ _ ⟨rfl, rfl, rfl⟩
        rw [hX1]
        refine g_iload_n (pc := 49) G dX1_listFollowers_49 rfl ?_
        refine g_iload_n (pc := 50) G dX1_listFollowers_50 rfl ?_
        refine g_call (pc := 51) (n := 3) (As := [_, _, _]) G (kX1_addFollower hD _ p n (rg_pl M i _) ⟨by clear hR; omega, by clear hR; omega⟩ ⟨by clear hR; omega, by clear hR; omega⟩ M1 L) gX1_listFollowers_X1_addFollower oFree rfl rfl hdX1_addFollower rfl rfl ⟨Nat.le_of_ble_eq_true rfl, Nat.le_of_ble_eq_true rfl⟩ rfl rfl (Nat.le_of_ble_eq_true rfl) dX1_listFollowers_51 ?_
        rintro _ M2 _ ⟨rfl, rfl, hM2⟩
        obtain ⟨h62, ho2⟩ := aFo_6 M1 M2 _ _ _ hM2
        clear hM2
        have hX2 : vX M2 i = (vX M i) := by rw [vX_o M1 M2 i (fun k h1 h2 => ho2 k (by clear hR; omega)), hX1]
        have hT2 : vT M2 (tI i) = (vT M (tI i)) := by rw [vT_o M1 M2 _ (fun k h1 h2 => ho2 k (by clear hR; omega)), hT1]
        refine g_aload_n (pc := 54) G dX1_listFollowers_54 rfl ?_
        refine g_iload_n (pc := 55) G dX1_listFollowers_55 rfl ?_
        refine g_aload_n (pc := 56) G dX1_listFollowers_56 rfl ?_
        refine g_aload_n (pc := 57) G dX1_listFollowers_57 rfl ?_
        refine g_getR (pc := 58) G hinX0 (oCopy i hi) rfl 0 (by decide) f39 rfl rfl dX1_listFollowers_58 ?_
        refine g_iload (pc := 61) G dX1_listFollowers_61 rfl ?_
        refine g_call (pc := 63) (n := 1) (As := [_]) G (kX2_rightOf hD (tI i) (tI_lt i) _ (rg_at M i _) M2 L) gX1_listFollowers_X2_rightOf (oText _ (tI_lt i)) rfl rfl hdX2_rightOf rfl rfl ⟨Nat.le_of_ble_eq_true rfl, Nat.le_of_ble_eq_true rfl⟩ rfl rfl (Nat.le_of_ble_eq_true rfl) dX1_listFollowers_63 ?_
        rintro _ _ _ ⟨rfl, rfl, rfl⟩
        rw [hT2]
        refine g_call (pc := 66) (n := 1) (As := [_]) G (kX0_placeOf hD i hi _ (rg_right M _ _) M2 L) gX1_listFollowers_X0_placeOf (oCopy i hi) rfl rfl hdX0_placeOf rfl rfl ⟨Nat.le_of_ble_eq_true rfl, Nat.le_of_ble_eq_true rfl⟩ rfl rfl (Nat.le_of_ble_eq_true rfl) dX1_listFollowers_66 ?_
        rintro _ _ _ ⟨rfl, rfl, rfl⟩
        rw [hX2]
        refine g_iload_n (pc := 69) G dX1_listFollowers_69 rfl ?_
        refine g_call (pc := 70) (n := 3) (As := [_, _, _]) G (kX1_addFollower hD p _ n ⟨by clear hR; omega, by clear hR; omega⟩ (rg_pl M i _) ⟨by clear hR; omega, by clear hR; omega⟩ M2 L) gX1_listFollowers_X1_addFollower oFree rfl rfl hdX1_addFollower rfl rfl ⟨Nat.le_of_ble_eq_true rfl, Nat.le_of_ble_eq_true rfl⟩ rfl rfl (Nat.le_of_ble_eq_true rfl) dX1_listFollowers_70 ?_
        rintro _ M3 _ ⟨rfl, rfl, hM3⟩
        obtain ⟨h63, ho3a⟩ := aFo_6 M2 M3 _ _ _ hM3
        clear hM3
        have ho3 : ∀ k, k ≠ 6 → M3 k = M k := fun k hk => by rw [ho3a k hk, ho2 k hk]; exact ho1 k hk
        refine g_iinc (pc := 73) (lv' := [_, _, _, _, _]) G dX1_listFollowers_73 (by decide) rfl rfl ?_
        refine g_goto (pc := 76) G 23 dX1_listFollowers_76 (by decide) ?_
        exact ih (p + 1) M3 _ (by clear hR; omega) (by clear hR; omega) (by clear hR; omega) ho3 (by rw [h63, h62]; exact hR)
  have loop1 : ∀ (f : Nat) (p : Int) (M1 : sjM), 0 ≤ p → p ≤ 12 → (12 - p).toNat < f → (∀ k, k ≠ 6 → M1 k = M k) → (M1 6 = fun z => if 0 ≤ z ∧ z < p then iI 0 else M 6 z) → J 2 M1 L [some (.ref (ad 4)), some (.ref (ad (29 + 5 * i))), some (.int (iI n)), some (.int (iI p)), none] [] := by
    intro f
    induction f with
    | zero => intro p M1 _ _ h; omega
    | succ f ih =>
      intro p M1 hp0 hp1 hf ho1 h61
      refine g_iload_n (pc := 2) G dX1_listFollowers_2 rfl ?_
      refine g_bipush (pc := 3) G dX1_listFollowers_3 rfl ?_
      refine g_icmp_ge (pc := 5) G (by first | assumption | omega) (by first | assumption | omega) 21 dX1_listFollowers_5 (by decide) (fun h5 => ?_) (fun h5 => ?_)
      · -- 5 t
        refine g_iconst (pc := 21) G dX1_listFollowers_21 ?_
        refine g_istore_n (pc := 22) (lv' := [_, _, _, _, _]) G dX1_listFollowers_22 (by decide) rfl ?_
        exact loop2 _ 0 M1 _ (by omega) (by omega) (Nat.lt_succ_self _) ho1 (by rw [Int.sub_zero, h61, show p = 12 by omega])
      · -- 5 f
        refine g_aload_n (pc := 8) G dX1_listFollowers_8 rfl ?_
        refine g_getR (pc := 9) G hinX1 oFree rfl 1 (by decide) f15 rfl rfl dX1_listFollowers_9 ?_
        refine g_iload_n (pc := 12) G dX1_listFollowers_12 rfl ?_
        refine g_iconst (pc := 13) G dX1_listFollowers_13 ?_
        refine g_iast (pc := 14) G aFoll (by omega) dX1_listFollowers_14 ?_
        refine g_mem (fun M2 L2 hM2 hL2 => ?_)
        obtain rfl : L = L2 := hL2.symm
        have h62 : M2 6 = fun z => if 0 ≤ z ∧ z < p + 1 then iI 0 else M 6 z := by
          funext z
          rw [hM2, sjU_s, h61]
          show (if z = p then iI 0 else if 0 ≤ z ∧ z < p then iI 0 else M 6 z) = _
          by_cases hz : z = p
          · rw [if_pos hz, if_pos (by omega)]
          · rw [if_neg hz]
            by_cases hc : 0 ≤ z ∧ z < p
            · rw [if_pos hc, if_pos (by omega)]
            · rw [if_neg hc, if_neg (by omega)]
        have ho2 : ∀ k, k ≠ 6 → M2 k = M k := fun k hk => by rw [hM2, sjU_o hk]; exact ho1 k hk
        clear hM2
        refine g_iinc (pc := 15) (lv' := [_, _, _, _, _]) G dX1_listFollowers_15 (by decide) rfl rfl ?_
        refine g_goto (pc := 18) G 2 dX1_listFollowers_18 (by decide) ?_
        exact ih (p + 1) M2 (by omega) (by omega) (by omega) ho2 h62
  refine g_iconst (pc := 0) G dX1_listFollowers_0 ?_
  refine g_istore_n (pc := 1) (lv' := [_, _, _, _, _]) G dX1_listFollowers_1 (by decide) rfl ?_
  exact loop1 13 0 M (by omega) (by omega) (by omega) (fun _ _ => rfl) (by funext z; rw [if_neg (by omega)])
