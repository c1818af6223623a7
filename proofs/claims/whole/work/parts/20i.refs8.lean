theorem hear_06 {T : aS} {lt : Int → Int → Prop} {w : Bool} {X : aS} {k : Int} (ht : tInv T) (ho : oOK T w lt) (h : cInv T lt X) : 0 ≤ (aHear T w X k).1 0 6 ∧ (aHear T w X k).1 0 6 ≤ 60 := by
  have hi := hear_inv (k := k) (w := w) ht ho h
  have := hi.2.2.2.1.2.2.2
  have := hi.1.2.1
  omega
set_option maxHeartbeats 4000000 in
set_option maxRecDepth 100000 in
theorem kX4_tell {l : Launch} {D : va_G} {cI cZ cJ cT cC : ClassId} {ad : Nat → Nat} {A : Nat → Prop} (hD : ∀ g : Nat → va_E, va_D A (sjW 26 ad g)) (x y k : Int) (hx : rng x) (hy : rng y) (hk : rng k) (M : sjM) (L : sjL) (Tf Xf : Int → aS) (lts : Int → Int → Int → Prop) (hA : rAll Tf Xf M) (hg : gAll Tf Xf lts) : Met l yX4_tell wsX4_tell { frames := 5, cells := 0, slots := 0, locals := 125 } (sjA D cI cZ cJ cT cC 26 ad (kR cI cZ cJ ad) [.ref (ad 0), .int (iI x), .int (iI y), .int (iI k)] M L) (sjZ D 26 ad (kR cI cZ cJ ad) A (fun v M' L' => L = L' ∧ rKeep M M' ∧ (((okTS x y ∧ 0 ≤ k ∧ k < Tf x 0 1) ∧ rAll Tf (updF Xf (5 * x + y) (aEnd (aHear (Tf x) (decide (x = 0)) (aStart (Xf (5 * x + y))) k).1)) M' ∧ v = some (.int (iI (aHear (Tf x) (decide (x = 0)) (aStart (Xf (5 * x + y))) k).2))) ∨ (¬ (okTS x y ∧ 0 ≤ k ∧ k < Tf x 0 1) ∧ rAll Tf Xf M' ∧ v = some (.int (iI (-1))))))) 0 0 A := by
  refine g_met (cc := cX4_tell) (maxL := 5) (ret := (some .int)) (lv := [_, _, _, _, _]) (by decide) rfl hD kR_loc (List.forall_mem_cons.mpr ⟨rfl, List.forall_mem_cons.mpr ⟨rfl, List.forall_mem_cons.mpr ⟨rfl, List.forall_mem_cons.mpr ⟨rfl, fun _ h => absurd h List.not_mem_nil⟩⟩⟩⟩) (Nat.le_of_ble_eq_true rfl) rfl ?_
  intro J G
  have f87 : Cond.fieldLink RX4 87 "SharedPageModel" "told" "I" ∈ wsX4_tell := by decide +kernel
  have hinX4 : ∀ w ∈ u_ws RX4 TX4 29, w ∈ wsX4_tell := fun w h => List.mem_cons_of_mem _ (List.mem_append_right _ h)
  refine g_aload_n (pc := 0) G dX4_tell_0 rfl ?_
  refine g_iconst (pc := 1) G dX4_tell_1 ?_
  refine g_put (pc := 2) G tyX4 tyX4_ok nmX4 hinX4 oModel rfl 0 (by decide) pModel0 f87 rfl rfl rfl dX4_tell_2 ?_
  refine g_mem (fun M1 L1 hM1 hL1 => ?_)
  obtain rfl : L = L1 := hL1.symm
  have hA1 : rAll Tf Xf M1 := by rw [hM1]; exact rAll_0 hA
  have hK1 : rKeep M M1 := ⟨by rw [hM1, sjU_o (by omega)], by rw [hM1, sjU_s, if_neg (by omega)]⟩
  refine g_aload_n (pc := 5) G dX4_tell_5 rfl ?_
  refine g_iload_n (pc := 6) G dX4_tell_6 rfl ?_
  refine g_call (pc := 7) (n := 1) (As := [_]) G (kX4_isText hD x hx M1 L) gX4_tell_X4_isText oModel rfl rfl hdX4_isText rfl rfl ⟨Nat.le_of_ble_eq_true rfl, Nat.le_of_ble_eq_true rfl⟩ rfl rfl (Nat.le_of_ble_eq_true rfl) dX4_tell_7 ?_
  rintro _ _ _ ⟨rfl, rfl, rfl⟩
  by_cases qx : 0 ≤ x ∧ x < 2
  · rw [if_pos qx]
    refine g_if_eq (pc := 10) G (by omega) 30 dX4_tell_10 (by decide) (fun h => absurd h (by decide)) (fun _ => ?_)
    refine g_aload_n (pc := 13) G dX4_tell_13 rfl ?_
    refine g_iload_n (pc := 14) G dX4_tell_14 rfl ?_
    refine g_call (pc := 15) (n := 1) (As := [_]) G (kX4_isSite hD y hy M1 L) gX4_tell_X4_isSite oModel rfl rfl hdX4_isSite rfl rfl ⟨Nat.le_of_ble_eq_true rfl, Nat.le_of_ble_eq_true rfl⟩ rfl rfl (Nat.le_of_ble_eq_true rfl) dX4_tell_15 ?_
    rintro _ _ _ ⟨rfl, rfl, rfl⟩
    by_cases qy : 0 ≤ y ∧ y < 5
    · rw [if_pos qy]
      refine g_if_eq (pc := 18) G (by omega) 30 dX4_tell_18 (by decide) (fun h => absurd h (by decide)) (fun _ => ?_)
      refine g_aload_n (pc := 21) G dX4_tell_21 rfl ?_
      refine g_iload_n (pc := 22) G dX4_tell_22 rfl ?_
      refine g_iload_n (pc := 23) G dX4_tell_23 rfl ?_
      refine g_call (pc := 24) (n := 2) (As := [_, _]) G (kX4_isMessage hD x qx.1 qx.2 k hk M1 L (Tf x) (hA1.1 x qx.1 qx.2) (hg.1 x qx.1 qx.2).1.1.2.2.1 (hg.1 x qx.1 qx.2).1.1.2.2.2.1) gX4_tell_X4_isMessage oModel rfl rfl hdX4_isMessage rfl rfl ⟨Nat.le_of_ble_eq_true rfl, Nat.le_of_ble_eq_true rfl⟩ rfl rfl (Nat.le_of_ble_eq_true rfl) dX4_tell_24 ?_
      rintro _ _ _ ⟨rfl, rfl, rfl⟩
      by_cases qm : 0 ≤ k ∧ k < Tf x 0 1
      · rw [if_pos qm]
        refine g_if_ne (pc := 27) G (by omega) 32 dX4_tell_27 (by decide) (fun _ => ?_) (fun h => absurd h (by decide))
        obtain ⟨hG, hO⟩ := hg.1 x qx.1 qx.2
        have hm160 := hG.1.2.2.2.1
        refine g_aload_n (pc := 32) G dX4_tell_32 rfl ?_
        refine g_call (pc := 33) (n := 0) (As := []) G (kX4_begins hD M1 L) gX4_tell_X4_begins oModel rfl rfl hdX4_begins rfl rfl ⟨Nat.le_of_ble_eq_true rfl, Nat.le_of_ble_eq_true rfl⟩ rfl rfl (Nat.le_of_ble_eq_true rfl) dX4_tell_33 ?_
        rintro _ M2 _ ⟨rfl, rfl, hb2⟩
        obtain ⟨hA2, hX2, hK2, hl1, hl2⟩ := call_begin (i := (5 * x + y)) hA1 hb2 (by omega) (by omega)
        refine g_aload_n (pc := 36) G dX4_tell_36 rfl ?_
        refine g_iconst (pc := 37) G dX4_tell_37 ?_
        refine g_iload_n (pc := 38) G dX4_tell_38 rfl ?_
        refine g_imul (pc := 39) G dX4_tell_39 ?_
        refine g_iload_n (pc := 40) G dX4_tell_40 rfl ?_
        refine g_iadd (pc := 41) G dX4_tell_41 ?_
        refine g_iload_n (pc := 42) G dX4_tell_42 rfl ?_
        refine g_iload_n (pc := 43) G dX4_tell_43 rfl ?_
        refine g_call (pc := 44) (n := 3) (As := [_, _, _]) G (kX4_hears hD (5 * x + y) (by omega) (by omega) x qx.1 qx.2 k M2 L (Tf x) (aStart (Xf (5 * x + y))) (lts x) hX2 (start_inv (hg.2 x y qx.1 qx.2 qy.1 qy.2).1) (hA2.1 x qx.1 qx.2) hG hO ⟨qm.1, qm.2, by omega⟩) gX4_tell_X4_hears oModel rfl rfl hdX4_hears rfl rfl ⟨Nat.le_of_ble_eq_true rfl, Nat.le_of_ble_eq_true rfl⟩ rfl rfl (Nat.le_of_ble_eq_true rfl) dX4_tell_44 ?_
        rintro _ M3 _ ⟨rfl, ho3, hX3, hlk, rfl⟩
        obtain ⟨h5, h6⟩ := lk_start hl1 hl2 hlk
        refine g_istore (pc := 47) (lv' := [_, _, _, _, _]) G dX4_tell_47 (by decide) rfl ?_
        refine g_aload_n (pc := 49) G dX4_tell_49 rfl ?_
        refine g_iconst (pc := 50) G dX4_tell_50 ?_
        refine g_iload_n (pc := 51) G dX4_tell_51 rfl ?_
        refine g_imul (pc := 52) G dX4_tell_52 ?_
        refine g_iload_n (pc := 53) G dX4_tell_53 rfl ?_
        refine g_iadd (pc := 54) G dX4_tell_54 ?_
        refine g_call (pc := 55) (n := 1) (As := [_]) G (kX4_ends hD (5 * x + y) (by omega) (by omega) M3 L) gX4_tell_X4_ends oModel rfl rfl hdX4_ends rfl rfl ⟨Nat.le_of_ble_eq_true rfl, Nat.le_of_ble_eq_true rfl⟩ rfl rfl (Nat.le_of_ble_eq_true rfl) dX4_tell_55 ?_
        rintro _ M4 _ ⟨rfl, rfl, he4⟩
        refine g_iload (pc := 58) G dX4_tell_58 rfl ?_
        refine g_iret (pc := 60) G dX4_tell_60 ?_
        obtain ⟨hA4, hK4⟩ := call_end hA2 ho3 (by omega) (by omega) hX3 (by rw [hear_04]; exact (start_05 _).2.2) h5 h6 (hear_06 hG.1 (gO_o hG.1.2.2.2.2.1 hO) (start_inv (hg.2 x y qx.1 qx.2 qy.1 qy.2).1)) (fun j h0 h1 => gAll_60 hg h0 h1) he4
        refine ⟨rfl, ⟨hK4.1.trans (hK2.1.trans hK1.1), hK4.2.trans (hK2.2.trans hK1.2)⟩, Or.inl ⟨⟨⟨qx.1, qx.2, qy.1, qy.2⟩, qm⟩, hA4, rfl⟩⟩
      · rw [if_neg qm]
        refine g_if_ne (pc := 27) G (by omega) 32 dX4_tell_27 (by decide) (fun h => absurd h (by decide)) (fun _ => ?_)
        refine g_iconst (pc := 30) G dX4_tell_30 ?_
        refine g_iret (pc := 31) G dX4_tell_31 ?_
        refine ⟨rfl, hK1, Or.inr ⟨?_, hA1, rfl⟩⟩
        intro w
        first
        | exact qx ⟨w.1.1, w.1.2.1⟩
        | exact qy ⟨w.1.2.2.1, w.1.2.2.2⟩
        | exact qm w.2
    · rw [if_neg qy]
      refine g_if_eq (pc := 18) G (by omega) 30 dX4_tell_18 (by decide) (fun _ => ?_) (fun h => absurd h (by decide))
      refine g_iconst (pc := 30) G dX4_tell_30 ?_
      refine g_iret (pc := 31) G dX4_tell_31 ?_
      refine ⟨rfl, hK1, Or.inr ⟨?_, hA1, rfl⟩⟩
      intro w
      first
      | exact qx ⟨w.1.1, w.1.2.1⟩
      | exact qy ⟨w.1.2.2.1, w.1.2.2.2⟩
      | exact qm w.2
  · rw [if_neg qx]
    refine g_if_eq (pc := 10) G (by omega) 30 dX4_tell_10 (by decide) (fun _ => ?_) (fun h => absurd h (by decide))
    refine g_iconst (pc := 30) G dX4_tell_30 ?_
    refine g_iret (pc := 31) G dX4_tell_31 ?_
    refine ⟨rfl, hK1, Or.inr ⟨?_, hA1, rfl⟩⟩
    intro w
    first
    | exact qx ⟨w.1.1, w.1.2.1⟩
    | exact qy ⟨w.1.2.2.1, w.1.2.2.2⟩
    | exact qm w.2
set_option maxHeartbeats 4000000 in
set_option maxRecDepth 100000 in
theorem kX4_share {l : Launch} {D : va_G} {cI cZ cJ cT cC : ClassId} {ad : Nat → Nat} {A : Nat → Prop} (hD : ∀ g : Nat → va_E, va_D A (sjW 26 ad g)) (x a b dn : Int) (hx : rng x) (ha : rng a) (hb : rng b) (hdn : rng dn) (M : sjM) (L : sjL) (Tf Xf : Int → aS) (lts : Int → Int → Int → Prop) (hA : rAll Tf Xf M) (hg : gAll Tf Xf lts) : Met l yX4_share wsX4_share { frames := 5, cells := 0, slots := 0, locals := 125 } (sjA D cI cZ cJ cT cC 26 ad (kR cI cZ cJ ad) [.ref (ad 0), .int (iI x), .int (iI a), .int (iI b), .int (iI dn)] M L) (sjZ D 26 ad (kR cI cZ cJ ad) A (fun v M' L' => L = L' ∧ rKeep M M' ∧ (((okTS x a ∧ okTS x b) ∧ rAll Tf (updF Xf (5 * x + b) (aEnd (aShF (Tf x) (decide (x = 0)) (decide (¬ dn = 0)) (decide (a = b)) (Xf (5 * x + a)) (Tf x 0 1).toNat 0 (aStart (Xf (5 * x + b))) 0).1)) M' ∧ v = some (.int (iI (aShF (Tf x) (decide (x = 0)) (decide (¬ dn = 0)) (decide (a = b)) (Xf (5 * x + a)) (Tf x 0 1).toNat 0 (aStart (Xf (5 * x + b))) 0).2))) ∨ (¬ (okTS x a ∧ okTS x b) ∧ rAll Tf Xf M' ∧ v = some (.int (iI (-1))))))) 0 0 A := by
  refine g_met (cc := cX4_share) (maxL := 9) (ret := (some .int)) (lv := [_, _, _, _, _, _, _, _, _]) (by decide) rfl hD kR_loc (List.forall_mem_cons.mpr ⟨rfl, List.forall_mem_cons.mpr ⟨rfl, List.forall_mem_cons.mpr ⟨rfl, List.forall_mem_cons.mpr ⟨rfl, List.forall_mem_cons.mpr ⟨rfl, fun _ h => absurd h List.not_mem_nil⟩⟩⟩⟩⟩) (Nat.le_of_ble_eq_true rfl) rfl ?_
  intro J G
  have f31 : Cond.fieldLink RX4 31 "SharedPageModel" "messages" "[I" ∈ wsX4_share := by decide +kernel
  have f59 : Cond.fieldLink RX4 59 "SharedPageModel" "state" "[I" ∈ wsX4_share := by decide +kernel
  have f87 : Cond.fieldLink RX4 87 "SharedPageModel" "told" "I" ∈ wsX4_share := by decide +kernel
  have hinX4 : ∀ w ∈ u_ws RX4 TX4 29, w ∈ wsX4_share := fun w h => List.mem_cons_of_mem _ (List.mem_append_right _ h)
  refine g_aload_n (pc := 0) G dX4_share_0 rfl ?_
  refine g_iconst (pc := 1) G dX4_share_1 ?_
  refine g_put (pc := 2) G tyX4 tyX4_ok nmX4 hinX4 oModel rfl 0 (by decide) pModel0 f87 rfl rfl rfl dX4_share_2 ?_
  refine g_mem (fun M1 L1 hM1 hL1 => ?_)
  obtain rfl : L = L1 := hL1.symm
  have hA1 : rAll Tf Xf M1 := by rw [hM1]; exact rAll_0 hA
  have hK1 : rKeep M M1 := ⟨by rw [hM1, sjU_o (by omega)], by rw [hM1, sjU_s, if_neg (by omega)]⟩
  refine g_aload_n (pc := 5) G dX4_share_5 rfl ?_
  refine g_iload_n (pc := 6) G dX4_share_6 rfl ?_
  refine g_call (pc := 7) (n := 1) (As := [_]) G (kX4_isText hD x hx M1 L) gX4_share_X4_isText oModel rfl rfl hdX4_isText rfl rfl ⟨Nat.le_of_ble_eq_true rfl, Nat.le_of_ble_eq_true rfl⟩ rfl rfl (Nat.le_of_ble_eq_true rfl) dX4_share_7 ?_
  rintro _ _ _ ⟨rfl, rfl, rfl⟩
  by_cases qx : 0 ≤ x ∧ x < 2
  · rw [if_pos qx]
    refine g_if_eq (pc := 10) G (by omega) 29 dX4_share_10 (by decide) (fun h => absurd h (by decide)) (fun _ => ?_)
    refine g_aload_n (pc := 13) G dX4_share_13 rfl ?_
    refine g_iload_n (pc := 14) G dX4_share_14 rfl ?_
    refine g_call (pc := 15) (n := 1) (As := [_]) G (kX4_isSite hD a ha M1 L) gX4_share_X4_isSite oModel rfl rfl hdX4_isSite rfl rfl ⟨Nat.le_of_ble_eq_true rfl, Nat.le_of_ble_eq_true rfl⟩ rfl rfl (Nat.le_of_ble_eq_true rfl) dX4_share_15 ?_
    rintro _ _ _ ⟨rfl, rfl, rfl⟩
    by_cases qa : 0 ≤ a ∧ a < 5
    · rw [if_pos qa]
      refine g_if_eq (pc := 18) G (by omega) 29 dX4_share_18 (by decide) (fun h => absurd h (by decide)) (fun _ => ?_)
      refine g_aload_n (pc := 21) G dX4_share_21 rfl ?_
      refine g_iload_n (pc := 22) G dX4_share_22 rfl ?_
      refine g_call (pc := 23) (n := 1) (As := [_]) G (kX4_isSite hD b hb M1 L) gX4_share_X4_isSite oModel rfl rfl hdX4_isSite rfl rfl ⟨Nat.le_of_ble_eq_true rfl, Nat.le_of_ble_eq_true rfl⟩ rfl rfl (Nat.le_of_ble_eq_true rfl) dX4_share_23 ?_
      rintro _ _ _ ⟨rfl, rfl, rfl⟩
      by_cases qb : 0 ≤ b ∧ b < 5
      · rw [if_pos qb]
        refine g_if_ne (pc := 26) G (by omega) 31 dX4_share_26 (by decide) (fun _ => ?_) (fun h => absurd h (by decide))
        refine g_iconst (pc := 31) G dX4_share_31 ?_
        refine g_iload_n (pc := 32) G dX4_share_32 rfl ?_
        refine g_imul (pc := 33) G dX4_share_33 ?_
        refine g_iload_n (pc := 34) G dX4_share_34 rfl ?_
        refine g_iadd (pc := 35) G dX4_share_35 ?_
        refine g_istore (pc := 36) (lv' := [_, _, _, _, _, _, _, _, _]) G dX4_share_36 (by decide) rfl ?_
        refine g_iconst (pc := 38) G dX4_share_38 ?_
        refine g_istore (pc := 39) (lv' := [_, _, _, _, _, _, _, _, _]) G dX4_share_39 (by decide) rfl ?_
        refine g_aload_n (pc := 41) G dX4_share_41 rfl ?_
        refine g_call (pc := 42) (n := 0) (As := []) G (kX4_begins hD M1 L) gX4_share_X4_begins oModel rfl rfl hdX4_begins rfl rfl ⟨Nat.le_of_ble_eq_true rfl, Nat.le_of_ble_eq_true rfl⟩ rfl rfl (Nat.le_of_ble_eq_true rfl) dX4_share_42 ?_
        rintro _ M2 _ ⟨rfl, rfl, hb2⟩
        obtain ⟨hA2, hX2, hK2, hl1, hl2⟩ := call_begin (i := (5 * x + b)) hA1 hb2 (by omega) (by omega)
        refine g_iconst (pc := 45) G dX4_share_45 ?_
        refine g_istore (pc := 46) (lv' := [_, _, _, _, _, _, _, _, _]) G dX4_share_46 (by decide) rfl ?_
        obtain ⟨hG, hO⟩ := hg.1 x qx.1 qx.2
        have hm0 := hG.1.2.2.1
        have hm160 := hG.1.2.2.2.1
        have loop : ∀ (f : Nat) (p n : Int) (Y : aS) (M1 : sjM) (x8 : Option Value), 0 ≤ p → p ≤ Tf x 0 1 → (Tf x 0 1 - p).toNat < f → rX Y M1 (5 * x + b) → cInv (Tf x) (lts x) Y → Y 0 4 = Xf (5 * x + b) 0 4 → rLk M2 (aStart (Xf (5 * x + b))) M1 Y → onR M2 M1 (5 * x + b) → aShF (Tf x) (decide (x = 0)) (decide (¬ dn = 0)) (decide (a = b)) (Xf (5 * x + a)) (Tf x 0 1 - p).toNat p Y n = (aShF (Tf x) (decide (x = 0)) (decide (¬ dn = 0)) (decide (a = b)) (Xf (5 * x + a)) (Tf x 0 1).toNat 0 (aStart (Xf (5 * x + b))) 0) → J 48 M1 L [some (.ref (ad 0)), some (.int (iI x)), some (.int (iI a)), some (.int (iI b)), some (.int (iI dn)), some (.int (iI (5 * x + b))), some (.int (iI n)), some (.int (iI p)), x8] [] := by
          intro f
          induction f with
          | zero => intro p n Y M1 x8 _ _ h; omega
          | succ f ih =>
            intro p n Y M1 x8 hp0 hp1 hf hY1 hIY h4 hlk ho1 hR
            refine g_iload (pc := 48) G dX4_share_48 rfl ?_
            refine g_aload_n (pc := 50) G dX4_share_50 rfl ?_
            refine g_getR (pc := 51) G hinX4 oModel rfl 8 (by decide) f31 rfl rfl dX4_share_51 ?_
            refine g_iload_n (pc := 54) G dX4_share_54 rfl ?_
            refine g_iald (pc := 55) G rMsgs (by omega) dX4_share_55 ?_
            refine g_top (ld ((rT_of (hA2.1 x qx.1 qx.2) ho1.1).1.2.1)) ?_
            refine g_icmp_ge (pc := 56) G (by clear hR; omega) (by clear hR; omega) 123 dX4_share_56 (by decide) (fun h56 => ?_) (fun h56 => ?_)
            · -- 56 t
              rw [show (Tf x 0 1 - p).toNat = 0 by clear hR; omega, aShF] at hR
              --go
              refine g_aload_n (pc := 123) G dX4_share_123 rfl ?_
              refine g_iload (pc := 124) G dX4_share_124 rfl ?_
              refine g_call (pc := 126) (n := 1) (As := [_]) G (kX4_ends hD (5 * x + b) (by omega) (by omega) M1 L) gX4_share_X4_ends oModel rfl rfl hdX4_ends rfl rfl ⟨Nat.le_of_ble_eq_true rfl, Nat.le_of_ble_eq_true rfl⟩ rfl rfl (Nat.le_of_ble_eq_true rfl) dX4_share_126 ?_
              rintro _ M4 _ ⟨rfl, rfl, he4⟩
              refine g_iload (pc := 129) G dX4_share_129 rfl ?_
              refine g_iret (pc := 131) G dX4_share_131 ?_
              have hR1 : Y = (aShF (Tf x) (decide (x = 0)) (decide (¬ dn = 0)) (decide (a = b)) (Xf (5 * x + a)) (Tf x 0 1).toNat 0 (aStart (Xf (5 * x + b))) 0).1 := by rw [← hR]
              have hR2 : n = (aShF (Tf x) (decide (x = 0)) (decide (¬ dn = 0)) (decide (a = b)) (Xf (5 * x + a)) (Tf x 0 1).toNat 0 (aStart (Xf (5 * x + b))) 0).2 := by rw [← hR]
              rw [hR1] at hY1 h4 hlk hIY
              obtain ⟨h5, h6⟩ := lk_start hl1 hl2 hlk
              have hcnt := hIY.2.2.2.1.2.2.2
              have hcl := hIY.1.2.1
              obtain ⟨hA4, hK4⟩ := call_end hA2 ho1 (by omega) (by omega) hY1 h4 h5 h6 (by omega) (fun j h0 h1 => gAll_60 hg h0 h1) he4
              refine ⟨rfl, ⟨hK4.1.trans (hK2.1.trans hK1.1), hK4.2.trans (hK2.2.trans hK1.2)⟩, Or.inl ⟨⟨⟨qx.1, qx.2, qa.1, qa.2⟩, qx.1, qx.2, qb.1, qb.2⟩, hA4, by rw [hR2]⟩⟩
            · -- 56 f
              rw [show (Tf x 0 1 - p).toNat = (Tf x 0 1 - (p + 1)).toNat + 1 by clear hR; omega, aShF] at hR
              --go
              refine g_iload (pc := 59) G dX4_share_59 rfl ?_
              refine g_if_eq (pc := 61) G hdn 78 dX4_share_61 (by decide) (fun h61 => ?_) (fun h61 => ?_)
              · -- 61 t
                obtain ⟨kk, hkk⟩ : ∃ kk : Int, kk = p := ⟨_, rfl⟩
                have hidx : (if decide (¬ dn = 0) = true then Tf x 0 1 - 1 - p else p) = kk := by rw [hkk, if_neg (by simp [h61])]
                rw [hidx] at hR
                have hk0 : 0 ≤ kk := by clear hR; omega
                have hk1 : kk < Tf x 0 1 := by clear hR; omega
                have hst3 : aSt (if decide (a = b) = true then Y else Xf (5 * x + a)) kk = 0 ∨ aSt (if decide (a = b) = true then Y else Xf (5 * x + a)) kk = 1 ∨ aSt (if decide (a = b) = true then Y else Xf (5 * x + a)) kk = 2 := by
                  unfold aSt
                  rw [if_pos ⟨hk0, by clear hR; omega⟩]
                  split
                  · exact hIY.2.2.1.1 kk hk0 (by clear hR; omega)
                  · exact (hg.2 x a qx.1 qx.2 qa.1 qa.2).1.2.2.1.1 kk hk0 (by clear hR; omega)
                have hstv : M1 17 (160 * (5 * x + a) + kk) = iI (aSt (if decide (a = b) = true then Y else Xf (5 * x + a)) kk) := by
                  unfold aSt
                  rw [if_pos ⟨hk0, by clear hR; omega⟩]
                  by_cases hab : a = b
                  · rw [if_pos (by simp [hab]), hab]
                    exact hY1.2.2.2 kk hk0 (by clear hR; omega)
                  · rw [if_neg (by simp [hab]), ho1.2.2.2.2 _ (by clear hR; omega)]
                    exact (hA2.2 (5 * x + a) (by omega) (by omega)).1.2.2.2 kk hk0 (by clear hR; omega)
                --go
                refine g_iload (pc := 78) G dX4_share_78 rfl ?_
                refine g_top (show iI p = iI kk by rw [hkk]) ?_
                refine g_istore (pc := 80) (lv' := [_, _, _, _, _, _, _, _, _]) G dX4_share_80 (by decide) rfl ?_
                refine g_aload_n (pc := 82) G dX4_share_82 rfl ?_
                refine g_getR (pc := 83) G hinX4 oModel rfl 17 (by decide) f59 rfl rfl dX4_share_83 ?_
                refine g_sipush (pc := 86) G dX4_share_86 rfl ?_
                refine g_iconst (pc := 89) G dX4_share_89 ?_
                refine g_iload_n (pc := 90) G dX4_share_90 rfl ?_
                refine g_imul (pc := 91) G dX4_share_91 ?_
                refine g_iload_n (pc := 92) G dX4_share_92 rfl ?_
                refine g_iadd (pc := 93) G dX4_share_93 ?_
                refine g_imul (pc := 94) G dX4_share_94 ?_
                refine g_iload (pc := 95) G dX4_share_95 rfl ?_
                refine g_iadd (pc := 97) G dX4_share_97 ?_
                refine g_iald (pc := 98) G rState (by omega) dX4_share_98 ?_
                refine g_top (ld (hstv)) ?_
                refine g_iconst (pc := 99) G dX4_share_99 ?_
                refine g_icmp_ne (pc := 100) G (by rcases hst3 with q | q | q <;> omega) (by first | assumption | omega) 117 dX4_share_100 (by decide) (fun h100 => ?_) (fun h100 => ?_)
                · -- 100 t
                  rw [if_neg (fun w => h100 w)] at hR
                  --go
                  refine g_iinc (pc := 117) (lv' := [_, _, _, _, _, _, _, _, _]) G dX4_share_117 (by decide) rfl rfl ?_
                  refine g_goto (pc := 120) G 48 dX4_share_120 (by decide) ?_
                  exact ih (p + 1) n Y M1 _ (by clear hR; omega) (by clear hR; omega) (by clear hR; omega) hY1 hIY h4 hlk ho1 hR
                · -- 100 f
                  rw [if_pos h100] at hR
                  --go
                  refine g_iload (pc := 103) G dX4_share_103 rfl ?_
                  refine g_aload_n (pc := 105) G dX4_share_105 rfl ?_
                  refine g_iload (pc := 106) G dX4_share_106 rfl ?_
                  refine g_iload_n (pc := 108) G dX4_share_108 rfl ?_
                  refine g_iload (pc := 109) G dX4_share_109 rfl ?_
                  refine g_call (pc := 111) (n := 3) (As := [_, _, _]) G (kX4_hears hD (5 * x + b) (by omega) (by omega) x qx.1 qx.2 kk M1 L (Tf x) Y (lts x) hY1 hIY (rT_of (hA2.1 x qx.1 qx.2) ho1.1) hG hO ⟨hk0, hk1, by omega⟩) gX4_share_X4_hears oModel rfl rfl hdX4_hears rfl rfl ⟨Nat.le_of_ble_eq_true rfl, Nat.le_of_ble_eq_true rfl⟩ rfl rfl (Nat.le_of_ble_eq_true rfl) dX4_share_111 ?_
                  rintro _ M3 _ ⟨rfl, ho3, hX3, hlk3, rfl⟩
                  refine g_iadd (pc := 114) G dX4_share_114 ?_
                  refine g_istore (pc := 115) (lv' := [_, _, _, _, _, _, _, _, _]) G dX4_share_115 (by decide) rfl ?_
                  refine g_iinc (pc := 117) (lv' := [_, _, _, _, _, _, _, _, _]) G dX4_share_117 (by decide) rfl rfl ?_
                  refine g_goto (pc := 120) G 48 dX4_share_120 (by decide) ?_
                  exact ih (p + 1) _ _ M3 _ (by clear hR; omega) (by clear hR; omega) (by clear hR; omega) hX3 (hear_inv hG.1 (gO_o hG.1.2.2.2.2.1 hO) hIY) (by rw [hear_04]; exact h4) (rLk_tr hlk hlk3) (onR_tr ho1 ho3) hR
              · -- 61 f
                obtain ⟨kk, hkk⟩ : ∃ kk : Int, kk = Tf x 0 1 - 1 - p := ⟨_, rfl⟩
                have hidx : (if decide (¬ dn = 0) = true then Tf x 0 1 - 1 - p else p) = kk := by rw [hkk, if_pos (by simp [h61])]
                rw [hidx] at hR
                have hk0 : 0 ≤ kk := by clear hR; omega
                have hk1 : kk < Tf x 0 1 := by clear hR; omega
                have hst3 : aSt (if decide (a = b) = true then Y else Xf (5 * x + a)) kk = 0 ∨ aSt (if decide (a = b) = true then Y else Xf (5 * x + a)) kk = 1 ∨ aSt (if decide (a = b) = true then Y else Xf (5 * x + a)) kk = 2 := by
                  unfold aSt
                  rw [if_pos ⟨hk0, by clear hR; omega⟩]
                  split
                  · exact hIY.2.2.1.1 kk hk0 (by clear hR; omega)
                  · exact (hg.2 x a qx.1 qx.2 qa.1 qa.2).1.2.2.1.1 kk hk0 (by clear hR; omega)
                have hstv : M1 17 (160 * (5 * x + a) + kk) = iI (aSt (if decide (a = b) = true then Y else Xf (5 * x + a)) kk) := by
                  unfold aSt
                  rw [if_pos ⟨hk0, by clear hR; omega⟩]
                  by_cases hab : a = b
                  · rw [if_pos (by simp [hab]), hab]
                    exact hY1.2.2.2 kk hk0 (by clear hR; omega)
                  · rw [if_neg (by simp [hab]), ho1.2.2.2.2 _ (by clear hR; omega)]
                    exact (hA2.2 (5 * x + a) (by omega) (by omega)).1.2.2.2 kk hk0 (by clear hR; omega)
                --go
                refine g_aload_n (pc := 64) G dX4_share_64 rfl ?_
                refine g_getR (pc := 65) G hinX4 oModel rfl 8 (by decide) f31 rfl rfl dX4_share_65 ?_
                refine g_iload_n (pc := 68) G dX4_share_68 rfl ?_
                refine g_iald (pc := 69) G rMsgs (by omega) dX4_share_69 ?_
                refine g_top (ld ((rT_of (hA2.1 x qx.1 qx.2) ho1.1).1.2.1)) ?_
                refine g_iconst (pc := 70) G dX4_share_70 ?_
                refine g_isub (pc := 71) G dX4_share_71 ?_
                refine g_iload (pc := 72) G dX4_share_72 rfl ?_
                refine g_isub (pc := 74) G dX4_share_74 ?_
                refine g_top (show iI (Tf x 0 1 - 1 - p) = iI kk by rw [hkk]) ?_
                refine g_goto (pc := 75) G 80 dX4_share_75 (by decide) ?_
                refine g_istore (pc := 80) (lv' := [_, _, _, _, _, _, _, _, _]) G dX4_share_80 (by decide) rfl ?_
                refine g_aload_n (pc := 82) G dX4_share_82 rfl ?_
                refine g_getR (pc := 83) G hinX4 oModel rfl 17 (by decide) f59 rfl rfl dX4_share_83 ?_
                refine g_sipush (pc := 86) G dX4_share_86 rfl ?_
                refine g_iconst (pc := 89) G dX4_share_89 ?_
                refine g_iload_n (pc := 90) G dX4_share_90 rfl ?_
                refine g_imul (pc := 91) G dX4_share_91 ?_
                refine g_iload_n (pc := 92) G dX4_share_92 rfl ?_
                refine g_iadd (pc := 93) G dX4_share_93 ?_
                refine g_imul (pc := 94) G dX4_share_94 ?_
                refine g_iload (pc := 95) G dX4_share_95 rfl ?_
                refine g_iadd (pc := 97) G dX4_share_97 ?_
                refine g_iald (pc := 98) G rState (by omega) dX4_share_98 ?_
                refine g_top (ld (hstv)) ?_
                refine g_iconst (pc := 99) G dX4_share_99 ?_
                refine g_icmp_ne (pc := 100) G (by rcases hst3 with q | q | q <;> omega) (by first | assumption | omega) 117 dX4_share_100 (by decide) (fun h100 => ?_) (fun h100 => ?_)
                · -- 100 t
                  rw [if_neg (fun w => h100 w)] at hR
                  --go
                  refine g_iinc (pc := 117) (lv' := [_, _, _, _, _, _, _, _, _]) G dX4_share_117 (by decide) rfl rfl ?_
                  refine g_goto (pc := 120) G 48 dX4_share_120 (by decide) ?_
                  exact ih (p + 1) n Y M1 _ (by clear hR; omega) (by clear hR; omega) (by clear hR; omega) hY1 hIY h4 hlk ho1 hR
                · -- 100 f
                  rw [if_pos h100] at hR
                  --go
                  refine g_iload (pc := 103) G dX4_share_103 rfl ?_
                  refine g_aload_n (pc := 105) G dX4_share_105 rfl ?_
                  refine g_iload (pc := 106) G dX4_share_106 rfl ?_
                  refine g_iload_n (pc := 108) G dX4_share_108 rfl ?_
                  refine g_iload (pc := 109) G dX4_share_109 rfl ?_
                  refine g_call (pc := 111) (n := 3) (As := [_, _, _]) G (kX4_hears hD (5 * x + b) (by omega) (by omega) x qx.1 qx.2 kk M1 L (Tf x) Y (lts x) hY1 hIY (rT_of (hA2.1 x qx.1 qx.2) ho1.1) hG hO ⟨hk0, hk1, by omega⟩) gX4_share_X4_hears oModel rfl rfl hdX4_hears rfl rfl ⟨Nat.le_of_ble_eq_true rfl, Nat.le_of_ble_eq_true rfl⟩ rfl rfl (Nat.le_of_ble_eq_true rfl) dX4_share_111 ?_
                  rintro _ M3 _ ⟨rfl, ho3, hX3, hlk3, rfl⟩
                  refine g_iadd (pc := 114) G dX4_share_114 ?_
                  refine g_istore (pc := 115) (lv' := [_, _, _, _, _, _, _, _, _]) G dX4_share_115 (by decide) rfl ?_
                  refine g_iinc (pc := 117) (lv' := [_, _, _, _, _, _, _, _, _]) G dX4_share_117 (by decide) rfl rfl ?_
                  refine g_goto (pc := 120) G 48 dX4_share_120 (by decide) ?_
                  exact ih (p + 1) _ _ M3 _ (by clear hR; omega) (by clear hR; omega) (by clear hR; omega) hX3 (hear_inv hG.1 (gO_o hG.1.2.2.2.2.1 hO) hIY) (by rw [hear_04]; exact h4) (rLk_tr hlk hlk3) (onR_tr ho1 ho3) hR
        exact loop _ 0 0 _ M2 _ (by omega) (by omega) (Nat.lt_succ_self _) hX2 (start_inv (hg.2 x b qx.1 qx.2 qb.1 qb.2).1) (start_05 _).2.2 ⟨rfl, rfl⟩ (onR_rf _ _) (by rw [Int.sub_zero])
      · rw [if_neg qb]
        refine g_if_ne (pc := 26) G (by omega) 31 dX4_share_26 (by decide) (fun h => absurd h (by decide)) (fun _ => ?_)
        refine g_iconst (pc := 29) G dX4_share_29 ?_
        refine g_iret (pc := 30) G dX4_share_30 ?_
        refine ⟨rfl, hK1, Or.inr ⟨?_, hA1, rfl⟩⟩
        intro w
        first
        | exact qx ⟨w.1.1, w.1.2.1⟩
        | exact qa ⟨w.1.2.2.1, w.1.2.2.2⟩
        | exact qb ⟨w.2.2.2.1, w.2.2.2.2⟩
    · rw [if_neg qa]
      refine g_if_eq (pc := 18) G (by omega) 29 dX4_share_18 (by decide) (fun _ => ?_) (fun h => absurd h (by decide))
      refine g_iconst (pc := 29) G dX4_share_29 ?_
      refine g_iret (pc := 30) G dX4_share_30 ?_
      refine ⟨rfl, hK1, Or.inr ⟨?_, hA1, rfl⟩⟩
      intro w
      first
      | exact qx ⟨w.1.1, w.1.2.1⟩
      | exact qa ⟨w.1.2.2.1, w.1.2.2.2⟩
      | exact qb ⟨w.2.2.2.1, w.2.2.2.2⟩
  · rw [if_neg qx]
    refine g_if_eq (pc := 10) G (by omega) 29 dX4_share_10 (by decide) (fun _ => ?_) (fun h => absurd h (by decide))
    refine g_iconst (pc := 29) G dX4_share_29 ?_
    refine g_iret (pc := 30) G dX4_share_30 ?_
    refine ⟨rfl, hK1, Or.inr ⟨?_, hA1, rfl⟩⟩
    intro w
    first
    | exact qx ⟨w.1.1, w.1.2.1⟩
    | exact qa ⟨w.1.2.2.1, w.1.2.2.2⟩
    | exact qb ⟨w.2.2.2.1, w.2.2.2.2⟩
