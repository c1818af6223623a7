/-! all texts and copies at once -/
def updF (Xf : Int → aS) (i : Int) (Y : aS) : Int → aS := fun j => if j = i then Y else Xf j
def rAll (Tf Xf : Int → aS) (M : sjM) : Prop := (∀ t, 0 ≤ t → t < 2 → rT (Tf t) M t) ∧ ∀ i, 0 ≤ i → i < 10 → rX (Xf i) M i ∧ M 18 i = iI (Xf i 0 4)
def rKeep (M M' : sjM) : Prop := M' 19 = M 19 ∧ M' 0 3 = M 0 3
def gAll (Tf Xf : Int → aS) (lts : Int → Int → Int → Prop) : Prop := (∀ t, 0 ≤ t → t < 2 → gT (Tf t) ∧ gO (Tf t) (decide (t = 0)) (lts t)) ∧ ∀ t s, 0 ≤ t → t < 2 → 0 ≤ s → s < 5 → cInv (Tf t) (lts t) (Xf (5 * t + s)) ∧ gOwn (Tf t) (Xf (5 * t + s)) s ∧ gSet (Tf t) (Xf (5 * t + s))
theorem rAll_of {Tf Xf : Int → aS} {M M' : sjM} (h : rAll Tf Xf M) (hk : ∀ k, 1 ≤ k → k ≤ 18 → M' k = M k) : rAll Tf Xf M' :=
  ⟨fun t h0 h1 => rT_of (h.1 t h0 h1) (fun k a b => hk k a (by omega)), fun i h0 h1 => ⟨rX_of (h.2 i h0 h1).1 (fun k a b => hk k (by omega) (by omega)), by rw [hk 18 (by omega) (by omega)]; exact (h.2 i h0 h1).2⟩⟩
theorem rAll_0 {Tf Xf : Int → aS} {M : sjM} {z : Int} {x : Int32} (h : rAll Tf Xf M) : rAll Tf Xf (sjU M 0 z x) := rAll_of h (fun k a b => sjU_o (by omega))
theorem gAll_60 {Tf Xf : Int → aS} {lts : Int → Int → Int → Prop} (h : gAll Tf Xf lts) {i : Int} (h0 : 0 ≤ i) (h1 : i < 10) : Xf i 0 0 ≤ 60 := by
  have := (h.2 (i / 5) (i % 5) (by omega) (by omega) (by omega) (by omega)).1.1.2.1
  rw [show 5 * (i / 5) + i % 5 = i by omega] at this
  exact this
theorem rAll_on {Tf Xf : Int → aS} {M M' : sjM} {i : Int} {Y : aS} (h : rAll Tf Xf M) (ho : onR M M' i) (hi0 : 0 ≤ i) (hi1 : i < 10) (hY : rX Y M' i) (h4 : Y 0 4 = Xf i 0 4) (hl : ∀ j, 0 ≤ j → j < 10 → Xf j 0 0 ≤ 60) : rAll Tf (updF Xf i Y) M' := by
  refine ⟨fun t h0 h1 => rT_of (h.1 t h0 h1) ho.1, fun j h0 h1 => ?_⟩
  show rX (if j = i then Y else Xf j) M' j ∧ M' 18 j = iI ((if j = i then Y else Xf j) 0 4)
  rw [ho.2.1.1]
  by_cases hj : j = i
  · rw [if_pos hj, hj, h4]
    exact ⟨hY, (h.2 i hi0 hi1).2⟩
  · rw [if_neg hj]
    exact ⟨rX_on (h.2 j h0 h1).1 ho hj (hl j h0 h1), (h.2 j h0 h1).2⟩
theorem updF_s (Xf : Int → aS) (i : Int) (Y Z : aS) : updF (updF Xf i Y) i Z = updF Xf i Z := by
  funext j; unfold updF; split <;> rfl
theorem updF_i (Xf : Int → aS) (i : Int) (Y : aS) : updF Xf i Y i = Y := if_pos rfl
theorem i32_s {a b : Int32} (h : a - b = iI 0 - iI 0) : a = b := by
  rw [Int32.sub_self] at h
  have h2 : a - b + b = 0 + b := by rw [h]
  rw [Int32.sub_add_cancel, Int32.zero_add] at h2
  exact h2
theorem hear_04 {T : aS} {w : Bool} {X : aS} {k : Int} : (aHear T w X k).1 0 4 = X 0 4 := by
  have hd : ∀ (Y : aS) (j : Int), aDo T w Y j 0 4 = Y 0 4 := by
    intro Y j
    unfold aDo
    split
    · rw [strike_0 (by omega), aMk_0, if_neg (by omega)]
    · rw [aIns_0, if_neg (by omega), if_neg (by omega), if_neg (by omega), up0_0, if_neg (by omega), aMk_0, if_neg (by omega)]
  have hs : ∀ (f : Nat) (Y : aS) (n : Int), (aSettle T w f Y n).1 0 4 = Y 0 4 := by
    intro f
    induction f with
    | zero => intro Y n; rw [aSettle]
    | succ f ih =>
      intro Y n
      rw [aSettle]
      split
      · rfl
      · rw [ih, hd, up0_0, if_neg (by omega)]
  unfold aHear
  split
  · rfl
  · split
    · show aUp (aUp X 4 k 1) 0 3 (X 0 3 + 1) 0 4 = X 0 4
      rw [up0_0, if_neg (by omega), aUp_ne (by omega)]
    · rw [hs, hd]
/-- a call begins on copy i -/
theorem call_begin {Tf Xf : Int → aS} {M M1 : sjM} {i : Int} (h : rAll Tf Xf M) (hM : M1 = sjU (sjU M 0 1 (iI 0)) 0 2 (iI 0)) (hi0 : 0 ≤ i) (hi1 : i < 10) : rAll Tf Xf M1 ∧ rX (aStart (Xf i)) M1 i ∧ rKeep M M1 ∧ M1 0 1 = iI 0 ∧ M1 0 2 = iI 0 := by
  have h1 : rAll Tf Xf M1 := by rw [hM]; exact rAll_0 (rAll_0 h)
  refine ⟨h1, rX_X (h1.2 i hi0 hi1).1 ?_ ?_ ?_ ?_ ?_, ⟨by rw [hM, sjU_o (by omega), sjU_o (by omega)], by rw [hM, sjU_s, if_neg (by omega), sjU_s, if_neg (by omega)]⟩, by rw [hM, sjU_s, if_neg (by omega), sjU_s, if_pos rfl], by rw [hM, sjU_s, if_pos rfl]⟩
  · unfold aStart; rw [up0_0, if_neg (by omega), up0_0, if_neg (by omega)]
  · unfold aStart; rw [up0_1, up0_1]
  · unfold aStart; rw [up0_2, up0_2]
  · unfold aStart; rw [up0_3, up0_3]
  · unfold aStart; rw [up0_4, up0_4]
theorem start_05 (X : aS) : aStart X 0 5 = 0 ∧ aStart X 0 6 = 0 ∧ aStart X 0 4 = X 0 4 := by
  unfold aStart
  refine ⟨by rw [up0_0, if_neg (by omega), up0_0, if_pos rfl], by rw [up0_0, if_pos rfl], by rw [up0_0, if_neg (by omega), up0_0, if_neg (by omega)]⟩
theorem lk_start {M1 M2 : sjM} {X Y : aS} (h1 : M1 0 1 = iI 0) (h2 : M1 0 2 = iI 0) (h : rLk M1 (aStart X) M2 Y) : M2 0 1 = iI (Y 0 5) ∧ M2 0 2 = iI (Y 0 6) := by
  obtain ⟨a, b⟩ := h
  obtain ⟨s5, s6, -⟩ := start_05 X
  rw [h1, s5] at a
  rw [h2, s6] at b
  exact ⟨i32_s a, i32_s b⟩
/-- and ends -/
theorem call_end {Tf Xf : Int → aS} {M M2 M3 : sjM} {i : Int} {Y : aS} (h : rAll Tf Xf M) (ho : onR M M2 i) (hi0 : 0 ≤ i) (hi1 : i < 10) (hY : rX Y M2 i) (h4 : Y 0 4 = Xf i 0 4) (h5 : M2 0 1 = iI (Y 0 5)) (h6 : M2 0 2 = iI (Y 0 6)) (hb : 0 ≤ Y 0 6 ∧ Y 0 6 ≤ 60) (hl : ∀ j, 0 ≤ j → j < 10 → Xf j 0 0 ≤ 60) (hM : M3 = if 0 < (M2 0 2).toInt then sjU M2 18 i (M2 0 1) else M2) : rAll Tf (updF Xf i (aEnd Y)) M3 ∧ rKeep M M3 := by
  have h2 := rAll_on h ho hi0 hi1 hY h4 hl
  rw [h6, iI_toInt ⟨by omega, by omega⟩] at hM
  have hk : rKeep M M2 := ⟨ho.2.1.2.1, ho.2.1.2.2.2.2.2⟩
  by_cases hp : 0 < Y 0 6
  · rw [if_pos hp] at hM
    have he : aEnd Y = aUp Y 0 4 (Y 0 5) := by unfold aEnd; rw [if_pos hp]
    refine ⟨⟨fun t h0 h1 => rT_of (h2.1 t h0 h1) (fun k a b => by rw [hM, sjU_o (by omega)]), fun j h0 h1 => ?_⟩, ⟨by rw [hM, sjU_o (by omega)]; exact hk.1, by rw [hM, sjU_o (by omega)]; exact hk.2⟩⟩
    have hj2 := h2.2 j h0 h1
    have hx3 : ∀ Z : aS, rX Z M2 j → rX Z M3 j := fun Z hz => rX_of hz (fun k a b => by rw [hM, sjU_o (by omega)])
    show rX (if j = i then aEnd Y else Xf j) M3 j ∧ M3 18 j = iI ((if j = i then aEnd Y else Xf j) 0 4)
    have hj3 : rX (if j = i then Y else Xf j) M2 j ∧ M2 18 j = iI ((if j = i then Y else Xf j) 0 4) := hj2
    by_cases hj : j = i
    · rw [if_pos hj] at hj3 ⊢
      rw [he]
      refine ⟨rX_X (hx3 _ hj3.1) ?_ (up0_1 _ _ _) (up0_2 _ _ _) (up0_3 _ _ _) (up0_4 _ _ _), ?_⟩
      · rw [up0_0, if_neg (by omega)]
      · rw [hM, sjU_s, if_pos hj, up0_0, if_pos rfl]; exact h5
    · rw [if_neg hj] at hj3 ⊢
      exact ⟨hx3 _ hj3.1, by rw [hM, sjU_s, if_neg hj]; exact hj3.2⟩
  · rw [if_neg hp] at hM
    have he : aEnd Y = Y := by unfold aEnd; rw [if_neg hp]
    rw [he, hM]
    exact ⟨h2, hk⟩
set_option maxHeartbeats 4000000 in
set_option maxRecDepth 100000 in
theorem kX4_state {l : Launch} {D : va_G} {cI cZ cJ cT cC : ClassId} {ad : Nat → Nat} {A : Nat → Prop} (hD : ∀ g : Nat → va_E, va_D A (sjW 26 ad g)) (x y k : Int) (hx : rng x) (hy : rng y) (hk : rng k) (M : sjM) (L : sjL) (Tf Xf : Int → aS) (lts : Int → Int → Int → Prop) (hA : rAll Tf Xf M) (hg : gAll Tf Xf lts) : Met l yX4_state wsX4_state { frames := 1, cells := 0, slots := 0, locals := 22 } (sjA D cI cZ cJ cT cC 26 ad (kR cI cZ cJ ad) [.ref (ad 0), .int (iI x), .int (iI y), .int (iI k)] M L) (sjZ D 26 ad (kR cI cZ cJ ad) A (fun v M' L' => M' = sjU M 0 0 (iI 0) ∧ L = L' ∧ v = some (.int (iI (if okTS x y ∧ 0 ≤ k ∧ k < Tf x 0 1 then Xf (5 * x + y) 4 k else -1))))) 0 0 A := by
  refine g_met (cc := cX4_state) (maxL := 4) (ret := (some .int)) (lv := [_, _, _, _]) (by decide) rfl hD kR_loc (List.forall_mem_cons.mpr ⟨rfl, List.forall_mem_cons.mpr ⟨rfl, List.forall_mem_cons.mpr ⟨rfl, List.forall_mem_cons.mpr ⟨rfl, fun _ h => absurd h List.not_mem_nil⟩⟩⟩⟩) (Nat.le_of_ble_eq_true rfl) rfl ?_
  intro J G
  have f59 : Cond.fieldLink RX4 59 "SharedPageModel" "state" "[I" ∈ wsX4_state := by decide +kernel
  have f87 : Cond.fieldLink RX4 87 "SharedPageModel" "told" "I" ∈ wsX4_state := by decide +kernel
  have hinX4 : ∀ w ∈ u_ws RX4 TX4 29, w ∈ wsX4_state := fun w h => List.mem_cons_of_mem _ (List.mem_append_right _ h)
  refine g_aload_n (pc := 0) G dX4_state_0 rfl ?_
  refine g_iconst (pc := 1) G dX4_state_1 ?_
  refine g_put (pc := 2) G tyX4 tyX4_ok nmX4 hinX4 oModel rfl 0 (by decide) pModel0 f87 rfl rfl rfl dX4_state_2 ?_
  refine g_mem (fun M1 L1 hM1 hL1 => ?_)
  obtain rfl : L = L1 := hL1.symm
  have hA1 : rAll Tf Xf M1 := by rw [hM1]; exact rAll_0 hA
  have hK1 : rKeep M M1 := ⟨by rw [hM1, sjU_o (by omega)], by rw [hM1, sjU_s, if_neg (by omega)]⟩
  refine g_aload_n (pc := 5) G dX4_state_5 rfl ?_
  refine g_iload_n (pc := 6) G dX4_state_6 rfl ?_
  refine g_call (pc := 7) (n := 1) (As := [_]) G (kX4_isText hD x hx M1 L) gX4_state_X4_isText oModel rfl rfl hdX4_isText rfl rfl ⟨Nat.le_of_ble_eq_true rfl, Nat.le_of_ble_eq_true rfl⟩ rfl rfl (Nat.le_of_ble_eq_true rfl) dX4_state_7 ?_
  rintro _ _ _ ⟨rfl, rfl, rfl⟩
  by_cases qx : 0 ≤ x ∧ x < 2
  · rw [if_pos qx]
    refine g_if_eq (pc := 10) G (by omega) 30 dX4_state_10 (by decide) (fun h => absurd h (by decide)) (fun _ => ?_)
    refine g_aload_n (pc := 13) G dX4_state_13 rfl ?_
    refine g_iload_n (pc := 14) G dX4_state_14 rfl ?_
    refine g_call (pc := 15) (n := 1) (As := [_]) G (kX4_isSite hD y hy M1 L) gX4_state_X4_isSite oModel rfl rfl hdX4_isSite rfl rfl ⟨Nat.le_of_ble_eq_true rfl, Nat.le_of_ble_eq_true rfl⟩ rfl rfl (Nat.le_of_ble_eq_true rfl) dX4_state_15 ?_
    rintro _ _ _ ⟨rfl, rfl, rfl⟩
    by_cases qy : 0 ≤ y ∧ y < 5
    · rw [if_pos qy]
      refine g_if_eq (pc := 18) G (by omega) 30 dX4_state_18 (by decide) (fun h => absurd h (by decide)) (fun _ => ?_)
      refine g_aload_n (pc := 21) G dX4_state_21 rfl ?_
      refine g_iload_n (pc := 22) G dX4_state_22 rfl ?_
      refine g_iload_n (pc := 23) G dX4_state_23 rfl ?_
      refine g_call (pc := 24) (n := 2) (As := [_, _]) G (kX4_isMessage hD x qx.1 qx.2 k hk M1 L (Tf x) (hA1.1 x qx.1 qx.2) (hg.1 x qx.1 qx.2).1.1.2.2.1 (hg.1 x qx.1 qx.2).1.1.2.2.2.1) gX4_state_X4_isMessage oModel rfl rfl hdX4_isMessage rfl rfl ⟨Nat.le_of_ble_eq_true rfl, Nat.le_of_ble_eq_true rfl⟩ rfl rfl (Nat.le_of_ble_eq_true rfl) dX4_state_24 ?_
      rintro _ _ _ ⟨rfl, rfl, rfl⟩
      by_cases qm : 0 ≤ k ∧ k < Tf x 0 1
      · rw [if_pos qm]
        refine g_if_ne (pc := 27) G (by omega) 32 dX4_state_27 (by decide) (fun _ => ?_) (fun h => absurd h (by decide))
        refine g_aload_n (pc := 32) G dX4_state_32 rfl ?_
        refine g_getR (pc := 33) G hinX4 oModel rfl 17 (by decide) f59 rfl rfl dX4_state_33 ?_
        refine g_sipush (pc := 36) G dX4_state_36 rfl ?_
        refine g_iconst (pc := 39) G dX4_state_39 ?_
        refine g_iload_n (pc := 40) G dX4_state_40 rfl ?_
        refine g_imul (pc := 41) G dX4_state_41 ?_
        refine g_iload_n (pc := 42) G dX4_state_42 rfl ?_
        refine g_iadd (pc := 43) G dX4_state_43 ?_
        refine g_imul (pc := 44) G dX4_state_44 ?_
        refine g_iload_n (pc := 45) G dX4_state_45 rfl ?_
        refine g_iadd (pc := 46) G dX4_state_46 ?_
        refine g_iald (pc := 47) G rState (by have := (hg.1 x qx.1 qx.2).1.1.2.2.2.1; omega) dX4_state_47 ?_
        refine g_top (ld ((hA1.2 (5 * x + y) (by omega) (by omega)).1.2.2.2 k qm.1 (by have := (hg.1 x qx.1 qx.2).1.1.2.2.2.1; omega))) ?_
        refine g_iret (pc := 48) G dX4_state_48 ?_
        refine ⟨hM1, rfl, ?_⟩
        rw [if_pos ⟨⟨qx.1, qx.2, qy.1, qy.2⟩, qm⟩]
      · rw [if_neg qm]
        refine g_if_ne (pc := 27) G (by omega) 32 dX4_state_27 (by decide) (fun h => absurd h (by decide)) (fun _ => ?_)
        refine g_iconst (pc := 30) G dX4_state_30 ?_
        refine g_iret (pc := 31) G dX4_state_31 ?_
        refine ⟨hM1, rfl, ?_⟩
        rw [if_neg]
        intro w
        first
        | exact qx ⟨w.1.1, w.1.2.1⟩
        | exact qy ⟨w.1.2.2.1, w.1.2.2.2⟩
        | exact qm w.2
    · rw [if_neg qy]
      refine g_if_eq (pc := 18) G (by omega) 30 dX4_state_18 (by decide) (fun _ => ?_) (fun h => absurd h (by decide))
      refine g_iconst (pc := 30) G dX4_state_30 ?_
      refine g_iret (pc := 31) G dX4_state_31 ?_
      refine ⟨hM1, rfl, ?_⟩
      rw [if_neg]
      intro w
      first
      | exact qx ⟨w.1.1, w.1.2.1⟩
      | exact qy ⟨w.1.2.2.1, w.1.2.2.2⟩
      | exact qm w.2
  · rw [if_neg qx]
    refine g_if_eq (pc := 10) G (by omega) 30 dX4_state_10 (by decide) (fun _ => ?_) (fun h => absurd h (by decide))
    refine g_iconst (pc := 30) G dX4_state_30 ?_
    refine g_iret (pc := 31) G dX4_state_31 ?_
    refine ⟨hM1, rfl, ?_⟩
    rw [if_neg]
    intro w
    first
    | exact qx ⟨w.1.1, w.1.2.1⟩
    | exact qy ⟨w.1.2.2.1, w.1.2.2.2⟩
    | exact qm w.2
set_option maxHeartbeats 4000000 in
set_option maxRecDepth 100000 in
theorem kX4_look {l : Launch} {D : va_G} {cI cZ cJ cT cC : ClassId} {ad : Nat → Nat} {A : Nat → Prop} (hD : ∀ g : Nat → va_E, va_D A (sjW 26 ad g)) (x y w : Int) (hx : rng x) (hy : rng y) (hw : rng w) (M : sjM) (L : sjL) (Tf Xf : Int → aS) (lts : Int → Int → Int → Prop) (hA : rAll Tf Xf M) (hg : gAll Tf Xf lts) : Met l yX4_look wsX4_look { frames := 1, cells := 0, slots := 0, locals := 25 } (sjA D cI cZ cJ cT cC 26 ad (kR cI cZ cJ ad) [.ref (ad 0), .int (iI x), .int (iI y), .int (iI w)] M L) (sjZ D 26 ad (kR cI cZ cJ ad) A (fun v M' L' => M' = sjU M 0 0 (iI 0) ∧ L = L' ∧ v = some (.int (iI (if okTS x y then aLook (Tf x) (Xf (5 * x + y)) w else -1))))) 0 0 A := by
  refine g_met (cc := cX4_look) (maxL := 5) (ret := (some .int)) (lv := [_, _, _, _, _]) (by decide) rfl hD kR_loc (List.forall_mem_cons.mpr ⟨rfl, List.forall_mem_cons.mpr ⟨rfl, List.forall_mem_cons.mpr ⟨rfl, List.forall_mem_cons.mpr ⟨rfl, fun _ h => absurd h List.not_mem_nil⟩⟩⟩⟩) (Nat.le_of_ble_eq_true rfl) rfl ?_
  intro J G
  have f7 : Cond.fieldLink RX4 7 "SharedPageModel" "made" "[I" ∈ wsX4_look := by decide +kernel
  have f31 : Cond.fieldLink RX4 31 "SharedPageModel" "messages" "[I" ∈ wsX4_look := by decide +kernel
  have f50 : Cond.fieldLink RX4 50 "SharedPageModel" "many" "[I" ∈ wsX4_look := by decide +kernel
  have f62 : Cond.fieldLink RX4 62 "SharedPageModel" "looks" "[I" ∈ wsX4_look := by decide +kernel
  have f87 : Cond.fieldLink RX4 87 "SharedPageModel" "told" "I" ∈ wsX4_look := by decide +kernel
  have hinX4 : ∀ w ∈ u_ws RX4 TX4 29, w ∈ wsX4_look := fun w h => List.mem_cons_of_mem _ (List.mem_append_right _ h)
  refine g_aload_n (pc := 0) G dX4_look_0 rfl ?_
  refine g_iconst (pc := 1) G dX4_look_1 ?_
  refine g_put (pc := 2) G tyX4 tyX4_ok nmX4 hinX4 oModel rfl 0 (by decide) pModel0 f87 rfl rfl rfl dX4_look_2 ?_
  refine g_mem (fun M1 L1 hM1 hL1 => ?_)
  obtain rfl : L = L1 := hL1.symm
  have hA1 : rAll Tf Xf M1 := by rw [hM1]; exact rAll_0 hA
  have hK1 : rKeep M M1 := ⟨by rw [hM1, sjU_o (by omega)], by rw [hM1, sjU_s, if_neg (by omega)]⟩
  refine g_aload_n (pc := 5) G dX4_look_5 rfl ?_
  refine g_iload_n (pc := 6) G dX4_look_6 rfl ?_
  refine g_call (pc := 7) (n := 1) (As := [_]) G (kX4_isText hD x hx M1 L) gX4_look_X4_isText oModel rfl rfl hdX4_isText rfl rfl ⟨Nat.le_of_ble_eq_true rfl, Nat.le_of_ble_eq_true rfl⟩ rfl rfl (Nat.le_of_ble_eq_true rfl) dX4_look_7 ?_
  rintro _ _ _ ⟨rfl, rfl, rfl⟩
  by_cases qx : 0 ≤ x ∧ x < 2
  · rw [if_pos qx]
    refine g_if_eq (pc := 10) G (by omega) 21 dX4_look_10 (by decide) (fun h => absurd h (by decide)) (fun _ => ?_)
    refine g_aload_n (pc := 13) G dX4_look_13 rfl ?_
    refine g_iload_n (pc := 14) G dX4_look_14 rfl ?_
    refine g_call (pc := 15) (n := 1) (As := [_]) G (kX4_isSite hD y hy M1 L) gX4_look_X4_isSite oModel rfl rfl hdX4_isSite rfl rfl ⟨Nat.le_of_ble_eq_true rfl, Nat.le_of_ble_eq_true rfl⟩ rfl rfl (Nat.le_of_ble_eq_true rfl) dX4_look_15 ?_
    rintro _ _ _ ⟨rfl, rfl, rfl⟩
    by_cases qy : 0 ≤ y ∧ y < 5
    · rw [if_pos qy]
      refine g_if_ne (pc := 18) G (by omega) 23 dX4_look_18 (by decide) (fun _ => ?_) (fun h => absurd h (by decide))
      refine g_iconst (pc := 23) G dX4_look_23 ?_
      refine g_iload_n (pc := 24) G dX4_look_24 rfl ?_
      refine g_imul (pc := 25) G dX4_look_25 ?_
      refine g_iload_n (pc := 26) G dX4_look_26 rfl ?_
      refine g_iadd (pc := 27) G dX4_look_27 ?_
      refine g_istore (pc := 28) (lv' := [_, _, _, _, _]) G dX4_look_28 (by decide) rfl ?_
      refine g_iload_n (pc := 30) G dX4_look_30 rfl ?_
      refine g_if_ne (pc := 31) G (by first | assumption | omega) 41 dX4_look_31 (by decide) (fun h31 => ?_) (fun h31 => ?_)
      · -- 31 t
        refine g_iload_n (pc := 41) G dX4_look_41 rfl ?_
        refine g_iconst (pc := 42) G dX4_look_42 ?_
        refine g_icmp_ne (pc := 43) G hw (by omega) 53 dX4_look_43 (by decide) (fun h43 => ?_) (fun h43 => ?_)
        · -- 43 t
          refine g_iload_n (pc := 53) G dX4_look_53 rfl ?_
          refine g_iconst (pc := 54) G dX4_look_54 ?_
          refine g_icmp_ne (pc := 55) G hw (by omega) 66 dX4_look_55 (by decide) (fun h55 => ?_) (fun h55 => ?_)
          · -- 55 t
            refine g_iload_n (pc := 66) G dX4_look_66 rfl ?_
            refine g_iconst (pc := 67) G dX4_look_67 ?_
            refine g_icmp_ne (pc := 68) G hw (by omega) 78 dX4_look_68 (by decide) (fun h68 => ?_) (fun h68 => ?_)
            · -- 68 t
              refine g_iload_n (pc := 78) G dX4_look_78 rfl ?_
              refine g_iconst (pc := 79) G dX4_look_79 ?_
              refine g_icmp_ne (pc := 80) G hw (by omega) 92 dX4_look_80 (by decide) (fun h80 => ?_) (fun h80 => ?_)
              · -- 80 t
                refine g_iload_n (pc := 92) G dX4_look_92 rfl ?_
                refine g_iconst (pc := 93) G dX4_look_93 ?_
                refine g_icmp_ne (pc := 94) G hw (by omega) 106 dX4_look_94 (by decide) (fun h94 => ?_) (fun h94 => ?_)
                · -- 94 t
                  refine g_iload_n (pc := 106) G dX4_look_106 rfl ?_
                  refine g_bipush (pc := 107) G dX4_look_107 rfl ?_
                  refine g_icmp_ne (pc := 109) G hw (by omega) 122 dX4_look_109 (by decide) (fun h109 => ?_) (fun h109 => ?_)
                  · -- 109 t
                    refine g_iconst (pc := 122) G dX4_look_122 ?_
                    refine g_iret (pc := 123) G dX4_look_123 ?_
                    refine ⟨hM1, rfl, ?_⟩
                    rw [if_pos ⟨qx.1, qx.2, qy.1, qy.2⟩]
                    unfold aLook
                    first
                    | rw [if_neg h31, if_neg h43, if_neg h55, if_neg h68, if_neg h80, if_neg h94, if_pos h109]
                    | rw [if_neg h31, if_neg h43, if_neg h55, if_neg h68, if_neg h80, if_neg h94, if_neg h109]
                  · -- 109 f
                    refine g_aload_n (pc := 112) G dX4_look_112 rfl ?_
                    refine g_getR (pc := 113) G hinX4 oModel rfl 18 (by decide) f62 rfl rfl dX4_look_113 ?_
                    refine g_iload (pc := 116) G dX4_look_116 rfl ?_
                    refine g_iald (pc := 118) G rLooks (by omega) dX4_look_118 ?_
                    refine g_top (ld ((hA1.2 (5 * x + y) (by omega) (by omega)).2)) ?_
                    refine g_goto (pc := 119) G 123 dX4_look_119 (by decide) ?_
                    refine g_iret (pc := 123) G dX4_look_123 ?_
                    refine ⟨hM1, rfl, ?_⟩
                    rw [if_pos ⟨qx.1, qx.2, qy.1, qy.2⟩]
                    unfold aLook
                    first
                    | rw [if_neg h31, if_neg h43, if_neg h55, if_neg h68, if_neg h80, if_neg h94, if_pos h109]
                    | rw [if_neg h31, if_neg h43, if_neg h55, if_neg h68, if_neg h80, if_neg h94, if_neg h109]
                · -- 94 f
                  refine g_aload_n (pc := 97) G dX4_look_97 rfl ?_
                  refine g_iload (pc := 98) G dX4_look_98 rfl ?_
                  refine g_iload_n (pc := 100) G dX4_look_100 rfl ?_
                  refine g_iconst (pc := 101) G dX4_look_101 ?_
                  refine g_call (pc := 102) (n := 3) (As := [_, _, _]) G (kX4_count hD (5 * x + y) (by omega) (by omega) x qx.1 qx.2 1 (by omega) M1 L (Tf x) (Xf (5 * x + y)) (lts x) (hA1.2 (5 * x + y) (by omega) (by omega)).1 (hg.2 x y qx.1 qx.2 qy.1 qy.2).1 (hA1.1 x qx.1 qx.2) (hg.1 x qx.1 qx.2).1.1.2.2.1 (hg.1 x qx.1 qx.2).1.1.2.2.2.1) gX4_look_X4_count oModel rfl rfl hdX4_count rfl rfl ⟨Nat.le_of_ble_eq_true rfl, Nat.le_of_ble_eq_true rfl⟩ rfl rfl (Nat.le_of_ble_eq_true rfl) dX4_look_102 ?_
                  rintro _ _ _ ⟨rfl, rfl, rfl⟩
                  refine g_iret (pc := 105) G dX4_look_105 ?_
                  refine ⟨hM1, rfl, ?_⟩
                  rw [if_pos ⟨qx.1, qx.2, qy.1, qy.2⟩]
                  unfold aLook
                  rw [if_neg h31, if_neg h43, if_neg h55, if_neg h68, if_neg h80, if_pos h94, cs_all (hg.1 x qx.1 qx.2).1.1 (hg.2 x y qx.1 qx.2 qy.1 qy.2).1.2.2.1 (by omega), (hg.2 x y qx.1 qx.2 qy.1 qy.2).1.2.2.2.2]
              · -- 80 f
                refine g_aload_n (pc := 83) G dX4_look_83 rfl ?_
                refine g_iload (pc := 84) G dX4_look_84 rfl ?_
                refine g_iload_n (pc := 86) G dX4_look_86 rfl ?_
                refine g_iconst (pc := 87) G dX4_look_87 ?_
                refine g_call (pc := 88) (n := 3) (As := [_, _, _]) G (kX4_count hD (5 * x + y) (by omega) (by omega) x qx.1 qx.2 2 (by omega) M1 L (Tf x) (Xf (5 * x + y)) (lts x) (hA1.2 (5 * x + y) (by omega) (by omega)).1 (hg.2 x y qx.1 qx.2 qy.1 qy.2).1 (hA1.1 x qx.1 qx.2) (hg.1 x qx.1 qx.2).1.1.2.2.1 (hg.1 x qx.1 qx.2).1.1.2.2.2.1) gX4_look_X4_count oModel rfl rfl hdX4_count rfl rfl ⟨Nat.le_of_ble_eq_true rfl, Nat.le_of_ble_eq_true rfl⟩ rfl rfl (Nat.le_of_ble_eq_true rfl) dX4_look_88 ?_
                rintro _ _ _ ⟨rfl, rfl, rfl⟩
                refine g_iret (pc := 91) G dX4_look_91 ?_
                refine ⟨hM1, rfl, ?_⟩
                rw [if_pos ⟨qx.1, qx.2, qy.1, qy.2⟩]
                unfold aLook
                rw [if_neg h31, if_neg h43, if_neg h55, if_neg h68, if_pos h80, cs_all (hg.1 x qx.1 qx.2).1.1 (hg.2 x y qx.1 qx.2 qy.1 qy.2).1.2.2.1 (by omega), (hg.2 x y qx.1 qx.2 qy.1 qy.2).1.2.2.2.1.2.2.1]
            · -- 68 f
              refine g_aload_n (pc := 71) G dX4_look_71 rfl ?_
              refine g_iload (pc := 72) G dX4_look_72 rfl ?_
              refine g_call (pc := 74) (n := 1) (As := [_]) G (kX4_allSeen hD (5 * x + y) (by omega) (by omega) M1 L (Tf x) (Xf (5 * x + y)) (lts x) (hA1.2 (5 * x + y) (by omega) (by omega)).1 (hg.2 x y qx.1 qx.2 qy.1 qy.2).1) gX4_look_X4_allSeen oModel rfl rfl hdX4_allSeen rfl rfl ⟨Nat.le_of_ble_eq_true rfl, Nat.le_of_ble_eq_true rfl⟩ rfl rfl (Nat.le_of_ble_eq_true rfl) dX4_look_74 ?_
              rintro _ _ _ ⟨rfl, rfl, rfl⟩
              refine g_iret (pc := 77) G dX4_look_77 ?_
              refine ⟨hM1, rfl, ?_⟩
              rw [if_pos ⟨qx.1, qx.2, qy.1, qy.2⟩]
              unfold aLook
              rw [if_neg h31, if_neg h43, if_neg h55, if_pos h68, seen_len (hg.2 x y qx.1 qx.2 qy.1 qy.2).1]
          · -- 55 f
            refine g_aload_n (pc := 58) G dX4_look_58 rfl ?_
            refine g_getR (pc := 59) G hinX4 oModel rfl 14 (by decide) f50 rfl rfl dX4_look_59 ?_
            refine g_iload (pc := 62) G dX4_look_62 rfl ?_
            refine g_iald (pc := 64) G rMany (by omega) dX4_look_64 ?_
            refine g_top (ld ((hA1.2 (5 * x + y) (by omega) (by omega)).1.1)) ?_
            refine g_iret (pc := 65) G dX4_look_65 ?_
            refine ⟨hM1, rfl, ?_⟩
            rw [if_pos ⟨qx.1, qx.2, qy.1, qy.2⟩]
            unfold aLook
            rw [if_neg h31, if_neg h43, if_pos h55]
        · -- 43 f
          refine g_aload_n (pc := 46) G dX4_look_46 rfl ?_
          refine g_getR (pc := 47) G hinX4 oModel rfl 1 (by decide) f7 rfl rfl dX4_look_47 ?_
          refine g_iload_n (pc := 50) G dX4_look_50 rfl ?_
          refine g_iald (pc := 51) G rMade (by omega) dX4_look_51 ?_
          refine g_top (ld ((hA1.1 x qx.1 qx.2).1.1)) ?_
          refine g_iret (pc := 52) G dX4_look_52 ?_
          refine ⟨hM1, rfl, ?_⟩
          rw [if_pos ⟨qx.1, qx.2, qy.1, qy.2⟩]
          unfold aLook
          rw [if_neg h31, if_pos h43]
      · -- 31 f
        refine g_aload_n (pc := 34) G dX4_look_34 rfl ?_
        refine g_getR (pc := 35) G hinX4 oModel rfl 8 (by decide) f31 rfl rfl dX4_look_35 ?_
        refine g_iload_n (pc := 38) G dX4_look_38 rfl ?_
        refine g_iald (pc := 39) G rMsgs (by omega) dX4_look_39 ?_
        refine g_top (ld ((hA1.1 x qx.1 qx.2).1.2.1)) ?_
        refine g_iret (pc := 40) G dX4_look_40 ?_
        refine ⟨hM1, rfl, ?_⟩
        rw [if_pos ⟨qx.1, qx.2, qy.1, qy.2⟩]
        unfold aLook
        rw [if_pos h31]
    · rw [if_neg qy]
      refine g_if_ne (pc := 18) G (by omega) 23 dX4_look_18 (by decide) (fun h => absurd h (by decide)) (fun _ => ?_)
      refine g_iconst (pc := 21) G dX4_look_21 ?_
      refine g_iret (pc := 22) G dX4_look_22 ?_
      refine ⟨hM1, rfl, ?_⟩
      rw [if_neg]
      intro w
      first
      | exact qx ⟨w.1, w.2.1⟩
      | exact qy ⟨w.2.2.1, w.2.2.2⟩
  · rw [if_neg qx]
    refine g_if_eq (pc := 10) G (by omega) 21 dX4_look_10 (by decide) (fun _ => ?_) (fun h => absurd h (by decide))
    refine g_iconst (pc := 21) G dX4_look_21 ?_
    refine g_iret (pc := 22) G dX4_look_22 ?_
    refine ⟨hM1, rfl, ?_⟩
    rw [if_neg]
    intro w
    first
    | exact qx ⟨w.1, w.2.1⟩
    | exact qy ⟨w.2.2.1, w.2.2.2⟩
set_option maxHeartbeats 4000000 in
set_option maxRecDepth 100000 in
theorem kX4_message_ {l : Launch} {D : va_G} {cI cZ cJ cT cC : ClassId} {ad : Nat → Nat} {A : Nat → Prop} (hD : ∀ g : Nat → va_E, va_D A (sjW 26 ad g)) (x k w : Int) (hx : rng x) (hk : rng k) (hw : rng w) (M : sjM) (L : sjL) (Tf Xf : Int → aS) (lts : Int → Int → Int → Prop) (hA : rAll Tf Xf M) (hg : gAll Tf Xf lts) : Met l yX4_message_ wsX4_message_ { frames := 1, cells := 0, slots := 0, locals := 22 } (sjA D cI cZ cJ cT cC 26 ad (kR cI cZ cJ ad) [.ref (ad 0), .int (iI x), .int (iI k), .int (iI w)] M L) (sjZ D 26 ad (kR cI cZ cJ ad) A (fun v M' L' => M' = sjU M 0 0 (iI 0) ∧ L = L' ∧ v = some (.int (iI (if (0 ≤ x ∧ x < 2) ∧ 0 ≤ k ∧ k < Tf x 0 1 then aMess (Tf x) k w else -1))))) 0 0 A := by
  refine g_met (cc := cX4_message_) (maxL := 5) (ret := (some .int)) (lv := [_, _, _, _, _]) (by decide) rfl hD kR_loc (List.forall_mem_cons.mpr ⟨rfl, List.forall_mem_cons.mpr ⟨rfl, List.forall_mem_cons.mpr ⟨rfl, List.forall_mem_cons.mpr ⟨rfl, fun _ h => absurd h List.not_mem_nil⟩⟩⟩⟩) (Nat.le_of_ble_eq_true rfl) rfl ?_
  intro J G
  have f19 : Cond.fieldLink RX4 19 "SharedPageModel" "letterOf" "[I" ∈ wsX4_message_ := by decide +kernel
  have f22 : Cond.fieldLink RX4 22 "SharedPageModel" "leftOf" "[I" ∈ wsX4_message_ := by decide +kernel
  have f25 : Cond.fieldLink RX4 25 "SharedPageModel" "rightOf" "[I" ∈ wsX4_message_ := by decide +kernel
  have f37 : Cond.fieldLink RX4 37 "SharedPageModel" "isErase" "[Z" ∈ wsX4_message_ := by decide +kernel
  have f41 : Cond.fieldLink RX4 41 "SharedPageModel" "charOf" "[I" ∈ wsX4_message_ := by decide +kernel
  have f44 : Cond.fieldLink RX4 44 "SharedPageModel" "makerOf" "[I" ∈ wsX4_message_ := by decide +kernel
  have f87 : Cond.fieldLink RX4 87 "SharedPageModel" "told" "I" ∈ wsX4_message_ := by decide +kernel
  have hinX4 : ∀ w ∈ u_ws RX4 TX4 29, w ∈ wsX4_message_ := fun w h => List.mem_cons_of_mem _ (List.mem_append_right _ h)
  refine g_aload_n (pc := 0) G dX4_message__0 rfl ?_
  refine g_iconst (pc := 1) G dX4_message__1 ?_
  refine g_put (pc := 2) G tyX4 tyX4_ok nmX4 hinX4 oModel rfl 0 (by decide) pModel0 f87 rfl rfl rfl dX4_message__2 ?_
  refine g_mem (fun M1 L1 hM1 hL1 => ?_)
  obtain rfl : L = L1 := hL1.symm
  have hA1 : rAll Tf Xf M1 := by rw [hM1]; exact rAll_0 hA
  have hK1 : rKeep M M1 := ⟨by rw [hM1, sjU_o (by omega)], by rw [hM1, sjU_s, if_neg (by omega)]⟩
  refine g_aload_n (pc := 5) G dX4_message__5 rfl ?_
  refine g_iload_n (pc := 6) G dX4_message__6 rfl ?_
  refine g_call (pc := 7) (n := 1) (As := [_]) G (kX4_isText hD x hx M1 L) gX4_message__X4_isText oModel rfl rfl hdX4_isText rfl rfl ⟨Nat.le_of_ble_eq_true rfl, Nat.le_of_ble_eq_true rfl⟩ rfl rfl (Nat.le_of_ble_eq_true rfl) dX4_message__7 ?_
  rintro _ _ _ ⟨rfl, rfl, rfl⟩
  by_cases qx : 0 ≤ x ∧ x < 2
  · rw [if_pos qx]
    refine g_if_eq (pc := 10) G (by omega) 22 dX4_message__10 (by decide) (fun h => absurd h (by decide)) (fun _ => ?_)
    refine g_aload_n (pc := 13) G dX4_message__13 rfl ?_
    refine g_iload_n (pc := 14) G dX4_message__14 rfl ?_
    refine g_iload_n (pc := 15) G dX4_message__15 rfl ?_
    refine g_call (pc := 16) (n := 2) (As := [_, _]) G (kX4_isMessage hD x qx.1 qx.2 k hk M1 L (Tf x) (hA1.1 x qx.1 qx.2) (hg.1 x qx.1 qx.2).1.1.2.2.1 (hg.1 x qx.1 qx.2).1.1.2.2.2.1) gX4_message__X4_isMessage oModel rfl rfl hdX4_isMessage rfl rfl ⟨Nat.le_of_ble_eq_true rfl, Nat.le_of_ble_eq_true rfl⟩ rfl rfl (Nat.le_of_ble_eq_true rfl) dX4_message__16 ?_
    rintro _ _ _ ⟨rfl, rfl, rfl⟩
    by_cases qm : 0 ≤ k ∧ k < Tf x 0 1
    · rw [if_pos qm]
      refine g_if_ne (pc := 19) G (by omega) 24 dX4_message__19 (by decide) (fun _ => ?_) (fun h => absurd h (by decide))
      have hG := (hg.1 x qx.1 qx.2).1
      have hm160 := hG.1.2.2.2.1
      have hkm : aHasM (Tf x) k := ⟨qm.1, qm.2, by omega⟩
      have h8 := (hG.1.2.2.2.2.2.1 k hkm).2
      have h6 := (hG.1.2.2.2.2.2.1 k hkm).1
      have h80 := h8.1
      have h81 := h8.2.2
      refine g_aload_n (pc := 24) G dX4_message__24 rfl ?_
      refine g_getR (pc := 25) G hinX4 oModel rfl 11 (by decide) f41 rfl rfl dX4_message__25 ?_
      refine g_sipush (pc := 28) G dX4_message__28 rfl ?_
      refine g_iload_n (pc := 31) G dX4_message__31 rfl ?_
      refine g_imul (pc := 32) G dX4_message__32 ?_
      refine g_iload_n (pc := 33) G dX4_message__33 rfl ?_
      refine g_iadd (pc := 34) G dX4_message__34 ?_
      refine g_iald (pc := 35) G rChar (by omega) dX4_message__35 ?_
      refine g_top (ld (((hA1.1 x qx.1 qx.2).2.2.2 k qm.1 (by omega)).2.1)) ?_
      refine g_istore (pc := 36) (lv' := [_, _, _, _, _]) G dX4_message__36 (by decide) rfl ?_
      refine g_iload_n (pc := 38) G dX4_message__38 rfl ?_
      refine g_if_ne (pc := 39) G (by first | assumption | omega) 63 dX4_message__39 (by decide) (fun h39 => ?_) (fun h39 => ?_)
      · -- 39 t
        refine g_iload_n (pc := 63) G dX4_message__63 rfl ?_
        refine g_iconst (pc := 64) G dX4_message__64 ?_
        refine g_icmp_ne (pc := 65) G hw (by omega) 81 dX4_message__65 (by decide) (fun h65 => ?_) (fun h65 => ?_)
        · -- 65 t
          refine g_iload_n (pc := 81) G dX4_message__81 rfl ?_
          refine g_iconst (pc := 82) G dX4_message__82 ?_
          refine g_icmp_ne (pc := 83) G hw (by omega) 94 dX4_message__83 (by decide) (fun h83 => ?_) (fun h83 => ?_)
          · -- 83 t
            refine g_iload_n (pc := 94) G dX4_message__94 rfl ?_
            refine g_iconst (pc := 95) G dX4_message__95 ?_
            refine g_icmp_ne (pc := 96) G hw (by omega) 117 dX4_message__96 (by decide) (fun h96 => ?_) (fun h96 => ?_)
            · -- 96 t
              refine g_iload_n (pc := 117) G dX4_message__117 rfl ?_
              refine g_iconst (pc := 118) G dX4_message__118 ?_
              refine g_icmp_ne (pc := 119) G hw (by omega) 140 dX4_message__119 (by decide) (fun h119 => ?_) (fun h119 => ?_)
              · -- 119 t
                refine g_iload_n (pc := 140) G dX4_message__140 rfl ?_
                refine g_iconst (pc := 141) G dX4_message__141 ?_
                refine g_icmp_ne (pc := 142) G hw (by omega) 160 dX4_message__142 (by decide) (fun h142 => ?_) (fun h142 => ?_)
                · -- 142 t
                  refine g_iconst (pc := 160) G dX4_message__160 ?_
                  refine g_iret (pc := 161) G dX4_message__161 ?_
                  refine ⟨hM1, rfl, ?_⟩
                  rw [if_pos ⟨qx, qm⟩]
                  unfold aMess
                  first
                  | (rw [if_neg h39, if_neg h65, if_neg h83, if_neg h96, if_neg h119, if_pos h142, subj_in hkm]; unfold aLetter; rw [if_pos h8])
                  | rw [if_neg h39, if_neg h65, if_neg h83, if_neg h96, if_neg h119, if_neg h142]
                · -- 142 f
                  refine g_aload_n (pc := 145) G dX4_message__145 rfl ?_
                  refine g_getR (pc := 146) G hinX4 oModel rfl 4 (by decide) f19 rfl rfl dX4_message__146 ?_
                  refine g_bipush (pc := 149) G dX4_message__149 rfl ?_
                  refine g_iload_n (pc := 151) G dX4_message__151 rfl ?_
                  refine g_imul (pc := 152) G dX4_message__152 ?_
                  refine g_iload (pc := 153) G dX4_message__153 rfl ?_
                  refine g_iadd (pc := 155) G dX4_message__155 ?_
                  refine g_iald (pc := 156) G rLetter (by omega) dX4_message__156 ?_
                  refine g_top (ld (((hA1.1 x qx.1 qx.2).2.1 _ h80 h81).2.2.1)) ?_
                  refine g_goto (pc := 157) G 161 dX4_message__157 (by decide) ?_
                  refine g_iret (pc := 161) G dX4_message__161 ?_
                  refine ⟨hM1, rfl, ?_⟩
                  rw [if_pos ⟨qx, qm⟩]
                  unfold aMess
                  first
                  | (rw [if_neg h39, if_neg h65, if_neg h83, if_neg h96, if_neg h119, if_pos h142, subj_in hkm]; unfold aLetter; rw [if_pos h8])
                  | rw [if_neg h39, if_neg h65, if_neg h83, if_neg h96, if_neg h119, if_neg h142]
              · -- 119 f
                refine g_aload_n (pc := 122) G dX4_message__122 rfl ?_
                refine g_iload_n (pc := 123) G dX4_message__123 rfl ?_
                refine g_aload_n (pc := 124) G dX4_message__124 rfl ?_
                refine g_getR (pc := 125) G hinX4 oModel rfl 6 (by decide) f25 rfl rfl dX4_message__125 ?_
                refine g_bipush (pc := 128) G dX4_message__128 rfl ?_
                refine g_iload_n (pc := 130) G dX4_message__130 rfl ?_
                refine g_imul (pc := 131) G dX4_message__131 ?_
                refine g_iload (pc := 132) G dX4_message__132 rfl ?_
                refine g_iadd (pc := 134) G dX4_message__134 ?_
                refine g_iald (pc := 135) G rRight (by omega) dX4_message__135 ?_
                refine g_top (ld (show M1 6 (60 * x + Tf x 8 k) = iI (aRight (Tf x) (Tf x 8 k)) by rw [((hA1.1 x qx.1 qx.2).2.1 _ h80 h81).2.2.2.2]; unfold aRight; rw [if_pos h8])) ?_
                refine g_call (pc := 136) (n := 2) (As := [_, _]) G (kX4_mark hD x qx.1 qx.2 (aRight (Tf x) (Tf x 8 k)) M1 L (Tf x) (hA1.1 x qx.1 qx.2) (tRef_r hG.1.2.2.2.2.1 h8)) gX4_message__X4_mark oModel rfl rfl hdX4_mark rfl rfl ⟨Nat.le_of_ble_eq_true rfl, Nat.le_of_ble_eq_true rfl⟩ rfl rfl (Nat.le_of_ble_eq_true rfl) dX4_message__136 ?_
                rintro _ _ _ ⟨rfl, rfl, rfl⟩
                refine g_iret (pc := 139) G dX4_message__139 ?_
                refine ⟨hM1, rfl, ?_⟩
                rw [if_pos ⟨qx, qm⟩]
                unfold aMess
                rw [if_neg h39, if_neg h65, if_neg h83, if_neg h96, if_pos h119, subj_in hkm]
            · -- 96 f
              refine g_aload_n (pc := 99) G dX4_message__99 rfl ?_
              refine g_iload_n (pc := 100) G dX4_message__100 rfl ?_
              refine g_aload_n (pc := 101) G dX4_message__101 rfl ?_
              refine g_getR (pc := 102) G hinX4 oModel rfl 5 (by decide) f22 rfl rfl dX4_message__102 ?_
              refine g_bipush (pc := 105) G dX4_message__105 rfl ?_
              refine g_iload_n (pc := 107) G dX4_message__107 rfl ?_
              refine g_imul (pc := 108) G dX4_message__108 ?_
              refine g_iload (pc := 109) G dX4_message__109 rfl ?_
              refine g_iadd (pc := 111) G dX4_message__111 ?_
              refine g_iald (pc := 112) G rLeft (by omega) dX4_message__112 ?_
              refine g_top (ld (show M1 5 (60 * x + Tf x 8 k) = iI (aLeft (Tf x) (Tf x 8 k)) by rw [((hA1.1 x qx.1 qx.2).2.1 _ h80 h81).2.2.2.1]; unfold aLeft; rw [if_pos h8])) ?_
              refine g_call (pc := 113) (n := 2) (As := [_, _]) G (kX4_mark hD x qx.1 qx.2 (aLeft (Tf x) (Tf x 8 k)) M1 L (Tf x) (hA1.1 x qx.1 qx.2) (tRef_l hG.1.2.2.2.2.1 h8)) gX4_message__X4_mark oModel rfl rfl hdX4_mark rfl rfl ⟨Nat.le_of_ble_eq_true rfl, Nat.le_of_ble_eq_true rfl⟩ rfl rfl (Nat.le_of_ble_eq_true rfl) dX4_message__113 ?_
              rintro _ _ _ ⟨rfl, rfl, rfl⟩
              refine g_iret (pc := 116) G dX4_message__116 ?_
              refine ⟨hM1, rfl, ?_⟩
              rw [if_pos ⟨qx, qm⟩]
              unfold aMess
              rw [if_neg h39, if_neg h65, if_neg h83, if_pos h96, subj_in hkm]
          · -- 83 f
            refine g_aload_n (pc := 86) G dX4_message__86 rfl ?_
            refine g_iload_n (pc := 87) G dX4_message__87 rfl ?_
            refine g_iload (pc := 88) G dX4_message__88 rfl ?_
            refine g_call (pc := 90) (n := 2) (As := [_, _]) G (kX4_mark hD x qx.1 qx.2 (Tf x 8 k) M1 L (Tf x) (hA1.1 x qx.1 qx.2) (Or.inr (Or.inr h8))) gX4_message__X4_mark oModel rfl rfl hdX4_mark rfl rfl ⟨Nat.le_of_ble_eq_true rfl, Nat.le_of_ble_eq_true rfl⟩ rfl rfl (Nat.le_of_ble_eq_true rfl) dX4_message__90 ?_
            rintro _ _ _ ⟨rfl, rfl, rfl⟩
            refine g_iret (pc := 93) G dX4_message__93 ?_
            refine ⟨hM1, rfl, ?_⟩
            rw [if_pos ⟨qx, qm⟩]
            unfold aMess
            rw [if_neg h39, if_neg h65, if_pos h83, subj_in hkm]
        · -- 65 f
          refine g_aload_n (pc := 68) G dX4_message__68 rfl ?_
          refine g_getR (pc := 69) G hinX4 oModel rfl 12 (by decide) f44 rfl rfl dX4_message__69 ?_
          refine g_sipush (pc := 72) G dX4_message__72 rfl ?_
          refine g_iload_n (pc := 75) G dX4_message__75 rfl ?_
          refine g_imul (pc := 76) G dX4_message__76 ?_
          refine g_iload_n (pc := 77) G dX4_message__77 rfl ?_
          refine g_iadd (pc := 78) G dX4_message__78 ?_
          refine g_iald (pc := 79) G rMaker (by omega) dX4_message__79 ?_
          refine g_top (ld (((hA1.1 x qx.1 qx.2).2.2.2 k qm.1 (by omega)).2.2)) ?_
          refine g_iret (pc := 80) G dX4_message__80 ?_
          refine ⟨hM1, rfl, ?_⟩
          rw [if_pos ⟨qx, qm⟩]
          unfold aMess
          rw [if_neg h39, if_pos h65]
          unfold aMaker
          rw [if_pos hkm]
      · -- 39 f
        refine g_aload_n (pc := 42) G dX4_message__42 rfl ?_
        refine g_getR (pc := 43) G hinX4 oModel rfl 10 (by decide) f37 rfl rfl dX4_message__43 ?_
        refine g_sipush (pc := 46) G dX4_message__46 rfl ?_
        refine g_iload_n (pc := 49) G dX4_message__49 rfl ?_
        refine g_imul (pc := 50) G dX4_message__50 ?_
        refine g_iload_n (pc := 51) G dX4_message__51 rfl ?_
        refine g_iadd (pc := 52) G dX4_message__52 ?_
        refine g_zald (pc := 53) G rIsE (by omega) dX4_message__53 ?_
        refine g_top (ld (((hA1.1 x qx.1 qx.2).2.2.2 k qm.1 (by omega)).1)) ?_
        refine g_if_eq (pc := 54) G (by rcases h6 with q | q <;> omega) 61 dX4_message__54 (by decide) (fun h54 => ?_) (fun h54 => ?_)
        · -- 54 t
          refine g_iconst (pc := 61) G dX4_message__61 ?_
          refine g_iret (pc := 62) G dX4_message__62 ?_
          refine ⟨hM1, rfl, ?_⟩
          rw [if_pos ⟨qx, qm⟩]
          unfold aMess
          rw [if_pos h39, kind_in hkm]
          first
          | rw [show Tf x 6 k = 1 by omega]
          | rw [show Tf x 6 k = 0 by omega]
        · -- 54 f
          refine g_iconst (pc := 57) G dX4_message__57 ?_
          refine g_goto (pc := 58) G 62 dX4_message__58 (by decide) ?_
          refine g_iret (pc := 62) G dX4_message__62 ?_
          refine ⟨hM1, rfl, ?_⟩
          rw [if_pos ⟨qx, qm⟩]
          unfold aMess
          rw [if_pos h39, kind_in hkm]
          first
          | rw [show Tf x 6 k = 1 by omega]
          | rw [show Tf x 6 k = 0 by omega]
    · rw [if_neg qm]
      refine g_if_ne (pc := 19) G (by omega) 24 dX4_message__19 (by decide) (fun h => absurd h (by decide)) (fun _ => ?_)
      refine g_iconst (pc := 22) G dX4_message__22 ?_
      refine g_iret (pc := 23) G dX4_message__23 ?_
      refine ⟨hM1, rfl, ?_⟩
      rw [if_neg]
      intro w
      first
      | exact qx w.1
      | exact qm w.2
  · rw [if_neg qx]
    refine g_if_eq (pc := 10) G (by omega) 22 dX4_message__10 (by decide) (fun _ => ?_) (fun h => absurd h (by decide))
    refine g_iconst (pc := 22) G dX4_message__22 ?_
    refine g_iret (pc := 23) G dX4_message__23 ?_
    refine ⟨hM1, rfl, ?_⟩
    rw [if_neg]
    intro w
    first
    | exact qx w.1
    | exact qm w.2
set_option maxHeartbeats 4000000 in
set_option maxRecDepth 100000 in
theorem kX4_character {l : Launch} {D : va_G} {cI cZ cJ cT cC : ClassId} {ad : Nat → Nat} {A : Nat → Prop} (hD : ∀ g : Nat → va_E, va_D A (sjW 26 ad g)) (x y q w : Int) (hx : rng x) (hy : rng y) (hq : rng q) (hw : rng w) (M : sjM) (L : sjL) (Tf Xf : Int → aS) (lts : Int → Int → Int → Prop) (hA : rAll Tf Xf M) (hg : gAll Tf Xf lts) : Met l yX4_character wsX4_character { frames := 1, cells := 0, slots := 0, locals := 23 } (sjA D cI cZ cJ cT cC 26 ad (kR cI cZ cJ ad) [.ref (ad 0), .int (iI x), .int (iI y), .int (iI q), .int (iI w)] M L) (sjZ D 26 ad (kR cI cZ cJ ad) A (fun v M' L' => M' = sjU M 0 0 (iI 0) ∧ L = L' ∧ v = some (.int (iI (if okTS x y ∧ 0 ≤ q ∧ q < Xf (5 * x + y) 0 0 then aChar (Tf x) (Xf (5 * x + y)) (Xf (5 * x + y) 1 q) w else -1))))) 0 0 A := by
  refine g_met (cc := cX4_character) (maxL := 7) (ret := (some .int)) (lv := [_, _, _, _, _, _, _]) (by decide) rfl hD kR_loc (List.forall_mem_cons.mpr ⟨rfl, List.forall_mem_cons.mpr ⟨rfl, List.forall_mem_cons.mpr ⟨rfl, List.forall_mem_cons.mpr ⟨rfl, List.forall_mem_cons.mpr ⟨rfl, fun _ h => absurd h List.not_mem_nil⟩⟩⟩⟩⟩) (Nat.le_of_ble_eq_true rfl) rfl ?_
  intro J G
  have f19 : Cond.fieldLink RX4 19 "SharedPageModel" "letterOf" "[I" ∈ wsX4_character := by decide +kernel
  have f22 : Cond.fieldLink RX4 22 "SharedPageModel" "leftOf" "[I" ∈ wsX4_character := by decide +kernel
  have f25 : Cond.fieldLink RX4 25 "SharedPageModel" "rightOf" "[I" ∈ wsX4_character := by decide +kernel
  have f47 : Cond.fieldLink RX4 47 "SharedPageModel" "row" "[I" ∈ wsX4_character := by decide +kernel
  have f50 : Cond.fieldLink RX4 50 "SharedPageModel" "many" "[I" ∈ wsX4_character := by decide +kernel
  have f56 : Cond.fieldLink RX4 56 "SharedPageModel" "erased" "[Z" ∈ wsX4_character := by decide +kernel
  have f87 : Cond.fieldLink RX4 87 "SharedPageModel" "told" "I" ∈ wsX4_character := by decide +kernel
  have hinX4 : ∀ w ∈ u_ws RX4 TX4 29, w ∈ wsX4_character := fun w h => List.mem_cons_of_mem _ (List.mem_append_right _ h)
  refine g_aload_n (pc := 0) G dX4_character_0 rfl ?_
  refine g_iconst (pc := 1) G dX4_character_1 ?_
  refine g_put (pc := 2) G tyX4 tyX4_ok nmX4 hinX4 oModel rfl 0 (by decide) pModel0 f87 rfl rfl rfl dX4_character_2 ?_
  refine g_mem (fun M1 L1 hM1 hL1 => ?_)
  obtain rfl : L = L1 := hL1.symm
  have hA1 : rAll Tf Xf M1 := by rw [hM1]; exact rAll_0 hA
  have hK1 : rKeep M M1 := ⟨by rw [hM1, sjU_o (by omega)], by rw [hM1, sjU_s, if_neg (by omega)]⟩
  refine g_aload_n (pc := 5) G dX4_character_5 rfl ?_
  refine g_iload_n (pc := 6) G dX4_character_6 rfl ?_
  refine g_call (pc := 7) (n := 1) (As := [_]) G (kX4_isText hD x hx M1 L) gX4_character_X4_isText oModel rfl rfl hdX4_isText rfl rfl ⟨Nat.le_of_ble_eq_true rfl, Nat.le_of_ble_eq_true rfl⟩ rfl rfl (Nat.le_of_ble_eq_true rfl) dX4_character_7 ?_
  rintro _ _ _ ⟨rfl, rfl, rfl⟩
  by_cases qx : 0 ≤ x ∧ x < 2
  · rw [if_pos qx]
    refine g_if_eq (pc := 10) G (by omega) 21 dX4_character_10 (by decide) (fun h => absurd h (by decide)) (fun _ => ?_)
    refine g_aload_n (pc := 13) G dX4_character_13 rfl ?_
    refine g_iload_n (pc := 14) G dX4_character_14 rfl ?_
    refine g_call (pc := 15) (n := 1) (As := [_]) G (kX4_isSite hD y hy M1 L) gX4_character_X4_isSite oModel rfl rfl hdX4_isSite rfl rfl ⟨Nat.le_of_ble_eq_true rfl, Nat.le_of_ble_eq_true rfl⟩ rfl rfl (Nat.le_of_ble_eq_true rfl) dX4_character_15 ?_
    rintro _ _ _ ⟨rfl, rfl, rfl⟩
    by_cases qy : 0 ≤ y ∧ y < 5
    · rw [if_pos qy]
      refine g_if_ne (pc := 18) G (by omega) 23 dX4_character_18 (by decide) (fun _ => ?_) (fun h => absurd h (by decide))
      refine g_iconst (pc := 23) G dX4_character_23 ?_
      refine g_iload_n (pc := 24) G dX4_character_24 rfl ?_
      refine g_imul (pc := 25) G dX4_character_25 ?_
      refine g_iload_n (pc := 26) G dX4_character_26 rfl ?_
      refine g_iadd (pc := 27) G dX4_character_27 ?_
      refine g_istore (pc := 28) (lv' := [_, _, _, _, _, _, _]) G dX4_character_28 (by decide) rfl ?_
      have hI := (hg.2 x y qx.1 qx.2 qy.1 qy.2).1
      have hl0 := hI.1.1
      have hl1 := hI.1.2.1
      refine g_iload_n (pc := 30) G dX4_character_30 rfl ?_
      refine g_if_lt (pc := 31) G (by first | assumption | omega) 45 dX4_character_31 (by decide) (fun h31 => ?_) (fun h31 => ?_)
      · -- 31 t
        refine g_iconst (pc := 45) G dX4_character_45 ?_
        refine g_iret (pc := 46) G dX4_character_46 ?_
        refine ⟨hM1, rfl, ?_⟩
        rw [if_neg]
        intro w
        first
        | exact qx ⟨w.1.1, w.1.2.1⟩
        | exact qy ⟨w.1.2.2.1, w.1.2.2.2⟩
        | omega
      · -- 31 f
        refine g_iload_n (pc := 34) G dX4_character_34 rfl ?_
        refine g_aload_n (pc := 35) G dX4_character_35 rfl ?_
        refine g_getR (pc := 36) G hinX4 oModel rfl 14 (by decide) f50 rfl rfl dX4_character_36 ?_
        refine g_iload (pc := 39) G dX4_character_39 rfl ?_
        refine g_iald (pc := 41) G rMany (by omega) dX4_character_41 ?_
        refine g_top (ld ((hA1.2 (5 * x + y) (by omega) (by omega)).1.1)) ?_
        refine g_icmp_lt (pc := 42) G hq (by omega) 47 dX4_character_42 (by decide) (fun h42 => ?_) (fun h42 => ?_)
        · -- 42 t
          have hcx := cp_at hI.1 (show 0 ≤ q by omega) h42
          rw [at_in (show 0 ≤ q by omega) h42 hl1] at hcx
          have hc := hcx.1
          have hc0 := hc.1
          have hc1 := hc.2.2
          refine g_aload_n (pc := 47) G dX4_character_47 rfl ?_
          refine g_getR (pc := 48) G hinX4 oModel rfl 13 (by decide) f47 rfl rfl dX4_character_48 ?_
          refine g_bipush (pc := 51) G dX4_character_51 rfl ?_
          refine g_iload (pc := 53) G dX4_character_53 rfl ?_
          refine g_imul (pc := 55) G dX4_character_55 ?_
          refine g_iload_n (pc := 56) G dX4_character_56 rfl ?_
          refine g_iadd (pc := 57) G dX4_character_57 ?_
          refine g_iald (pc := 58) G rRow (by omega) dX4_character_58 ?_
          refine g_top (ld ((hA1.2 (5 * x + y) (by omega) (by omega)).1.2.1 q (by omega) h42)) ?_
          refine g_istore (pc := 59) (lv' := [_, _, _, _, _, _, _]) G dX4_character_59 (by decide) rfl ?_
          refine g_iload (pc := 61) G dX4_character_61 rfl ?_
          refine g_if_ne (pc := 63) G (by first | assumption | omega) 74 dX4_character_63 (by decide) (fun h63 => ?_) (fun h63 => ?_)
          · -- 63 t
            refine g_iload (pc := 74) G dX4_character_74 rfl ?_
            refine g_iconst (pc := 76) G dX4_character_76 ?_
            refine g_icmp_ne (pc := 77) G hw (by omega) 93 dX4_character_77 (by decide) (fun h77 => ?_) (fun h77 => ?_)
            · -- 77 t
              refine g_iload (pc := 93) G dX4_character_93 rfl ?_
              refine g_iconst (pc := 95) G dX4_character_95 ?_
              refine g_icmp_ne (pc := 96) G hw (by omega) 121 dX4_character_96 (by decide) (fun h96 => ?_) (fun h96 => ?_)
              · -- 96 t
                refine g_iload (pc := 121) G dX4_character_121 rfl ?_
                refine g_iconst (pc := 123) G dX4_character_123 ?_
                refine g_icmp_ne (pc := 124) G hw (by omega) 146 dX4_character_124 (by decide) (fun h124 => ?_) (fun h124 => ?_)
                · -- 124 t
                  refine g_iload (pc := 146) G dX4_character_146 rfl ?_
                  refine g_iconst (pc := 148) G dX4_character_148 ?_
                  refine g_icmp_ne (pc := 149) G hw (by omega) 173 dX4_character_149 (by decide) (fun h149 => ?_) (fun h149 => ?_)
                  · -- 149 t
                    refine g_iconst (pc := 173) G dX4_character_173 ?_
                    refine g_iret (pc := 174) G dX4_character_174 ?_
                    refine ⟨hM1, rfl, ?_⟩
                    rw [if_pos ⟨⟨qx.1, qx.2, qy.1, qy.2⟩, by omega, h42⟩]
                    unfold aChar
                    first
                    | rw [if_neg h63, if_neg h77, if_neg h96, if_neg h124, if_pos h149]
                    | rw [if_neg h63, if_neg h77, if_neg h96, if_neg h124, if_neg h149]
                  · -- 149 f
                    refine g_aload_n (pc := 152) G dX4_character_152 rfl ?_
                    refine g_iload (pc := 153) G dX4_character_153 rfl ?_
                    refine g_aload_n (pc := 155) G dX4_character_155 rfl ?_
                    refine g_getR (pc := 156) G hinX4 oModel rfl 6 (by decide) f25 rfl rfl dX4_character_156 ?_
                    refine g_bipush (pc := 159) G dX4_character_159 rfl ?_
                    refine g_iload_n (pc := 161) G dX4_character_161 rfl ?_
                    refine g_imul (pc := 162) G dX4_character_162 ?_
                    refine g_iload (pc := 163) G dX4_character_163 rfl ?_
                    refine g_iadd (pc := 165) G dX4_character_165 ?_
                    refine g_iald (pc := 166) G rRight (by omega) dX4_character_166 ?_
                    refine g_top (ld (show M1 6 (60 * x + (Xf (5 * x + y) 1 q)) = iI (aRight (Tf x) (Xf (5 * x + y) 1 q)) by rw [((hA1.1 x qx.1 qx.2).2.1 _ hc0 hc1).2.2.2.2]; unfold aRight; rw [if_pos hc])) ?_
                    refine g_call (pc := 167) (n := 2) (As := [_, _]) G (kX4_place hD (5 * x + y) (by omega) (by omega) (aRight (Tf x) (Xf (5 * x + y) 1 q)) M1 L (Tf x) (Xf (5 * x + y)) (lts x) (hA1.2 (5 * x + y) (by omega) (by omega)).1 ⟨hI.1, hI.2.1⟩ hcx.2.2.2.2) gX4_character_X4_place oModel rfl rfl hdX4_place rfl rfl ⟨Nat.le_of_ble_eq_true rfl, Nat.le_of_ble_eq_true rfl⟩ rfl rfl (Nat.le_of_ble_eq_true rfl) dX4_character_167 ?_
                    rintro _ _ _ ⟨rfl, rfl, rfl⟩
                    refine g_goto (pc := 170) G 174 dX4_character_170 (by decide) ?_
                    refine g_iret (pc := 174) G dX4_character_174 ?_
                    refine ⟨hM1, rfl, ?_⟩
                    rw [if_pos ⟨⟨qx.1, qx.2, qy.1, qy.2⟩, by omega, h42⟩]
                    unfold aChar
                    first
                    | rw [if_neg h63, if_neg h77, if_neg h96, if_neg h124, if_pos h149]
                    | rw [if_neg h63, if_neg h77, if_neg h96, if_neg h124, if_neg h149]
                · -- 124 f
                  refine g_aload_n (pc := 127) G dX4_character_127 rfl ?_
                  refine g_iload (pc := 128) G dX4_character_128 rfl ?_
                  refine g_aload_n (pc := 130) G dX4_character_130 rfl ?_
                  refine g_getR (pc := 131) G hinX4 oModel rfl 5 (by decide) f22 rfl rfl dX4_character_131 ?_
                  refine g_bipush (pc := 134) G dX4_character_134 rfl ?_
                  refine g_iload_n (pc := 136) G dX4_character_136 rfl ?_
                  refine g_imul (pc := 137) G dX4_character_137 ?_
                  refine g_iload (pc := 138) G dX4_character_138 rfl ?_
                  refine g_iadd (pc := 140) G dX4_character_140 ?_
                  refine g_iald (pc := 141) G rLeft (by omega) dX4_character_141 ?_
                  refine g_top (ld (show M1 5 (60 * x + (Xf (5 * x + y) 1 q)) = iI (aLeft (Tf x) (Xf (5 * x + y) 1 q)) by rw [((hA1.1 x qx.1 qx.2).2.1 _ hc0 hc1).2.2.2.1]; unfold aLeft; rw [if_pos hc])) ?_
                  refine g_call (pc := 142) (n := 2) (As := [_, _]) G (kX4_place hD (5 * x + y) (by omega) (by omega) (aLeft (Tf x) (Xf (5 * x + y) 1 q)) M1 L (Tf x) (Xf (5 * x + y)) (lts x) (hA1.2 (5 * x + y) (by omega) (by omega)).1 ⟨hI.1, hI.2.1⟩ hcx.2.2.2.1) gX4_character_X4_place oModel rfl rfl hdX4_place rfl rfl ⟨Nat.le_of_ble_eq_true rfl, Nat.le_of_ble_eq_true rfl⟩ rfl rfl (Nat.le_of_ble_eq_true rfl) dX4_character_142 ?_
                  rintro _ _ _ ⟨rfl, rfl, rfl⟩
                  refine g_iret (pc := 145) G dX4_character_145 ?_
                  refine ⟨hM1, rfl, ?_⟩
                  rw [if_pos ⟨⟨qx.1, qx.2, qy.1, qy.2⟩, by omega, h42⟩]
                  unfold aChar
                  rw [if_neg h63, if_neg h77, if_neg h96, if_pos h124]
              · -- 96 f
                refine g_aload_n (pc := 99) G dX4_character_99 rfl ?_
                refine g_getR (pc := 100) G hinX4 oModel rfl 16 (by decide) f56 rfl rfl dX4_character_100 ?_
                refine g_bipush (pc := 103) G dX4_character_103 rfl ?_
                refine g_iload (pc := 105) G dX4_character_105 rfl ?_
                refine g_imul (pc := 107) G dX4_character_107 ?_
                refine g_iload (pc := 108) G dX4_character_108 rfl ?_
                refine g_iadd (pc := 110) G dX4_character_110 ?_
                refine g_zald (pc := 111) G rErased (by omega) dX4_character_111 ?_
                refine g_top (ld (((hA1.2 (5 * x + y) (by omega) (by omega)).1.2.2.1 _ hc0 hc1).2)) ?_
                refine g_if_eq (pc := 112) G (by rcases hI.2.2.1.2.2.2.2 _ hc0 hc1 with u | u <;> omega) 119 dX4_character_112 (by decide) (fun h112 => ?_) (fun h112 => ?_)
                · -- 112 t
                  refine g_iconst (pc := 119) G dX4_character_119 ?_
                  refine g_iret (pc := 120) G dX4_character_120 ?_
                  refine ⟨hM1, rfl, ?_⟩
                  rw [if_pos ⟨⟨qx.1, qx.2, qy.1, qy.2⟩, by omega, h42⟩]
                  unfold aChar
                  rw [if_neg h63, if_neg h77, if_pos h96]
                  have hse := seen_iff hI.1 (show 0 ≤ q by omega) h42
                  first
                  | rw [if_pos (hse.mpr h112)]
                  | rw [if_neg (fun u => h112 (hse.mp u))]
                · -- 112 f
                  refine g_iconst (pc := 115) G dX4_character_115 ?_
                  refine g_goto (pc := 116) G 120 dX4_character_116 (by decide) ?_
                  refine g_iret (pc := 120) G dX4_character_120 ?_
                  refine ⟨hM1, rfl, ?_⟩
                  rw [if_pos ⟨⟨qx.1, qx.2, qy.1, qy.2⟩, by omega, h42⟩]
                  unfold aChar
                  rw [if_neg h63, if_neg h77, if_pos h96]
                  have hse := seen_iff hI.1 (show 0 ≤ q by omega) h42
                  first
                  | rw [if_pos (hse.mpr h112)]
                  | rw [if_neg (fun u => h112 (hse.mp u))]
            · -- 77 f
              refine g_aload_n (pc := 80) G dX4_character_80 rfl ?_
              refine g_getR (pc := 81) G hinX4 oModel rfl 4 (by decide) f19 rfl rfl dX4_character_81 ?_
              refine g_bipush (pc := 84) G dX4_character_84 rfl ?_
              refine g_iload_n (pc := 86) G dX4_character_86 rfl ?_
              refine g_imul (pc := 87) G dX4_character_87 ?_
              refine g_iload (pc := 88) G dX4_character_88 rfl ?_
              refine g_iadd (pc := 90) G dX4_character_90 ?_
              refine g_iald (pc := 91) G rLetter (by omega) dX4_character_91 ?_
              refine g_top (ld (((hA1.1 x qx.1 qx.2).2.1 _ hc0 hc1).2.2.1)) ?_
              refine g_iret (pc := 92) G dX4_character_92 ?_
              refine ⟨hM1, rfl, ?_⟩
              rw [if_pos ⟨⟨qx.1, qx.2, qy.1, qy.2⟩, by omega, h42⟩]
              unfold aChar
              rw [if_neg h63, if_pos h77]
              unfold aLetter
              rw [if_pos hc]
          · -- 63 f
            refine g_aload_n (pc := 66) G dX4_character_66 rfl ?_
            refine g_iload_n (pc := 67) G dX4_character_67 rfl ?_
            refine g_iload (pc := 68) G dX4_character_68 rfl ?_
            refine g_call (pc := 70) (n := 2) (As := [_, _]) G (kX4_mark hD x qx.1 qx.2 (Xf (5 * x + y) 1 q) M1 L (Tf x) (hA1.1 x qx.1 qx.2) (Or.inr (Or.inr hc))) gX4_character_X4_mark oModel rfl rfl hdX4_mark rfl rfl ⟨Nat.le_of_ble_eq_true rfl, Nat.le_of_ble_eq_true rfl⟩ rfl rfl (Nat.le_of_ble_eq_true rfl) dX4_character_70 ?_
            rintro _ _ _ ⟨rfl, rfl, rfl⟩
            refine g_iret (pc := 73) G dX4_character_73 ?_
            refine ⟨hM1, rfl, ?_⟩
            rw [if_pos ⟨⟨qx.1, qx.2, qy.1, qy.2⟩, by omega, h42⟩]
            unfold aChar
            rw [if_pos h63]
        · -- 42 f
          refine g_iconst (pc := 45) G dX4_character_45 ?_
          refine g_iret (pc := 46) G dX4_character_46 ?_
          refine ⟨hM1, rfl, ?_⟩
          rw [if_neg]
          intro w
          first
          | exact qx ⟨w.1.1, w.1.2.1⟩
          | exact qy ⟨w.1.2.2.1, w.1.2.2.2⟩
          | omega
    · rw [if_neg qy]
      refine g_if_ne (pc := 18) G (by omega) 23 dX4_character_18 (by decide) (fun h => absurd h (by decide)) (fun _ => ?_)
      refine g_iconst (pc := 21) G dX4_character_21 ?_
      refine g_iret (pc := 22) G dX4_character_22 ?_
      refine ⟨hM1, rfl, ?_⟩
      rw [if_neg]
      intro w
      first
      | exact qx ⟨w.1.1, w.1.2.1⟩
      | exact qy ⟨w.1.2.2.1, w.1.2.2.2⟩
      | omega
  · rw [if_neg qx]
    refine g_if_eq (pc := 10) G (by omega) 21 dX4_character_10 (by decide) (fun _ => ?_) (fun h => absurd h (by decide))
    refine g_iconst (pc := 21) G dX4_character_21 ?_
    refine g_iret (pc := 22) G dX4_character_22 ?_
    refine ⟨hM1, rfl, ?_⟩
    rw [if_neg]
    intro w
    first
    | exact qx ⟨w.1.1, w.1.2.1⟩
    | exact qy ⟨w.1.2.2.1, w.1.2.2.2⟩
    | omega
