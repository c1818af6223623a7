set_option maxHeartbeats 4000000 in
set_option maxRecDepth 100000 in
theorem kX4_isText {l : Launch} {D : va_G} {cI cZ cJ cT cC : ClassId} {ad : Nat → Nat} {A : Nat → Prop} (hD : ∀ g : Nat → va_E, va_D A (sjW 26 ad g)) (x : Int) (hx : rng x) (M : sjM) (L : sjL)  : Met l yX4_isText wsX4_isText { frames := 0, cells := 0, slots := 0, locals := 0 } (sjA D cI cZ cJ cT cC 26 ad (kR cI cZ cJ ad) [.ref (ad 0), .int (iI x)] M L) (sjZ D 26 ad (kR cI cZ cJ ad) A (fun v M' L' => M = M' ∧ L = L' ∧ v = some (.int (iI (if 0 ≤ x ∧ x < 2 then 1 else 0))))) 0 0 A := by
  refine g_met (cc := cX4_isText) (maxL := 2) (ret := (some .boolean)) (lv := [_, _]) (by decide) rfl hD kR_loc (List.forall_mem_cons.mpr ⟨rfl, List.forall_mem_cons.mpr ⟨rfl, fun _ h => absurd h List.not_mem_nil⟩⟩) (Nat.le_of_ble_eq_true rfl) rfl ?_
  intro J G
  refine g_iload_n (pc := 0) G dX4_isText_0 rfl ?_
  refine g_if_eq (pc := 1) G (by first | assumption | omega) 9 dX4_isText_1 (by decide) (fun h1 => ?_) (fun h1 => ?_)
  · -- 1 t
    refine g_iconst (pc := 9) G dX4_isText_9 ?_
    refine g_goto (pc := 10) G 14 dX4_isText_10 (by decide) ?_
    refine g_zret (pc := 14) G rfl dX4_isText_14 ?_
    refine ⟨rfl, rfl, ?_⟩
    (repeat' split) <;> first | rfl | omega
  · -- 1 f
    refine g_iload_n (pc := 4) G dX4_isText_4 rfl ?_
    refine g_iconst (pc := 5) G dX4_isText_5 ?_
    refine g_icmp_ne (pc := 6) G (by first | assumption | omega) (by first | assumption | omega) 13 dX4_isText_6 (by decide) (fun h6 => ?_) (fun h6 => ?_)
    · -- 6 t
      refine g_iconst (pc := 13) G dX4_isText_13 ?_
      refine g_zret (pc := 14) G rfl dX4_isText_14 ?_
      refine ⟨rfl, rfl, ?_⟩
      (repeat' split) <;> first | rfl | omega
    · -- 6 f
      refine g_iconst (pc := 9) G dX4_isText_9 ?_
      refine g_goto (pc := 10) G 14 dX4_isText_10 (by decide) ?_
      refine g_zret (pc := 14) G rfl dX4_isText_14 ?_
      refine ⟨rfl, rfl, ?_⟩
      (repeat' split) <;> first | rfl | omega
set_option maxHeartbeats 4000000 in
set_option maxRecDepth 100000 in
theorem kX4_isSite {l : Launch} {D : va_G} {cI cZ cJ cT cC : ClassId} {ad : Nat → Nat} {A : Nat → Prop} (hD : ∀ g : Nat → va_E, va_D A (sjW 26 ad g)) (x : Int) (hx : rng x) (M : sjM) (L : sjL)  : Met l yX4_isSite wsX4_isSite { frames := 0, cells := 0, slots := 0, locals := 0 } (sjA D cI cZ cJ cT cC 26 ad (kR cI cZ cJ ad) [.ref (ad 0), .int (iI x)] M L) (sjZ D 26 ad (kR cI cZ cJ ad) A (fun v M' L' => M = M' ∧ L = L' ∧ v = some (.int (iI (if 0 ≤ x ∧ x < 5 then 1 else 0))))) 0 0 A := by
  refine g_met (cc := cX4_isSite) (maxL := 2) (ret := (some .boolean)) (lv := [_, _]) (by decide) rfl hD kR_loc (List.forall_mem_cons.mpr ⟨rfl, List.forall_mem_cons.mpr ⟨rfl, fun _ h => absurd h List.not_mem_nil⟩⟩) (Nat.le_of_ble_eq_true rfl) rfl ?_
  intro J G
  refine g_iload_n (pc := 0) G dX4_isSite_0 rfl ?_
  refine g_if_lt (pc := 1) G (by first | assumption | omega) 13 dX4_isSite_1 (by decide) (fun h1 => ?_) (fun h1 => ?_)
  · -- 1 t
    refine g_iconst (pc := 13) G dX4_isSite_13 ?_
    refine g_zret (pc := 14) G rfl dX4_isSite_14 ?_
    refine ⟨rfl, rfl, ?_⟩
    (repeat' split) <;> first | rfl | omega
  · -- 1 f
    refine g_iload_n (pc := 4) G dX4_isSite_4 rfl ?_
    refine g_iconst (pc := 5) G dX4_isSite_5 ?_
    refine g_icmp_gt (pc := 6) G (by first | assumption | omega) (by first | assumption | omega) 13 dX4_isSite_6 (by decide) (fun h6 => ?_) (fun h6 => ?_)
    · -- 6 t
      refine g_iconst (pc := 13) G dX4_isSite_13 ?_
      refine g_zret (pc := 14) G rfl dX4_isSite_14 ?_
      refine ⟨rfl, rfl, ?_⟩
      (repeat' split) <;> first | rfl | omega
    · -- 6 f
      refine g_iconst (pc := 9) G dX4_isSite_9 ?_
      refine g_goto (pc := 10) G 14 dX4_isSite_10 (by decide) ?_
      refine g_zret (pc := 14) G rfl dX4_isSite_14 ?_
      refine ⟨rfl, rfl, ?_⟩
      (repeat' split) <;> first | rfl | omega
set_option maxHeartbeats 4000000 in
set_option maxRecDepth 100000 in
theorem kX4_isMessage {l : Launch} {D : va_G} {cI cZ cJ cT cC : ClassId} {ad : Nat → Nat} {A : Nat → Prop} (hD : ∀ g : Nat → va_E, va_D A (sjW 26 ad g)) (t : Int) (ht0 : 0 ≤ t) (ht1 : t < 2) (k : Int) (hk : rng k) (M : sjM) (L : sjL) (T : aS) (hT : rT T M t) (hm0 : 0 ≤ T 0 1) (hm1 : T 0 1 ≤ 160) : Met l yX4_isMessage wsX4_isMessage { frames := 0, cells := 0, slots := 0, locals := 0 } (sjA D cI cZ cJ cT cC 26 ad (kR cI cZ cJ ad) [.ref (ad 0), .int (iI t), .int (iI k)] M L) (sjZ D 26 ad (kR cI cZ cJ ad) A (fun v M' L' => M = M' ∧ L = L' ∧ v = some (.int (iI (if 0 ≤ k ∧ k < T 0 1 then 1 else 0))))) 0 0 A := by
  refine g_met (cc := cX4_isMessage) (maxL := 3) (ret := (some .boolean)) (lv := [_, _, _]) (by decide) rfl hD kR_loc (List.forall_mem_cons.mpr ⟨rfl, List.forall_mem_cons.mpr ⟨rfl, List.forall_mem_cons.mpr ⟨rfl, fun _ h => absurd h List.not_mem_nil⟩⟩⟩) (Nat.le_of_ble_eq_true rfl) rfl ?_
  intro J G
  have f31 : Cond.fieldLink RX4 31 "SharedPageModel" "messages" "[I" ∈ wsX4_isMessage := by decide +kernel
  have hinX4 : ∀ w ∈ u_ws RX4 TX4 29, w ∈ wsX4_isMessage := fun w h => List.mem_cons_of_mem _ (List.mem_append_right _ h)
  refine g_iload_n (pc := 0) G dX4_isMessage_0 rfl ?_
  refine g_if_lt (pc := 1) G (by first | assumption | omega) 18 dX4_isMessage_1 (by decide) (fun h1 => ?_) (fun h1 => ?_)
  · -- 1 t
    refine g_iconst (pc := 18) G dX4_isMessage_18 ?_
    refine g_zret (pc := 19) G rfl dX4_isMessage_19 ?_
    refine ⟨rfl, rfl, ?_⟩
    (repeat' split) <;> first | rfl | omega
  · -- 1 f
    refine g_iload_n (pc := 4) G dX4_isMessage_4 rfl ?_
    refine g_aload_n (pc := 5) G dX4_isMessage_5 rfl ?_
    refine g_getR (pc := 6) G hinX4 oModel rfl 8 (by decide) f31 rfl rfl dX4_isMessage_6 ?_
    refine g_iload_n (pc := 9) G dX4_isMessage_9 rfl ?_
    refine g_iald (pc := 10) G rMsgs (by omega) dX4_isMessage_10 ?_
    refine g_top (ld (hT.1.2.1)) ?_
    refine g_icmp_ge (pc := 11) G hk (by omega) 18 dX4_isMessage_11 (by decide) (fun h11 => ?_) (fun h11 => ?_)
    · -- 11 t
      refine g_iconst (pc := 18) G dX4_isMessage_18 ?_
      refine g_zret (pc := 19) G rfl dX4_isMessage_19 ?_
      refine ⟨rfl, rfl, ?_⟩
      (repeat' split) <;> first | rfl | omega
    · -- 11 f
      refine g_iconst (pc := 14) G dX4_isMessage_14 ?_
      refine g_goto (pc := 15) G 19 dX4_isMessage_15 (by decide) ?_
      refine g_zret (pc := 19) G rfl dX4_isMessage_19 ?_
      refine ⟨rfl, rfl, ?_⟩
      (repeat' split) <;> first | rfl | omega
set_option maxHeartbeats 4000000 in
set_option maxRecDepth 100000 in
theorem kX4_isThere {l : Launch} {D : va_G} {cI cZ cJ cT cC : ClassId} {ad : Nat → Nat} {A : Nat → Prop} (hD : ∀ g : Nat → va_E, va_D A (sjW 26 ad g)) (i : Int) (hi0 : 0 ≤ i) (hi1 : i ≤ 10) (c : Int) (hc0 : -1 ≤ c) (hc1 : c ≤ 60) (M : sjM) (L : sjL) (X : aS) (hX : rX X M i) (hl0 : 0 ≤ X 0 0) : Met l yX4_isThere wsX4_isThere { frames := 0, cells := 0, slots := 0, locals := 0 } (sjA D cI cZ cJ cT cC 26 ad (kR cI cZ cJ ad) [.ref (ad 0), .int (iI i), .int (iI c)] M L) (sjZ D 26 ad (kR cI cZ cJ ad) A (fun v M' L' => M = M' ∧ L = L' ∧ v = some (.int (iI (if aPl X c = -2 then 0 else 1))))) 0 0 A := by
  refine g_met (cc := cX4_isThere) (maxL := 3) (ret := (some .boolean)) (lv := [_, _, _]) (by decide) rfl hD kR_loc (List.forall_mem_cons.mpr ⟨rfl, List.forall_mem_cons.mpr ⟨rfl, List.forall_mem_cons.mpr ⟨rfl, fun _ h => absurd h List.not_mem_nil⟩⟩⟩) (Nat.le_of_ble_eq_true rfl) rfl ?_
  intro J G
  have f53 : Cond.fieldLink RX4 53 "SharedPageModel" "has" "[Z" ∈ wsX4_isThere := by decide +kernel
  have hinX4 : ∀ w ∈ u_ws RX4 TX4 29, w ∈ wsX4_isThere := fun w h => List.mem_cons_of_mem _ (List.mem_append_right _ h)
  refine g_iload_n (pc := 0) G dX4_isThere_0 rfl ?_
  refine g_iconst (pc := 1) G dX4_isThere_1 ?_
  refine g_icmp_eq (pc := 2) G (by omega) (by omega) 25 dX4_isThere_2 (by decide) (fun h2 => ?_) (fun h2 => ?_)
  · -- 2 t
    refine g_iconst (pc := 25) G dX4_isThere_25 ?_
    refine g_goto (pc := 26) G 30 dX4_isThere_26 (by decide) ?_
    refine g_zret (pc := 30) G rfl dX4_isThere_30 ?_
    refine ⟨rfl, rfl, ?_⟩
    first
    | (rw [if_neg (show ¬ aPl X c = -2 by rw [h2, pl_beg]; omega)])
    | (rw [if_neg (show ¬ aPl X c = -2 by rw [h8, pl_end]; omega)])
    | (rw [pl_char (X := X) (c := c) (by omega) (by omega)]; by_cases hq : X 2 c = -2 <;> simp [hq] at h22 ⊢)
  · -- 2 f
    refine g_iload_n (pc := 5) G dX4_isThere_5 rfl ?_
    refine g_bipush (pc := 6) G dX4_isThere_6 rfl ?_
    refine g_icmp_eq (pc := 8) G (by omega) (by omega) 25 dX4_isThere_8 (by decide) (fun h8 => ?_) (fun h8 => ?_)
    · -- 8 t
      refine g_iconst (pc := 25) G dX4_isThere_25 ?_
      refine g_goto (pc := 26) G 30 dX4_isThere_26 (by decide) ?_
      refine g_zret (pc := 30) G rfl dX4_isThere_30 ?_
      refine ⟨rfl, rfl, ?_⟩
      first
      | (rw [if_neg (show ¬ aPl X c = -2 by rw [h2, pl_beg]; omega)])
      | (rw [if_neg (show ¬ aPl X c = -2 by rw [h8, pl_end]; omega)])
      | (rw [pl_char (X := X) (c := c) (by omega) (by omega)]; by_cases hq : X 2 c = -2 <;> simp [hq] at h22 ⊢)
    · -- 8 f
      refine g_aload_n (pc := 11) G dX4_isThere_11 rfl ?_
      refine g_getR (pc := 12) G hinX4 oModel rfl 15 (by decide) f53 rfl rfl dX4_isThere_12 ?_
      refine g_bipush (pc := 15) G dX4_isThere_15 rfl ?_
      refine g_iload_n (pc := 17) G dX4_isThere_17 rfl ?_
      refine g_imul (pc := 18) G dX4_isThere_18 ?_
      refine g_iload_n (pc := 19) G dX4_isThere_19 rfl ?_
      refine g_iadd (pc := 20) G dX4_isThere_20 ?_
      refine g_zald (pc := 21) G rHas (by omega) dX4_isThere_21 ?_
      refine g_top (ld ((hX.2.2.1 c (by omega) (by omega)).1)) ?_
      refine g_if_eq (pc := 22) G (by split <;> omega) 29 dX4_isThere_22 (by decide) (fun h22 => ?_) (fun h22 => ?_)
      · -- 22 t
        refine g_iconst (pc := 29) G dX4_isThere_29 ?_
        refine g_zret (pc := 30) G rfl dX4_isThere_30 ?_
        refine ⟨rfl, rfl, ?_⟩
        first
        | (rw [if_neg (show ¬ aPl X c = -2 by rw [h2, pl_beg]; omega)])
        | (rw [if_neg (show ¬ aPl X c = -2 by rw [h8, pl_end]; omega)])
        | (rw [pl_char (X := X) (c := c) (by omega) (by omega)]; by_cases hq : X 2 c = -2 <;> simp [hq] at h22 ⊢)
      · -- 22 f
        refine g_iconst (pc := 25) G dX4_isThere_25 ?_
        refine g_goto (pc := 26) G 30 dX4_isThere_26 (by decide) ?_
        refine g_zret (pc := 30) G rfl dX4_isThere_30 ?_
        refine ⟨rfl, rfl, ?_⟩
        first
        | (rw [if_neg (show ¬ aPl X c = -2 by rw [h2, pl_beg]; omega)])
        | (rw [if_neg (show ¬ aPl X c = -2 by rw [h8, pl_end]; omega)])
        | (rw [pl_char (X := X) (c := c) (by omega) (by omega)]; by_cases hq : X 2 c = -2 <;> simp [hq] at h22 ⊢)
set_option maxHeartbeats 4000000 in
set_option maxRecDepth 100000 in
theorem kX4_mark {l : Launch} {D : va_G} {cI cZ cJ cT cC : ClassId} {ad : Nat → Nat} {A : Nat → Prop} (hD : ∀ g : Nat → va_E, va_D A (sjW 26 ad g)) (t : Int) (ht0 : 0 ≤ t) (ht1 : t < 2) (c : Int) (M : sjM) (L : sjL) (T : aS) (hT : rT T M t) (hc : isR T c) : Met l yX4_mark wsX4_mark { frames := 0, cells := 0, slots := 0, locals := 0 } (sjA D cI cZ cJ cT cC 26 ad (kR cI cZ cJ ad) [.ref (ad 0), .int (iI t), .int (iI c)] M L) (sjZ D 26 ad (kR cI cZ cJ ad) A (fun v M' L' => M = M' ∧ L = L' ∧ v = some (.int (iI (aMark T c))))) 0 0 A := by
  have hcb : -1 ≤ c ∧ c ≤ 60 := by
    rcases hc with w | w | w
    · omega
    · omega
    · have := w.1; have := w.2.2; omega
  refine g_met (cc := cX4_mark) (maxL := 3) (ret := (some .int)) (lv := [_, _, _]) (by decide) rfl hD kR_loc (List.forall_mem_cons.mpr ⟨rfl, List.forall_mem_cons.mpr ⟨rfl, List.forall_mem_cons.mpr ⟨rfl, fun _ h => absurd h List.not_mem_nil⟩⟩⟩) (Nat.le_of_ble_eq_true rfl) rfl ?_
  intro J G
  have f13 : Cond.fieldLink RX4 13 "SharedPageModel" "siteOf" "[I" ∈ wsX4_mark := by decide +kernel
  have f16 : Cond.fieldLink RX4 16 "SharedPageModel" "clockOf" "[I" ∈ wsX4_mark := by decide +kernel
  have hinX4 : ∀ w ∈ u_ws RX4 TX4 29, w ∈ wsX4_mark := fun w h => List.mem_cons_of_mem _ (List.mem_append_right _ h)
  refine g_iload_n (pc := 0) G dX4_mark_0 rfl ?_
  refine g_iconst (pc := 1) G dX4_mark_1 ?_
  refine g_icmp_ne (pc := 2) G (by omega) (by omega) 7 dX4_mark_2 (by decide) (fun h2 => ?_) (fun h2 => ?_)
  · -- 2 t
    refine g_iload_n (pc := 7) G dX4_mark_7 rfl ?_
    refine g_bipush (pc := 8) G dX4_mark_8 rfl ?_
    refine g_icmp_ne (pc := 10) G (by omega) (by omega) 19 dX4_mark_10 (by decide) (fun h10 => ?_) (fun h10 => ?_)
    · -- 10 t
      refine g_bipush (pc := 19) G dX4_mark_19 rfl ?_
      refine g_aload_n (pc := 21) G dX4_mark_21 rfl ?_
      refine g_getR (pc := 22) G hinX4 oModel rfl 2 (by decide) f13 rfl rfl dX4_mark_22 ?_
      refine g_bipush (pc := 25) G dX4_mark_25 rfl ?_
      refine g_iload_n (pc := 27) G dX4_mark_27 rfl ?_
      refine g_imul (pc := 28) G dX4_mark_28 ?_
      refine g_iload_n (pc := 29) G dX4_mark_29 rfl ?_
      refine g_iadd (pc := 30) G dX4_mark_30 ?_
      refine g_iald (pc := 31) G rSite (by omega) dX4_mark_31 ?_
      refine g_top (ld ((hT.2.1 c (by omega) (by omega)).1)) ?_
      refine g_imul (pc := 32) G dX4_mark_32 ?_
      refine g_aload_n (pc := 33) G dX4_mark_33 rfl ?_
      refine g_getR (pc := 34) G hinX4 oModel rfl 3 (by decide) f16 rfl rfl dX4_mark_34 ?_
      refine g_bipush (pc := 37) G dX4_mark_37 rfl ?_
      refine g_iload_n (pc := 39) G dX4_mark_39 rfl ?_
      refine g_imul (pc := 40) G dX4_mark_40 ?_
      refine g_iload_n (pc := 41) G dX4_mark_41 rfl ?_
      refine g_iadd (pc := 42) G dX4_mark_42 ?_
      refine g_iald (pc := 43) G rClock (by omega) dX4_mark_43 ?_
      refine g_top (ld ((hT.2.1 c (by omega) (by omega)).2.1)) ?_
      refine g_iadd (pc := 44) G dX4_mark_44 ?_
      refine g_iret (pc := 45) G dX4_mark_45 ?_
      refine ⟨rfl, rfl, ?_⟩
      unfold aMark
      first
      | (rw [if_neg (by omega), if_pos h2])
      | (rw [if_neg (by omega), if_neg (by omega)])
      | (rw [if_pos (show aHasC T c by rcases hc with w | w | w; exact absurd w h2; exact absurd w h10; exact w)]; congr 3; omega)
    · -- 10 f
      refine g_sipush (pc := 13) G dX4_mark_13 rfl ?_
      refine g_goto (pc := 16) G 45 dX4_mark_16 (by decide) ?_
      refine g_iret (pc := 45) G dX4_mark_45 ?_
      refine ⟨rfl, rfl, ?_⟩
      unfold aMark
      first
      | (rw [if_neg (by omega), if_pos h2])
      | (rw [if_neg (by omega), if_neg (by omega)])
      | (rw [if_pos (show aHasC T c by rcases hc with w | w | w; exact absurd w h2; exact absurd w h10; exact w)]; congr 3; omega)
  · -- 2 f
    refine g_iconst (pc := 5) G dX4_mark_5 ?_
    refine g_iret (pc := 6) G dX4_mark_6 ?_
    refine ⟨rfl, rfl, ?_⟩
    unfold aMark
    first
    | (rw [if_neg (by omega), if_pos h2])
    | (rw [if_neg (by omega), if_neg (by omega)])
    | (rw [if_pos (show aHasC T c by rcases hc with w | w | w; exact absurd w h2; exact absurd w h10; exact w)]; congr 3; omega)
set_option maxHeartbeats 4000000 in
set_option maxRecDepth 100000 in
theorem kX4_place {l : Launch} {D : va_G} {cI cZ cJ cT cC : ClassId} {ad : Nat → Nat} {A : Nat → Prop} (hD : ∀ g : Nat → va_E, va_D A (sjW 26 ad g)) (i : Int) (hi0 : 0 ≤ i) (hi1 : i ≤ 10) (c : Int) (M : sjM) (L : sjL) (T X : aS) (lt : Int → Int → Prop) (hX : rX X M i) (hI : cpOK T X ∧ srtL lt X) (hc : inX X c) : Met l yX4_place wsX4_place { frames := 0, cells := 0, slots := 0, locals := 0 } (sjA D cI cZ cJ cT cC 26 ad (kR cI cZ cJ ad) [.ref (ad 0), .int (iI i), .int (iI c)] M L) (sjZ D 26 ad (kR cI cZ cJ ad) A (fun v M' L' => M = M' ∧ L = L' ∧ v = some (.int (iI (aPl X c))))) 0 0 A := by
  have hcb : -1 ≤ c ∧ c ≤ 60 := by
    rcases hc with w | w | w
    · omega
    · omega
    · have := w.1; have := w.2.1; omega
  refine g_met (cc := cX4_place) (maxL := 4) (ret := (some .int)) (lv := [_, _, _, _]) (by decide) rfl hD kR_loc (List.forall_mem_cons.mpr ⟨rfl, List.forall_mem_cons.mpr ⟨rfl, List.forall_mem_cons.mpr ⟨rfl, fun _ h => absurd h List.not_mem_nil⟩⟩⟩) (Nat.le_of_ble_eq_true rfl) rfl ?_
  intro J G
  have f47 : Cond.fieldLink RX4 47 "SharedPageModel" "row" "[I" ∈ wsX4_place := by decide +kernel
  have f50 : Cond.fieldLink RX4 50 "SharedPageModel" "many" "[I" ∈ wsX4_place := by decide +kernel
  have hinX4 : ∀ w ∈ u_ws RX4 TX4 29, w ∈ wsX4_place := fun w h => List.mem_cons_of_mem _ (List.mem_append_right _ h)
  have hlen0 := hI.1.1
  have hlen1 := hI.1.2.1
  have hpl : aPl X c ≤ X 0 0 := by
    rcases hc with w | w | ⟨w0, w1, w2⟩
    · rw [w, pl_beg]; omega
    · rw [w, pl_end]; omega
    · rw [pl_char w0 w1]
      have := (cp_has hI.1 w0 w1 w2).2.2.1
      omega
  have loop : ∀ (f : Nat) (j : Int), 0 ≤ j → j ≤ aPl X c → (X 0 0 - j).toNat < f → J 9 M L [some (.ref (ad 0)), some (.int (iI i)), some (.int (iI c)), some (.int (iI j))] [] := by
    intro f
    induction f with
    | zero => intro j _ _ h; omega
    | succ f ih =>
      intro j hj0 hj1 hf
      have hhit : j < X 0 0 → X 1 j = c → j = aPl X c := by
        intro h1 h2
        obtain ⟨a, b⟩ := hI.1.2.2.1 j hj0 h1
        rw [h2] at a b
        rw [pl_char a.1 a.2.2, b]
      have hnx : j < X 0 0 → ¬ X 1 j = c → j + 1 ≤ aPl X c := by
        intro h1 h2
        have hne : ¬ j = aPl X c := by
          intro h3
          rcases hc with w | w | ⟨w0, w1, w2⟩
          · rw [w, pl_beg] at h3; omega
          · rw [w, pl_end] at h3; omega
          · rw [pl_char w0 w1] at h3
            have := (cp_has hI.1 w0 w1 w2).2.2.2
            rw [← h3] at this
            exact h2 this
        omega
      refine g_iload_n (pc := 9) G dX4_place_9 rfl ?_
      refine g_aload_n (pc := 10) G dX4_place_10 rfl ?_
      refine g_getR (pc := 11) G hinX4 oModel rfl 14 (by decide) f50 rfl rfl dX4_place_11 ?_
      refine g_iload_n (pc := 14) G dX4_place_14 rfl ?_
      refine g_iald (pc := 15) G rMany (by omega) dX4_place_15 ?_
      refine g_top (ld (hX.1)) ?_
      refine g_icmp_ge (pc := 16) G (by omega) (by omega) 41 dX4_place_16 (by decide) (fun h16 => ?_) (fun h16 => ?_)
      · -- 16 t
        refine g_iload_n (pc := 41) G dX4_place_41 rfl ?_
        refine g_iret (pc := 42) G dX4_place_42 ?_
        refine ⟨rfl, rfl, ?_⟩
        first
        | (rw [show aPl X c = j by omega])
        | (rw [← hhit h16 h31])
      · -- 16 f
        refine g_aload_n (pc := 19) G dX4_place_19 rfl ?_
        refine g_getR (pc := 20) G hinX4 oModel rfl 13 (by decide) f47 rfl rfl dX4_place_20 ?_
        refine g_bipush (pc := 23) G dX4_place_23 rfl ?_
        refine g_iload_n (pc := 25) G dX4_place_25 rfl ?_
        refine g_imul (pc := 26) G dX4_place_26 ?_
        refine g_iload_n (pc := 27) G dX4_place_27 rfl ?_
        refine g_iadd (pc := 28) G dX4_place_28 ?_
        refine g_iald (pc := 29) G rRow (by omega) dX4_place_29 ?_
        refine g_top (ld (hX.2.1 j (by omega) h16)) ?_
        refine g_iload_n (pc := 30) G dX4_place_30 rfl ?_
        refine g_icmp_eq (pc := 31) G (by have := (hI.1.2.2.1 j (by omega) h16).1.1; have := (hI.1.2.2.1 j (by omega) h16).1.2.2; omega) (by first | assumption | omega) 41 dX4_place_31 (by decide) (fun h31 => ?_) (fun h31 => ?_)
        · -- 31 t
          refine g_iload_n (pc := 41) G dX4_place_41 rfl ?_
          refine g_iret (pc := 42) G dX4_place_42 ?_
          refine ⟨rfl, rfl, ?_⟩
          first
          | (rw [show aPl X c = j by omega])
          | (rw [← hhit h16 h31])
        · -- 31 f
          refine g_iload_n (pc := 34) G dX4_place_34 rfl ?_
          refine g_iconst (pc := 35) G dX4_place_35 ?_
          refine g_iadd (pc := 36) G dX4_place_36 ?_
          refine g_istore_n (pc := 37) (lv' := [_, _, _, _]) G dX4_place_37 (by decide) rfl ?_
          refine g_goto (pc := 38) G 9 dX4_place_38 (by decide) ?_
          exact ih (j + 1) (by omega) (hnx h16 h31) (by omega)
  refine g_iload_n (pc := 0) G dX4_place_0 rfl ?_
  refine g_iconst (pc := 1) G dX4_place_1 ?_
  refine g_icmp_ne (pc := 2) G (by omega) (by omega) 7 dX4_place_2 (by decide) (fun h2 => ?_) (fun h2 => ?_)
  · -- 2 t
    have hge : ¬ c = -1 → 0 ≤ aPl X c := by
      intro h
      rcases hc with w | w | ⟨w0, w1, w2⟩
      · exact absurd w h
      · rw [w, pl_end]; exact hI.1.1
      · rw [pl_char w0 w1]; exact (cp_has hI.1 w0 w1 w2).2.1
    refine g_iconst (pc := 7) G dX4_place_7 ?_
    refine g_istore_n (pc := 8) (lv' := [_, _, _, _]) G dX4_place_8 (by decide) rfl ?_
    exact loop _ 0 (by omega) (hge h2) (Nat.lt_succ_self _)
  · -- 2 f
    refine g_iconst (pc := 5) G dX4_place_5 ?_
    refine g_iret (pc := 6) G dX4_place_6 ?_
    exact ⟨rfl, rfl, by rw [h2, pl_beg]⟩
set_option maxHeartbeats 4000000 in
set_option maxRecDepth 100000 in
theorem kX4_begins {l : Launch} {D : va_G} {cI cZ cJ cT cC : ClassId} {ad : Nat → Nat} {A : Nat → Prop} (hD : ∀ g : Nat → va_E, va_D A (sjW 26 ad g))  (M : sjM) (L : sjL)  : Met l yX4_begins wsX4_begins { frames := 0, cells := 0, slots := 0, locals := 0 } (sjA D cI cZ cJ cT cC 26 ad (kR cI cZ cJ ad) [.ref (ad 0)] M L) (sjZ D 26 ad (kR cI cZ cJ ad) A (fun v M' L' => v = none ∧ L = L' ∧ M' = sjU (sjU M 0 1 (iI 0)) 0 2 (iI 0))) 0 0 A := by
  refine g_met (cc := cX4_begins) (maxL := 1) (ret := none) (lv := [_]) (by decide) rfl hD kR_loc (List.forall_mem_cons.mpr ⟨rfl, fun _ h => absurd h List.not_mem_nil⟩) (Nat.le_of_ble_eq_true rfl) rfl ?_
  intro J G
  have f91 : Cond.fieldLink RX4 91 "SharedPageModel" "integrated" "I" ∈ wsX4_begins := by decide +kernel
  have f105 : Cond.fieldLink RX4 105 "SharedPageModel" "looked" "I" ∈ wsX4_begins := by decide +kernel
  have hinX4 : ∀ w ∈ u_ws RX4 TX4 29, w ∈ wsX4_begins := fun w h => List.mem_cons_of_mem _ (List.mem_append_right _ h)
  refine g_aload_n (pc := 0) G dX4_begins_0 rfl ?_
  refine g_iconst (pc := 1) G dX4_begins_1 ?_
  refine g_put (pc := 2) G tyX4 tyX4_ok nmX4 hinX4 oModel rfl 19 (by decide) pModel1 f105 rfl rfl rfl dX4_begins_2 ?_
  refine g_aload_n (pc := 5) G dX4_begins_5 rfl ?_
  refine g_iconst (pc := 6) G dX4_begins_6 ?_
  refine g_put (pc := 7) G tyX4 tyX4_ok nmX4 hinX4 oModel rfl 20 (by decide) pModel2 f91 rfl rfl rfl dX4_begins_7 ?_
  refine g_vret (pc := 10) G dX4_begins_10 ?_
  exact ⟨rfl, rfl, rfl⟩
set_option maxHeartbeats 4000000 in
set_option maxRecDepth 100000 in
theorem kX4_ends {l : Launch} {D : va_G} {cI cZ cJ cT cC : ClassId} {ad : Nat → Nat} {A : Nat → Prop} (hD : ∀ g : Nat → va_E, va_D A (sjW 26 ad g)) (i : Int) (hi0 : 0 ≤ i) (hi1 : i < 10) (M : sjM) (L : sjL)  : Met l yX4_ends wsX4_ends { frames := 0, cells := 0, slots := 0, locals := 0 } (sjA D cI cZ cJ cT cC 26 ad (kR cI cZ cJ ad) [.ref (ad 0), .int (iI i)] M L) (sjZ D 26 ad (kR cI cZ cJ ad) A (fun v M' L' => v = none ∧ L = L' ∧ M' = if 0 < (M 0 2).toInt then sjU M 18 i (M 0 1) else M)) 0 0 A := by
  refine g_met (cc := cX4_ends) (maxL := 2) (ret := none) (lv := [_, _]) (by decide) rfl hD kR_loc (List.forall_mem_cons.mpr ⟨rfl, List.forall_mem_cons.mpr ⟨rfl, fun _ h => absurd h List.not_mem_nil⟩⟩) (Nat.le_of_ble_eq_true rfl) rfl ?_
  intro J G
  have f62 : Cond.fieldLink RX4 62 "SharedPageModel" "looks" "[I" ∈ wsX4_ends := by decide +kernel
  have f91 : Cond.fieldLink RX4 91 "SharedPageModel" "integrated" "I" ∈ wsX4_ends := by decide +kernel
  have f105 : Cond.fieldLink RX4 105 "SharedPageModel" "looked" "I" ∈ wsX4_ends := by decide +kernel
  have hinX4 : ∀ w ∈ u_ws RX4 TX4 29, w ∈ wsX4_ends := fun w h => List.mem_cons_of_mem _ (List.mem_append_right _ h)
  refine g_aload_n (pc := 0) G dX4_ends_0 rfl ?_
  refine g_getI (pc := 1) G hinX4 oModel rfl 20 (by decide) f91 rfl rfl dX4_ends_1 ?_
  refine g_if_le (pc := 4) G (rg _) 17 dX4_ends_4 (by decide) (fun h4 => ?_) (fun h4 => ?_)
  · -- 4 t
    refine g_vret (pc := 17) G dX4_ends_17 ?_
    refine ⟨rfl, rfl, ?_⟩
    (repeat' split) <;> first | rfl | omega | (rw [iI_of])
  · -- 4 f
    refine g_aload_n (pc := 7) G dX4_ends_7 rfl ?_
    refine g_getR (pc := 8) G hinX4 oModel rfl 18 (by decide) f62 rfl rfl dX4_ends_8 ?_
    refine g_iload_n (pc := 11) G dX4_ends_11 rfl ?_
    refine g_aload_n (pc := 12) G dX4_ends_12 rfl ?_
    refine g_getI (pc := 13) G hinX4 oModel rfl 19 (by decide) f105 rfl rfl dX4_ends_13 ?_
    refine g_iast (pc := 16) G rLooks (by omega) dX4_ends_16 ?_
    refine g_vret (pc := 17) G dX4_ends_17 ?_
    refine ⟨rfl, rfl, ?_⟩
    (repeat' split) <;> first | rfl | omega | (rw [iI_of])
set_option maxHeartbeats 4000000 in
set_option maxRecDepth 100000 in
theorem kX4_none {l : Launch} {D : va_G} {cI cZ cJ cT cC : ClassId} {ad : Nat → Nat} {A : Nat → Prop} (hD : ∀ g : Nat → va_E, va_D A (sjW 26 ad g))  (M : sjM) (L : sjL)  : Met l yX4_none wsX4_none { frames := 0, cells := 0, slots := 0, locals := 0 } (sjA D cI cZ cJ cT cC 26 ad (kR cI cZ cJ ad) [.ref (ad 0)] M L) (sjZ D 26 ad (kR cI cZ cJ ad) A (fun v M' L' => v = none ∧ L = L' ∧ (∀ k, k ≠ 22 → M' k = M k) ∧ M' 22 = fun z => if 0 ≤ z ∧ z < 60 then iI 0 else M 22 z)) 0 0 A := by
  refine g_met (cc := cX4_none) (maxL := 2) (ret := none) (lv := [_, _]) (by decide) rfl hD kR_loc (List.forall_mem_cons.mpr ⟨rfl, fun _ h => absurd h List.not_mem_nil⟩) (Nat.le_of_ble_eq_true rfl) rfl ?_
  intro J G
  have f74 : Cond.fieldLink RX4 74 "SharedPageModel" "open" "[Z" ∈ wsX4_none := by decide +kernel
  have hinX4 : ∀ w ∈ u_ws RX4 TX4 29, w ∈ wsX4_none := fun w h => List.mem_cons_of_mem _ (List.mem_append_right _ h)
  have loop1 : ∀ (f : Nat) (p : Int) (M1 : sjM), 0 ≤ p → p ≤ 60 → (60 - p).toNat < f → (∀ k, k ≠ 22 → M1 k = M k) → (M1 22 = fun z => if 0 ≤ z ∧ z < p then iI 0 else M 22 z) → J 2 M1 L [some (.ref (ad 0)), some (.int (iI p))] [] := by
    intro f
    induction f with
    | zero => intro p M1 _ _ h; omega
    | succ f ih =>
      intro p M1 hp0 hp1 hf ho1 h61
      refine g_iload_n (pc := 2) G dX4_none_2 rfl ?_
      refine g_bipush (pc := 3) G dX4_none_3 rfl ?_
      refine g_icmp_ge (pc := 5) G (by first | assumption | omega) (by first | assumption | omega) 21 dX4_none_5 (by decide) (fun h5 => ?_) (fun h5 => ?_)
      · -- 5 t
        refine g_vret (pc := 21) G dX4_none_21 ?_
        exact ⟨rfl, rfl, ho1, by rw [h61, show p = 60 by omega]⟩
      · -- 5 f
        refine g_aload_n (pc := 8) G dX4_none_8 rfl ?_
        refine g_getR (pc := 9) G hinX4 oModel rfl 25 (by decide) f74 rfl rfl dX4_none_9 ?_
        refine g_iload_n (pc := 12) G dX4_none_12 rfl ?_
        refine g_iconst (pc := 13) G dX4_none_13 ?_
        refine g_zast (pc := 14) G rOpen (by omega) rfl dX4_none_14 ?_
        refine g_mem (fun M2 L2 hM2 hL2 => ?_)
        obtain rfl : L = L2 := hL2.symm
        have h22 : M2 22 = fun z => if 0 ≤ z ∧ z < p + 1 then iI 0 else M 22 z := by
          funext z
          rw [hM2, sjU_s, h61]
          show (if z = p then iI 0 else if 0 ≤ z ∧ z < p then iI 0 else M 22 z) = _
          by_cases hz : z = p
          · rw [if_pos hz, if_pos (by omega)]
          · rw [if_neg hz]
            by_cases hc : 0 ≤ z ∧ z < p
            · rw [if_pos hc, if_pos (by omega)]
            · rw [if_neg hc, if_neg (by omega)]
        have ho2 : ∀ k, k ≠ 22 → M2 k = M k := fun k hk => by rw [hM2, sjU_o hk]; exact ho1 k hk
        clear hM2
        refine g_iinc (pc := 15) (lv' := [_, _]) G dX4_none_15 (by decide) rfl rfl ?_
        refine g_goto (pc := 18) G 2 dX4_none_18 (by decide) ?_
        exact ih (p + 1) M2 (by omega) (by omega) (by omega) ho2 h22
  refine g_iconst (pc := 0) G dX4_none_0 ?_
  refine g_istore_n (pc := 1) (lv' := [_, _]) G dX4_none_1 (by decide) rfl ?_
  exact loop1 61 0 M (by omega) (by omega) (by omega) (fun _ _ => rfl) (by funext z; rw [if_neg (by omega)])
set_option maxHeartbeats 4000000 in
set_option maxRecDepth 100000 in
theorem kX4_out {l : Launch} {D : va_G} {cI cZ cJ cT cC : ClassId} {ad : Nat → Nat} {A : Nat → Prop} (hD : ∀ g : Nat → va_E, va_D A (sjW 26 ad g)) (x : Int) (hx : rng x) (M : sjM) (L : sjL) (ho : (M 0 3).toInt ≤ 60) : Met l yX4_out wsX4_out { frames := 0, cells := 0, slots := 0, locals := 0 } (sjA D cI cZ cJ cT cC 26 ad (kR cI cZ cJ ad) [.ref (ad 0), .int (iI x)] M L) (sjZ D 26 ad (kR cI cZ cJ ad) A (fun v M' L' => M' = sjU M 0 0 (iI 0) ∧ L = L' ∧ v = some (.int (iI (if 0 ≤ x ∧ x < (M 0 3).toInt then (M 19 x).toInt else -1))))) 0 0 A := by
  refine g_met (cc := cX4_out) (maxL := 2) (ret := (some .int)) (lv := [_, _]) (by decide) rfl hD kR_loc (List.forall_mem_cons.mpr ⟨rfl, List.forall_mem_cons.mpr ⟨rfl, fun _ h => absurd h List.not_mem_nil⟩⟩) (Nat.le_of_ble_eq_true rfl) rfl ?_
  intro J G
  have f65 : Cond.fieldLink RX4 65 "SharedPageModel" "out" "[I" ∈ wsX4_out := by decide +kernel
  have f87 : Cond.fieldLink RX4 87 "SharedPageModel" "told" "I" ∈ wsX4_out := by decide +kernel
  have f167 : Cond.fieldLink RX4 167 "SharedPageModel" "outs" "I" ∈ wsX4_out := by decide +kernel
  have hinX4 : ∀ w ∈ u_ws RX4 TX4 29, w ∈ wsX4_out := fun w h => List.mem_cons_of_mem _ (List.mem_append_right _ h)
  refine g_aload_n (pc := 0) G dX4_out_0 rfl ?_
  refine g_iconst (pc := 1) G dX4_out_1 ?_
  refine g_put (pc := 2) G tyX4 tyX4_ok nmX4 hinX4 oModel rfl 0 (by decide) pModel0 f87 rfl rfl rfl dX4_out_2 ?_
  refine g_mem (fun M1 L1 hM1 hL1 => ?_)
  obtain rfl : L = L1 := hL1.symm
  have e3 : M1 0 3 = M 0 3 := by rw [hM1, sjU_s, if_neg (by omega)]
  have e19 : M1 19 x = M 19 x := by rw [hM1, sjU_o (by omega)]
  refine g_iload_n (pc := 5) G dX4_out_5 rfl ?_
  refine g_if_lt (pc := 6) G (by first | assumption | omega) 26 dX4_out_6 (by decide) (fun h6 => ?_) (fun h6 => ?_)
  · -- 6 t
    refine g_iconst (pc := 26) G dX4_out_26 ?_
    refine g_iret (pc := 27) G dX4_out_27 ?_
    refine ⟨hM1, rfl, ?_⟩
    rw [← e3, ← e19]
    (repeat' split) <;> first | rfl | omega
  · -- 6 f
    rw [← e3] at ho
    refine g_iload_n (pc := 9) G dX4_out_9 rfl ?_
    refine g_aload_n (pc := 10) G dX4_out_10 rfl ?_
    refine g_getI (pc := 11) G hinX4 oModel rfl 22 (by decide) f167 rfl rfl dX4_out_11 ?_
    refine g_icmp_ge (pc := 14) G (by first | assumption | omega) (rg _) 26 dX4_out_14 (by decide) (fun h14 => ?_) (fun h14 => ?_)
    · -- 14 t
      refine g_iconst (pc := 26) G dX4_out_26 ?_
      refine g_iret (pc := 27) G dX4_out_27 ?_
      refine ⟨hM1, rfl, ?_⟩
      rw [← e3, ← e19]
      (repeat' split) <;> first | rfl | omega
    · -- 14 f
      refine g_aload_n (pc := 17) G dX4_out_17 rfl ?_
      refine g_getR (pc := 18) G hinX4 oModel rfl 21 (by decide) f65 rfl rfl dX4_out_18 ?_
      refine g_iload_n (pc := 21) G dX4_out_21 rfl ?_
      refine g_iald (pc := 22) G rOut ⟨by omega, by omega⟩ dX4_out_22 ?_
      refine g_goto (pc := 23) G 27 dX4_out_23 (by decide) ?_
      refine g_iret (pc := 27) G dX4_out_27 ?_
      refine ⟨hM1, rfl, ?_⟩
      rw [← e3, ← e19]
      (repeat' split) <;> first | rfl | omega
set_option maxHeartbeats 4000000 in
set_option maxRecDepth 100000 in
theorem kX4_allSeen {l : Launch} {D : va_G} {cI cZ cJ cT cC : ClassId} {ad : Nat → Nat} {A : Nat → Prop} (hD : ∀ g : Nat → va_E, va_D A (sjW 26 ad g)) (i : Int) (hi0 : 0 ≤ i) (hi1 : i ≤ 10) (M : sjM) (L : sjL) (T X : aS) (lt : Int → Int → Prop) (hX : rX X M i) (hI : cInv T lt X) : Met l yX4_allSeen wsX4_allSeen { frames := 0, cells := 0, slots := 0, locals := 0 } (sjA D cI cZ cJ cT cC 26 ad (kR cI cZ cJ ad) [.ref (ad 0), .int (iI i)] M L) (sjZ D 26 ad (kR cI cZ cJ ad) A (fun v M' L' => M = M' ∧ L = L' ∧ v = some (.int (iI (sc X (X 0 0)))))) 0 0 A := by
  refine g_met (cc := cX4_allSeen) (maxL := 4) (ret := (some .int)) (lv := [_, _, _, _]) (by decide) rfl hD kR_loc (List.forall_mem_cons.mpr ⟨rfl, List.forall_mem_cons.mpr ⟨rfl, fun _ h => absurd h List.not_mem_nil⟩⟩) (Nat.le_of_ble_eq_true rfl) rfl ?_
  intro J G
  have f47 : Cond.fieldLink RX4 47 "SharedPageModel" "row" "[I" ∈ wsX4_allSeen := by decide +kernel
  have f50 : Cond.fieldLink RX4 50 "SharedPageModel" "many" "[I" ∈ wsX4_allSeen := by decide +kernel
  have f56 : Cond.fieldLink RX4 56 "SharedPageModel" "erased" "[Z" ∈ wsX4_allSeen := by decide +kernel
  have hinX4 : ∀ w ∈ u_ws RX4 TX4 29, w ∈ wsX4_allSeen := fun w h => List.mem_cons_of_mem _ (List.mem_append_right _ h)
  have hlen0 := hI.1.1
  have hlen1 := hI.1.2.1
  have loop : ∀ (f : Nat) (j m : Int), 0 ≤ j → j ≤ X 0 0 → (X 0 0 - j).toNat < f → m = sc X j → J 4 M L [some (.ref (ad 0)), some (.int (iI i)), some (.int (iI m)), some (.int (iI j))] [] := by
    intro f
    induction f with
    | zero => intro j m _ _ h; omega
    | succ f ih =>
      intro j m hj0 hj1 hf hm
      refine g_iload_n (pc := 4) G dX4_allSeen_4 rfl ?_
      refine g_aload_n (pc := 5) G dX4_allSeen_5 rfl ?_
      refine g_getR (pc := 6) G hinX4 oModel rfl 14 (by decide) f50 rfl rfl dX4_allSeen_6 ?_
      refine g_iload_n (pc := 9) G dX4_allSeen_9 rfl ?_
      refine g_iald (pc := 10) G rMany (by omega) dX4_allSeen_10 ?_
      refine g_top (ld (hX.1)) ?_
      refine g_icmp_ge (pc := 11) G (by omega) (by omega) 52 dX4_allSeen_11 (by decide) (fun h11 => ?_) (fun h11 => ?_)
      · -- 11 t
        refine g_iload_n (pc := 52) G dX4_allSeen_52 rfl ?_
        refine g_iret (pc := 53) G dX4_allSeen_53 ?_
        exact ⟨rfl, rfl, by rw [hm, show X 0 0 = j by omega]⟩
      · -- 11 f
        refine g_iload_n (pc := 14) G dX4_allSeen_14 rfl ?_
        refine g_aload_n (pc := 15) G dX4_allSeen_15 rfl ?_
        refine g_getR (pc := 16) G hinX4 oModel rfl 16 (by decide) f56 rfl rfl dX4_allSeen_16 ?_
        refine g_bipush (pc := 19) G dX4_allSeen_19 rfl ?_
        refine g_iload_n (pc := 21) G dX4_allSeen_21 rfl ?_
        refine g_imul (pc := 22) G dX4_allSeen_22 ?_
        refine g_aload_n (pc := 23) G dX4_allSeen_23 rfl ?_
        refine g_getR (pc := 24) G hinX4 oModel rfl 13 (by decide) f47 rfl rfl dX4_allSeen_24 ?_
        refine g_bipush (pc := 27) G dX4_allSeen_27 rfl ?_
        refine g_iload_n (pc := 29) G dX4_allSeen_29 rfl ?_
        refine g_imul (pc := 30) G dX4_allSeen_30 ?_
        refine g_iload_n (pc := 31) G dX4_allSeen_31 rfl ?_
        refine g_iadd (pc := 32) G dX4_allSeen_32 ?_
        refine g_iald (pc := 33) G rRow (by omega) dX4_allSeen_33 ?_
        refine g_top (ld (hX.2.1 j hj0 h11)) ?_
        refine g_iadd (pc := 34) G dX4_allSeen_34 ?_
        refine g_zald (pc := 35) G rErased (by have := (hI.1.2.2.1 j hj0 h11).1.1; have := (hI.1.2.2.1 j hj0 h11).1.2.2; omega) dX4_allSeen_35 ?_
        refine g_top (ld ((hX.2.2.1 (X 1 j) (hI.1.2.2.1 j hj0 h11).1.1 (hI.1.2.2.1 j hj0 h11).1.2.2).2)) ?_
        refine g_if_eq (pc := 36) G (by rcases hI.2.2.1.2.2.2.2 (X 1 j) (hI.1.2.2.1 j hj0 h11).1.1 (hI.1.2.2.1 j hj0 h11).1.2.2 with w | w <;> omega) 43 dX4_allSeen_36 (by decide) (fun h36 => ?_) (fun h36 => ?_)
        · -- 36 t
          refine g_iconst (pc := 43) G dX4_allSeen_43 ?_
          refine g_iadd (pc := 44) G dX4_allSeen_44 ?_
          refine g_istore_n (pc := 45) (lv' := [_, _, _, _]) G dX4_allSeen_45 (by decide) rfl ?_
          refine g_iinc (pc := 46) (lv' := [_, _, _, _]) G dX4_allSeen_46 (by decide) rfl rfl ?_
          refine g_goto (pc := 49) G 4 dX4_allSeen_49 (by decide) ?_
          first
          | exact ih (j + 1) _ (by omega) (by omega) (by omega) (by rw [sc_s hj0, show iq (X 3 (X 1 j)) 0 = 0 by unfold iq; rw [if_neg h36]]; omega)
          | exact ih (j + 1) _ (by omega) (by omega) (by omega) (by rw [sc_s hj0, show iq (X 3 (X 1 j)) 0 = 1 by unfold iq; rw [if_pos h36]]; omega)
        · -- 36 f
          refine g_iconst (pc := 39) G dX4_allSeen_39 ?_
          refine g_goto (pc := 40) G 44 dX4_allSeen_40 (by decide) ?_
          refine g_iadd (pc := 44) G dX4_allSeen_44 ?_
          refine g_istore_n (pc := 45) (lv' := [_, _, _, _]) G dX4_allSeen_45 (by decide) rfl ?_
          refine g_iinc (pc := 46) (lv' := [_, _, _, _]) G dX4_allSeen_46 (by decide) rfl rfl ?_
          refine g_goto (pc := 49) G 4 dX4_allSeen_49 (by decide) ?_
          first
          | exact ih (j + 1) _ (by omega) (by omega) (by omega) (by rw [sc_s hj0, show iq (X 3 (X 1 j)) 0 = 0 by unfold iq; rw [if_neg h36]]; omega)
          | exact ih (j + 1) _ (by omega) (by omega) (by omega) (by rw [sc_s hj0, show iq (X 3 (X 1 j)) 0 = 1 by unfold iq; rw [if_pos h36]]; omega)
  refine g_iconst (pc := 0) G dX4_allSeen_0 ?_
  refine g_istore_n (pc := 1) (lv' := [_, _, _, _]) G dX4_allSeen_1 (by decide) rfl ?_
  refine g_iconst (pc := 2) G dX4_allSeen_2 ?_
  refine g_istore_n (pc := 3) (lv' := [_, _, _, _]) G dX4_allSeen_3 (by decide) rfl ?_
  exact loop _ 0 0 (by omega) (by omega) (Nat.lt_succ_self _) (sc_0 X).symm
/-- how many of the first k messages are in state w -/
def cs (X : aS) (w k : Int) : Int := cn (fun q => iq (X 4 q) w) k.toNat
theorem cs_s {X : aS} {w k : Int} (h : 0 ≤ k) : cs X w (k + 1) = cs X w k + iq (X 4 k) w := by
  unfold cs
  rw [show (k + 1).toNat = k.toNat + 1 by omega, cn, show ((k.toNat : Nat) : Int) = k by omega]
theorem cs_0 (X : aS) (w : Int) : cs X w 0 = 0 := rfl
theorem cs_all {T X : aS} {w : Int} (ht : tInv T) (hs : stOK T X) (hw : ¬ w = 0) : cs X w (T 0 1) = nSt X w := by
  obtain ⟨_, _, t2, t3, _⟩ := ht
  have h : ∀ d : Nat, T 0 1 + d ≤ 160 → cs X w (T 0 1 + d) = cs X w (T 0 1) := by
    intro d
    induction d with
    | zero => intro _; rw [show T 0 1 + ((0 : Nat) : Int) = T 0 1 by omega]
    | succ d ih =>
      intro hd
      rw [show T 0 1 + ((d + 1 : Nat) : Int) = (T 0 1 + d) + 1 by omega, cs_s (by omega), ih (by omega), hs.2.1 _ (by omega) (by omega)]
      unfold iq
      rw [if_neg (Ne.symm hw)]
      omega
  have h1 := h (160 - T 0 1).toNat (by omega)
  rw [show T 0 1 + ((160 - T 0 1).toNat : Int) = 160 by omega] at h1
  rw [← h1]
  rfl
set_option maxHeartbeats 4000000 in
set_option maxRecDepth 100000 in
theorem kX4_count {l : Launch} {D : va_G} {cI cZ cJ cT cC : ClassId} {ad : Nat → Nat} {A : Nat → Prop} (hD : ∀ g : Nat → va_E, va_D A (sjW 26 ad g)) (i : Int) (hi0 : 0 ≤ i) (hi1 : i ≤ 10) (t : Int) (ht0 : 0 ≤ t) (ht1 : t < 2) (w : Int) (hw : rng w) (M : sjM) (L : sjL) (T X : aS) (lt : Int → Int → Prop) (hX : rX X M i) (hI : cInv T lt X) (hT : rT T M t) (hm0 : 0 ≤ T 0 1) (hm1 : T 0 1 ≤ 160) : Met l yX4_count wsX4_count { frames := 0, cells := 0, slots := 0, locals := 0 } (sjA D cI cZ cJ cT cC 26 ad (kR cI cZ cJ ad) [.ref (ad 0), .int (iI i), .int (iI t), .int (iI w)] M L) (sjZ D 26 ad (kR cI cZ cJ ad) A (fun v M' L' => M = M' ∧ L = L' ∧ v = some (.int (iI (cs X w (T 0 1)))))) 0 0 A := by
  refine g_met (cc := cX4_count) (maxL := 6) (ret := (some .int)) (lv := [_, _, _, _, _, _]) (by decide) rfl hD kR_loc (List.forall_mem_cons.mpr ⟨rfl, List.forall_mem_cons.mpr ⟨rfl, List.forall_mem_cons.mpr ⟨rfl, List.forall_mem_cons.mpr ⟨rfl, fun _ h => absurd h List.not_mem_nil⟩⟩⟩⟩) (Nat.le_of_ble_eq_true rfl) rfl ?_
  intro J G
  have f31 : Cond.fieldLink RX4 31 "SharedPageModel" "messages" "[I" ∈ wsX4_count := by decide +kernel
  have f59 : Cond.fieldLink RX4 59 "SharedPageModel" "state" "[I" ∈ wsX4_count := by decide +kernel
  have hinX4 : ∀ w ∈ u_ws RX4 TX4 29, w ∈ wsX4_count := fun w h => List.mem_cons_of_mem _ (List.mem_append_right _ h)
  have loop : ∀ (f : Nat) (k m : Int), 0 ≤ k → k ≤ T 0 1 → (T 0 1 - k).toNat < f → m = cs X w k → J 6 M L [some (.ref (ad 0)), some (.int (iI i)), some (.int (iI t)), some (.int (iI w)), some (.int (iI m)), some (.int (iI k))] [] := by
    intro f
    induction f with
    | zero => intro k m _ _ h; omega
    | succ f ih =>
      intro k m hk0 hk1 hf hm
      refine g_iload (pc := 6) G dX4_count_6 rfl ?_
      refine g_aload_n (pc := 8) G dX4_count_8 rfl ?_
      refine g_getR (pc := 9) G hinX4 oModel rfl 8 (by decide) f31 rfl rfl dX4_count_9 ?_
      refine g_iload_n (pc := 12) G dX4_count_12 rfl ?_
      refine g_iald (pc := 13) G rMsgs (by omega) dX4_count_13 ?_
      refine g_top (ld (hT.1.2.1)) ?_
      refine g_icmp_ge (pc := 14) G (by omega) (by omega) 50 dX4_count_14 (by decide) (fun h14 => ?_) (fun h14 => ?_)
      · -- 14 t
        refine g_iload (pc := 50) G dX4_count_50 rfl ?_
        refine g_iret (pc := 52) G dX4_count_52 ?_
        exact ⟨rfl, rfl, by rw [hm, show T 0 1 = k by omega]⟩
      · -- 14 f
        refine g_iload (pc := 17) G dX4_count_17 rfl ?_
        refine g_aload_n (pc := 19) G dX4_count_19 rfl ?_
        refine g_getR (pc := 20) G hinX4 oModel rfl 17 (by decide) f59 rfl rfl dX4_count_20 ?_
        refine g_sipush (pc := 23) G dX4_count_23 rfl ?_
        refine g_iload_n (pc := 26) G dX4_count_26 rfl ?_
        refine g_imul (pc := 27) G dX4_count_27 ?_
        refine g_iload (pc := 28) G dX4_count_28 rfl ?_
        refine g_iadd (pc := 30) G dX4_count_30 ?_
        refine g_iald (pc := 31) G rState (by omega) dX4_count_31 ?_
        refine g_top (ld (hX.2.2.2 k hk0 (by omega))) ?_
        refine g_iload_n (pc := 32) G dX4_count_32 rfl ?_
        refine g_icmp_ne (pc := 33) G (by rcases hI.2.2.1.1 k hk0 (by omega) with q | q | q <;> omega) (by first | assumption | omega) 40 dX4_count_33 (by decide) (fun h33 => ?_) (fun h33 => ?_)
        · -- 33 t
          refine g_iconst (pc := 40) G dX4_count_40 ?_
          refine g_iadd (pc := 41) G dX4_count_41 ?_
          refine g_istore (pc := 42) (lv' := [_, _, _, _, _, _]) G dX4_count_42 (by decide) rfl ?_
          refine g_iinc (pc := 44) (lv' := [_, _, _, _, _, _]) G dX4_count_44 (by decide) rfl rfl ?_
          refine g_goto (pc := 47) G 6 dX4_count_47 (by decide) ?_
          first
          | exact ih (k + 1) _ (by omega) (by omega) (by omega) (by rw [cs_s hk0, show iq (X 4 k) w = 0 by unfold iq; rw [if_neg h33]]; omega)
          | exact ih (k + 1) _ (by omega) (by omega) (by omega) (by rw [cs_s hk0, show iq (X 4 k) w = 1 by unfold iq; rw [if_pos h33]]; omega)
        · -- 33 f
          refine g_iconst (pc := 36) G dX4_count_36 ?_
          refine g_goto (pc := 37) G 41 dX4_count_37 (by decide) ?_
          refine g_iadd (pc := 41) G dX4_count_41 ?_
          refine g_istore (pc := 42) (lv' := [_, _, _, _, _, _]) G dX4_count_42 (by decide) rfl ?_
          refine g_iinc (pc := 44) (lv' := [_, _, _, _, _, _]) G dX4_count_44 (by decide) rfl rfl ?_
          refine g_goto (pc := 47) G 6 dX4_count_47 (by decide) ?_
          first
          | exact ih (k + 1) _ (by omega) (by omega) (by omega) (by rw [cs_s hk0, show iq (X 4 k) w = 0 by unfold iq; rw [if_neg h33]]; omega)
          | exact ih (k + 1) _ (by omega) (by omega) (by omega) (by rw [cs_s hk0, show iq (X 4 k) w = 1 by unfold iq; rw [if_pos h33]]; omega)
  refine g_iconst (pc := 0) G dX4_count_0 ?_
  refine g_istore (pc := 1) (lv' := [_, _, _, _, _, _]) G dX4_count_1 (by decide) rfl ?_
  refine g_iconst (pc := 3) G dX4_count_3 ?_
  refine g_istore (pc := 4) (lv' := [_, _, _, _, _, _]) G dX4_count_4 (by decide) rfl ?_
  exact loop _ 0 0 (by omega) (by omega) (Nat.lt_succ_self _) (cs_0 X w).symm
/-- the place of the one that is seen at n, -1 if there is none -/
def aSP (X : aS) (n : Int) : Int := if aSeenAt X n = 60 then -1 else X 2 (aSeenAt X n)
theorem sc_b {T X : aS} {lt : Int → Int → Prop} (hI : cInv T lt X) {j : Int} (h0 : 0 ≤ j) (h1 : j ≤ X 0 0) : 0 ≤ sc X j ∧ sc X j ≤ 60 := by
  have h := cn_le (f := fun q => iq (X 3 (X 1 q)) 0) j.toNat (fun q _ _ => iq_01 _ _)
  have := hI.1.2.1
  unfold sc
  omega
theorem seen_hit {T X : aS} {lt : Int → Int → Prop} (hI : cInv T lt X) {j n : Int} (h0 : 0 ≤ j) (h1 : j < X 0 0) (h3 : X 3 (X 1 j) = 0) (hs : sc X j = n) : aSP X n = j := by
  obtain ⟨a, b⟩ := hI.1.2.2.1 j h0 h1
  have hn0 : 0 ≤ n := by have := sc_b hI h0 (by omega); omega
  rcases seenAt_spec hI.1 hn0 with w | ⟨p, p0, p1, p2, p3, p4⟩
  · have h8 := sc_le (X := X) (show 0 ≤ j + 1 by omega) (show j + 1 ≤ X 0 0 by omega)
    rw [sc_s h0, h3, show iq 0 0 = 1 from rfl] at h8
    omega
  · have hpj : p = j := by
      rcases Int.lt_or_le p j with w | w
      · have h8 := sc_le (X := X) (show 0 ≤ p + 1 by omega) (show p + 1 ≤ j by omega)
        rw [sc_s p0, p4, show iq 0 0 = 1 from rfl] at h8
        omega
      · rcases Int.lt_or_eq_of_le w with v | v
        · have h8 := sc_le (X := X) (show 0 ≤ j + 1 by omega) (show j + 1 ≤ p by omega)
          rw [sc_s h0, h3, show iq 0 0 = 1 from rfl] at h8
          omega
        · exact v.symm
    unfold aSP
    rw [p2, hpj, if_neg (by omega), b]
theorem seen_no {T X : aS} {lt : Int → Int → Prop} (hI : cInv T lt X) {n : Int} (hs : sc X (X 0 0) ≤ n) : aSP X n = -1 := by
  have h9 := sc_b hI hI.1.1 (Int.le_refl _)
  have h8 := seen_len hI
  unfold aSP
  rw [seenAt_end hI (by omega) (by omega), if_pos rfl]
set_option maxHeartbeats 4000000 in
set_option maxRecDepth 100000 in
theorem kX4_seen {l : Launch} {D : va_G} {cI cZ cJ cT cC : ClassId} {ad : Nat → Nat} {A : Nat → Prop} (hD : ∀ g : Nat → va_E, va_D A (sjW 26 ad g)) (i : Int) (hi0 : 0 ≤ i) (hi1 : i ≤ 10) (n : Int) (hn : rng n) (hn0 : 0 ≤ n) (M : sjM) (L : sjL) (T X : aS) (lt : Int → Int → Prop) (hX : rX X M i) (hI : cInv T lt X) : Met l yX4_seen wsX4_seen { frames := 0, cells := 0, slots := 0, locals := 0 } (sjA D cI cZ cJ cT cC 26 ad (kR cI cZ cJ ad) [.ref (ad 0), .int (iI i), .int (iI n)] M L) (sjZ D 26 ad (kR cI cZ cJ ad) A (fun v M' L' => M = M' ∧ L = L' ∧ v = some (.int (iI (aSP X n))))) 0 0 A := by
  refine g_met (cc := cX4_seen) (maxL := 5) (ret := (some .int)) (lv := [_, _, _, _, _]) (by decide) rfl hD kR_loc (List.forall_mem_cons.mpr ⟨rfl, List.forall_mem_cons.mpr ⟨rfl, List.forall_mem_cons.mpr ⟨rfl, fun _ h => absurd h List.not_mem_nil⟩⟩⟩) (Nat.le_of_ble_eq_true rfl) rfl ?_
  intro J G
  have f47 : Cond.fieldLink RX4 47 "SharedPageModel" "row" "[I" ∈ wsX4_seen := by decide +kernel
  have f50 : Cond.fieldLink RX4 50 "SharedPageModel" "many" "[I" ∈ wsX4_seen := by decide +kernel
  have f56 : Cond.fieldLink RX4 56 "SharedPageModel" "erased" "[Z" ∈ wsX4_seen := by decide +kernel
  have hinX4 : ∀ w ∈ u_ws RX4 TX4 29, w ∈ wsX4_seen := fun w h => List.mem_cons_of_mem _ (List.mem_append_right _ h)
  have hlen0 := hI.1.1
  have hlen1 := hI.1.2.1
  have loop : ∀ (f : Nat) (j m : Int), 0 ≤ j → j ≤ X 0 0 → (X 0 0 - j).toNat < f → m = sc X j → m ≤ n → J 5 M L [some (.ref (ad 0)), some (.int (iI i)), some (.int (iI n)), some (.int (iI m)), some (.int (iI j))] [] := by
    intro f
    induction f with
    | zero => intro j m _ _ h; omega
    | succ f ih =>
      intro j m hj0 hj1 hf hm hmn
      refine g_iload (pc := 5) G dX4_seen_5 rfl ?_
      refine g_aload_n (pc := 7) G dX4_seen_7 rfl ?_
      refine g_getR (pc := 8) G hinX4 oModel rfl 14 (by decide) f50 rfl rfl dX4_seen_8 ?_
      refine g_iload_n (pc := 11) G dX4_seen_11 rfl ?_
      refine g_iald (pc := 12) G rMany (by omega) dX4_seen_12 ?_
      refine g_top (ld (hX.1)) ?_
      refine g_icmp_ge (pc := 13) G (by omega) (by omega) 62 dX4_seen_13 (by decide) (fun h13 => ?_) (fun h13 => ?_)
      · -- 13 t
        refine g_iconst (pc := 62) G dX4_seen_62 ?_
        refine g_iret (pc := 63) G dX4_seen_63 ?_
        exact ⟨rfl, rfl, by rw [seen_no hI (by rw [show X 0 0 = j by omega]; omega)]⟩
      · -- 13 f
        refine g_aload_n (pc := 16) G dX4_seen_16 rfl ?_
        refine g_getR (pc := 17) G hinX4 oModel rfl 16 (by decide) f56 rfl rfl dX4_seen_17 ?_
        refine g_bipush (pc := 20) G dX4_seen_20 rfl ?_
        refine g_iload_n (pc := 22) G dX4_seen_22 rfl ?_
        refine g_imul (pc := 23) G dX4_seen_23 ?_
        refine g_aload_n (pc := 24) G dX4_seen_24 rfl ?_
        refine g_getR (pc := 25) G hinX4 oModel rfl 13 (by decide) f47 rfl rfl dX4_seen_25 ?_
        refine g_bipush (pc := 28) G dX4_seen_28 rfl ?_
        refine g_iload_n (pc := 30) G dX4_seen_30 rfl ?_
        refine g_imul (pc := 31) G dX4_seen_31 ?_
        refine g_iload (pc := 32) G dX4_seen_32 rfl ?_
        refine g_iadd (pc := 34) G dX4_seen_34 ?_
        refine g_iald (pc := 35) G rRow (by omega) dX4_seen_35 ?_
        refine g_top (ld (hX.2.1 j hj0 h13)) ?_
        refine g_iadd (pc := 36) G dX4_seen_36 ?_
        refine g_zald (pc := 37) G rErased (by have := (hI.1.2.2.1 j hj0 h13).1.1; have := (hI.1.2.2.1 j hj0 h13).1.2.2; omega) dX4_seen_37 ?_
        refine g_top (ld ((hX.2.2.1 (X 1 j) (hI.1.2.2.1 j hj0 h13).1.1 (hI.1.2.2.1 j hj0 h13).1.2.2).2)) ?_
        refine g_if_eq (pc := 38) G (by rcases hI.2.2.1.2.2.2.2 (X 1 j) (hI.1.2.2.1 j hj0 h13).1.1 (hI.1.2.2.1 j hj0 h13).1.2.2 with w | w <;> omega) 44 dX4_seen_38 (by decide) (fun h38 => ?_) (fun h38 => ?_)
        · -- 38 t
          refine g_iload_n (pc := 44) G dX4_seen_44 rfl ?_
          refine g_iload_n (pc := 45) G dX4_seen_45 rfl ?_
          refine g_icmp_ne (pc := 46) G (by have := sc_b hI hj0 hj1; omega) hn 52 dX4_seen_46 (by decide) (fun h46 => ?_) (fun h46 => ?_)
          · -- 46 t
            refine g_iload_n (pc := 52) G dX4_seen_52 rfl ?_
            refine g_iconst (pc := 53) G dX4_seen_53 ?_
            refine g_iadd (pc := 54) G dX4_seen_54 ?_
            refine g_istore_n (pc := 55) (lv' := [_, _, _, _, _]) G dX4_seen_55 (by decide) rfl ?_
            refine g_iinc (pc := 56) (lv' := [_, _, _, _, _]) G dX4_seen_56 (by decide) rfl rfl ?_
            refine g_goto (pc := 59) G 5 dX4_seen_59 (by decide) ?_
            first
            | exact ih (j + 1) m (by omega) (by omega) (by omega) (by rw [sc_s hj0, show iq (X 3 (X 1 j)) 0 = 0 by unfold iq; rw [if_neg h38]]; omega) (by omega)
            | exact ih (j + 1) (m + 1) (by omega) (by omega) (by omega) (by rw [sc_s hj0, show iq (X 3 (X 1 j)) 0 = 1 by unfold iq; rw [if_pos h38]]; omega) (by omega)
          · -- 46 f
            refine g_iload (pc := 49) G dX4_seen_49 rfl ?_
            refine g_iret (pc := 51) G dX4_seen_51 ?_
            exact ⟨rfl, rfl, by rw [seen_hit hI hj0 h13 h38 (hm.symm.trans h46)]⟩
        · -- 38 f
          refine g_goto (pc := 41) G 56 dX4_seen_41 (by decide) ?_
          refine g_iinc (pc := 56) (lv' := [_, _, _, _, _]) G dX4_seen_56 (by decide) rfl rfl ?_
          refine g_goto (pc := 59) G 5 dX4_seen_59 (by decide) ?_
          first
          | exact ih (j + 1) m (by omega) (by omega) (by omega) (by rw [sc_s hj0, show iq (X 3 (X 1 j)) 0 = 0 by unfold iq; rw [if_neg h38]]; omega) (by omega)
          | exact ih (j + 1) (m + 1) (by omega) (by omega) (by omega) (by rw [sc_s hj0, show iq (X 3 (X 1 j)) 0 = 1 by unfold iq; rw [if_pos h38]]; omega) (by omega)
  refine g_iconst (pc := 0) G dX4_seen_0 ?_
  refine g_istore_n (pc := 1) (lv' := [_, _, _, _, _]) G dX4_seen_1 (by decide) rfl ?_
  refine g_iconst (pc := 2) G dX4_seen_2 ?_
  refine g_istore (pc := 3) (lv' := [_, _, _, _, _]) G dX4_seen_3 (by decide) rfl ?_
  exact loop _ 0 0 (by omega) (by omega) (Nat.lt_succ_self _) (sc_0 X).symm hn0
