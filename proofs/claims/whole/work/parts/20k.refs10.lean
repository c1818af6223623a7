/-- nothing but the cells of text t has changed -/
def onTx (M M' : sjM) (t : Int) : Prop := (∀ k, k = 0 ∨ 13 ≤ k → M' k = M k) ∧ (∀ z, ¬ z = t → M' 1 z = M 1 z ∧ M' 8 z = M 8 z ∧ M' 9 z = M 9 z) ∧ (∀ z, ¬ (60 * t ≤ z ∧ z < 60 * t + 60) → M' 2 z = M 2 z ∧ M' 3 z = M 3 z ∧ M' 4 z = M 4 z ∧ M' 5 z = M 5 z ∧ M' 6 z = M 6 z) ∧ (∀ z, ¬ (5 * t ≤ z ∧ z < 5 * t + 5) → M' 7 z = M 7 z) ∧ ∀ z, ¬ (160 * t ≤ z ∧ z < 160 * t + 160) → M' 10 z = M 10 z ∧ M' 11 z = M 11 z ∧ M' 12 z = M 12 z
theorem onTx_tr {M M1 M2 : sjM} {t : Int} (h1 : onTx M M1 t) (h2 : onTx M1 M2 t) : onTx M M2 t := by
  obtain ⟨a1, a2, a3, a4, a5⟩ := h1
  obtain ⟨b1, b2, b3, b4, b5⟩ := h2
  refine ⟨fun k hk => (b1 k hk).trans (a1 k hk), fun z hz => ?_, fun z hz => ?_, fun z hz => (b4 z hz).trans (a4 z hz), fun z hz => ?_⟩
  · obtain ⟨p1, p2, p3⟩ := a2 z hz
    obtain ⟨q1, q2, q3⟩ := b2 z hz
    exact ⟨q1.trans p1, q2.trans p2, q3.trans p3⟩
  · obtain ⟨p1, p2, p3, p4, p5⟩ := a3 z hz
    obtain ⟨q1, q2, q3, q4, q5⟩ := b3 z hz
    exact ⟨q1.trans p1, q2.trans p2, q3.trans p3, q4.trans p4, q5.trans p5⟩
  · obtain ⟨p1, p2, p3⟩ := a5 z hz
    obtain ⟨q1, q2, q3⟩ := b5 z hz
    exact ⟨q1.trans p1, q2.trans p2, q3.trans p3⟩
theorem rT_on {T : aS} {M M' : sjM} {t u : Int} (h : rT T M u) (ho : onTx M M' t) (hu : ¬ u = t) : rT T M' u := by
  obtain ⟨⟨h1, h8, h9⟩, h2, h7, h10⟩ := h
  obtain ⟨b1, b2, b3, b4, b5⟩ := ho
  obtain ⟨q1, q2, q3⟩ := b2 u hu
  refine ⟨⟨by rw [q1]; exact h1, by rw [q2]; exact h8, by rw [q3]; exact h9⟩, fun c c0 c1 => ?_, fun s s0 s1 => by rw [b4 _ (by omega)]; exact h7 s s0 s1, fun k k0 k1 => ?_⟩
  · obtain ⟨e1, e2, e3, e4, e5⟩ := b3 (60 * u + c) (by omega)
    rw [e1, e2, e3, e4, e5]; exact h2 c c0 c1
  · obtain ⟨e1, e2, e3⟩ := b5 (160 * u + k) (by omega)
    rw [e1, e2, e3]; exact h10 k k0 k1
theorem rAll_tx {Tf Xf : Int → aS} {M M' : sjM} {t : Int} {T' : aS} (h : rAll Tf Xf M) (ho : onTx M M' t) (hT : rT T' M' t) : rAll (updF Tf t T') Xf M' := by
  refine ⟨fun u h0 h1 => ?_, fun i h0 h1 => ⟨rX_of (h.2 i h0 h1).1 (fun k a b => ho.1 k (by omega)), by rw [ho.1 18 (by omega)]; exact (h.2 i h0 h1).2⟩⟩
  show rT (if u = t then T' else Tf u) M' u
  by_cases hu : u = t
  · rw [if_pos hu, hu]; exact hT
  · rw [if_neg hu]; exact rT_on (h.1 u h0 h1) ho hu
theorem msg_rT {T : aS} {M M4 : sjM} {t er st c : Int} (hT : rT T M t) (hm0 : 0 ≤ T 0 1) (hm1 : T 0 1 < 160) (h : M4 = sjU (sjU (sjU (sjU M 10 (160 * t + T 0 1) (iI er)) 11 (160 * t + T 0 1) (iI c)) 12 (160 * t + T 0 1) (iI st)) 8 t (iI (T 0 1 + 1))) : rT (aMsg T er st c) M4 t ∧ onTx M M4 t := by
  have q8 : ∀ z, M4 8 z = if z = t then iI (T 0 1 + 1) else M 8 z := fun z => by rw [h, sjU_s, sjU_o (by omega), sjU_o (by omega), sjU_o (by omega)]
  have q10 : ∀ z, M4 10 z = if z = 160 * t + T 0 1 then iI er else M 10 z := fun z => by rw [h, sjU_o (by omega), sjU_o (by omega), sjU_o (by omega), sjU_s]
  have q11 : ∀ z, M4 11 z = if z = 160 * t + T 0 1 then iI c else M 11 z := fun z => by rw [h, sjU_o (by omega), sjU_o (by omega), sjU_s, sjU_o (by omega)]
  have q12 : ∀ z, M4 12 z = if z = 160 * t + T 0 1 then iI st else M 12 z := fun z => by rw [h, sjU_o (by omega), sjU_s, sjU_o (by omega), sjU_o (by omega)]
  have qo : ∀ k, k ≠ 8 → k ≠ 10 → k ≠ 11 → k ≠ 12 → M4 k = M k := fun k a b c d => by rw [h, sjU_o a, sjU_o d, sjU_o c, sjU_o b]
  have a0 : ∀ j z, ¬ j = 6 → ¬ j = 7 → ¬ j = 8 → ¬ (j = 0 ∧ z = 1) → aMsg T er st c j z = T j z := fun j z h6 h7 h8 h0 => by
    unfold aMsg; rw [aUp_ne h0, aUp_ne (fun w => h8 w.1), aUp_ne (fun w => h7 w.1), aUp_ne (fun w => h6 w.1)]
  have a01 : aMsg T er st c 0 1 = T 0 1 + 1 := by unfold aMsg; rw [aUp_eq]
  have a6 : ∀ z, aMsg T er st c 6 z = if z = T 0 1 then er else T 6 z := fun z => by simp [aMsg, aUp]
  have a7 : ∀ z, aMsg T er st c 7 z = if z = T 0 1 then st else T 7 z := fun z => by simp [aMsg, aUp]
  have a8 : ∀ z, aMsg T er st c 8 z = if z = T 0 1 then c else T 8 z := fun z => by simp [aMsg, aUp]
  obtain ⟨⟨h1, h8, h9⟩, h2, h7, h10⟩ := hT
  refine ⟨⟨⟨?_, ?_, ?_⟩, fun x x0 x1 => ?_, fun s s0 s1 => ?_, fun k k0 k1 => ⟨?_, ?_, ?_⟩⟩, ⟨fun k hk => qo k (by omega) (by omega) (by omega) (by omega), fun z hz => ⟨by rw [qo 1 (by omega) (by omega) (by omega) (by omega)], by rw [q8, if_neg hz], by rw [qo 9 (by omega) (by omega) (by omega) (by omega)]⟩, fun z hz => ⟨by rw [qo 2 (by omega) (by omega) (by omega) (by omega)], by rw [qo 3 (by omega) (by omega) (by omega) (by omega)], by rw [qo 4 (by omega) (by omega) (by omega) (by omega)], by rw [qo 5 (by omega) (by omega) (by omega) (by omega)], by rw [qo 6 (by omega) (by omega) (by omega) (by omega)]⟩, fun z hz => by rw [qo 7 (by omega) (by omega) (by omega) (by omega)], fun z hz => ⟨by rw [q10, if_neg (by omega)], by rw [q11, if_neg (by omega)], by rw [q12, if_neg (by omega)]⟩⟩⟩
  · rw [qo 1 (by omega) (by omega) (by omega) (by omega), a0 0 0 (by omega) (by omega) (by omega) (by omega)]; exact h1
  · rw [q8, if_pos rfl, a01]
  · rw [qo 9 (by omega) (by omega) (by omega) (by omega), a0 0 2 (by omega) (by omega) (by omega) (by omega)]; exact h9
  · rw [qo 2 (by omega) (by omega) (by omega) (by omega), qo 3 (by omega) (by omega) (by omega) (by omega), qo 4 (by omega) (by omega) (by omega) (by omega), qo 5 (by omega) (by omega) (by omega) (by omega), qo 6 (by omega) (by omega) (by omega) (by omega), a0 1 x (by omega) (by omega) (by omega) (by omega), a0 2 x (by omega) (by omega) (by omega) (by omega), a0 3 x (by omega) (by omega) (by omega) (by omega), a0 4 x (by omega) (by omega) (by omega) (by omega), a0 5 x (by omega) (by omega) (by omega) (by omega)]
    exact h2 x x0 x1
  · rw [qo 7 (by omega) (by omega) (by omega) (by omega), a0 9 s (by omega) (by omega) (by omega) (by omega)]; exact h7 s s0 s1
  · rw [q10, a6]
    by_cases hk : k = T 0 1
    · rw [if_pos (by omega), if_pos hk]
    · rw [if_neg (by omega), if_neg hk]; exact (h10 k k0 k1).1
  · rw [q11, a8]
    by_cases hk : k = T 0 1
    · rw [if_pos (by omega), if_pos hk]
    · rw [if_neg (by omega), if_neg hk]; exact (h10 k k0 k1).2.1
  · rw [q12, a7]
    by_cases hk : k = T 0 1
    · rw [if_pos (by omega), if_pos hk]
    · rw [if_neg (by omega), if_neg hk]; exact (h10 k k0 k1).2.2
set_option maxHeartbeats 4000000 in
set_option maxRecDepth 100000 in
theorem kX4_message {l : Launch} {D : va_G} {cI cZ cJ cT cC : ClassId} {ad : Nat → Nat} {A : Nat → Prop} (hD : ∀ g : Nat → va_E, va_D A (sjW 26 ad g)) (t : Int) (ht0 : 0 ≤ t) (ht1 : t < 2) (st c er : Int) (her : er = 0 ∨ er = 1) (M : sjM) (L : sjL) (T : aS) (hT : rT T M t) (hm0 : 0 ≤ T 0 1) (hm1 : T 0 1 < 160) : Met l yX4_message wsX4_message { frames := 0, cells := 0, slots := 0, locals := 0 } (sjA D cI cZ cJ cT cC 26 ad (kR cI cZ cJ ad) [.ref (ad 0), .int (iI t), .int (iI st), .int (iI c), .int (iI er)] M L) (sjZ D 26 ad (kR cI cZ cJ ad) A (fun v M' L' => L = L' ∧ rT (aMsg T er st c) M' t ∧ onTx M M' t ∧ v = some (.int (iI (T 0 1))))) 0 0 A := by
  refine g_met (cc := cX4_message) (maxL := 6) (ret := (some .int)) (lv := [_, _, _, _, _, _]) (by decide) rfl hD kR_loc (List.forall_mem_cons.mpr ⟨rfl, List.forall_mem_cons.mpr ⟨rfl, List.forall_mem_cons.mpr ⟨rfl, List.forall_mem_cons.mpr ⟨rfl, List.forall_mem_cons.mpr ⟨rfl, fun _ h => absurd h List.not_mem_nil⟩⟩⟩⟩⟩) (Nat.le_of_ble_eq_true rfl) rfl ?_
  intro J G
  have f31 : Cond.fieldLink RX4 31 "SharedPageModel" "messages" "[I" ∈ wsX4_message := by decide +kernel
  have f37 : Cond.fieldLink RX4 37 "SharedPageModel" "isErase" "[Z" ∈ wsX4_message := by decide +kernel
  have f41 : Cond.fieldLink RX4 41 "SharedPageModel" "charOf" "[I" ∈ wsX4_message := by decide +kernel
  have f44 : Cond.fieldLink RX4 44 "SharedPageModel" "makerOf" "[I" ∈ wsX4_message := by decide +kernel
  have hinX4 : ∀ w ∈ u_ws RX4 TX4 29, w ∈ wsX4_message := fun w h => List.mem_cons_of_mem _ (List.mem_append_right _ h)
  refine g_aload_n (pc := 0) G dX4_message_0 rfl ?_
  refine g_getR (pc := 1) G hinX4 oModel rfl 8 (by decide) f31 rfl rfl dX4_message_1 ?_
  refine g_iload_n (pc := 4) G dX4_message_4 rfl ?_
  refine g_iald (pc := 5) G rMsgs (by omega) dX4_message_5 ?_
  refine g_top (ld (hT.1.2.1)) ?_
  refine g_istore (pc := 6) (lv' := [_, _, _, _, _, _]) G dX4_message_6 (by decide) rfl ?_
  refine g_aload_n (pc := 8) G dX4_message_8 rfl ?_
  refine g_getR (pc := 9) G hinX4 oModel rfl 10 (by decide) f37 rfl rfl dX4_message_9 ?_
  refine g_sipush (pc := 12) G dX4_message_12 rfl ?_
  refine g_iload_n (pc := 15) G dX4_message_15 rfl ?_
  refine g_imul (pc := 16) G dX4_message_16 ?_
  refine g_iload (pc := 17) G dX4_message_17 rfl ?_
  refine g_iadd (pc := 19) G dX4_message_19 ?_
  refine g_iload (pc := 20) G dX4_message_20 rfl ?_
  refine g_zast (pc := 22) G rIsE (by omega) (by rcases her with w | w <;> rw [w] <;> rfl) dX4_message_22 ?_
  refine g_aload_n (pc := 23) G dX4_message_23 rfl ?_
  refine g_getR (pc := 24) G hinX4 oModel rfl 11 (by decide) f41 rfl rfl dX4_message_24 ?_
  refine g_sipush (pc := 27) G dX4_message_27 rfl ?_
  refine g_iload_n (pc := 30) G dX4_message_30 rfl ?_
  refine g_imul (pc := 31) G dX4_message_31 ?_
  refine g_iload (pc := 32) G dX4_message_32 rfl ?_
  refine g_iadd (pc := 34) G dX4_message_34 ?_
  refine g_iload_n (pc := 35) G dX4_message_35 rfl ?_
  refine g_iast (pc := 36) G rChar (by omega) dX4_message_36 ?_
  refine g_aload_n (pc := 37) G dX4_message_37 rfl ?_
  refine g_getR (pc := 38) G hinX4 oModel rfl 12 (by decide) f44 rfl rfl dX4_message_38 ?_
  refine g_sipush (pc := 41) G dX4_message_41 rfl ?_
  refine g_iload_n (pc := 44) G dX4_message_44 rfl ?_
  refine g_imul (pc := 45) G dX4_message_45 ?_
  refine g_iload (pc := 46) G dX4_message_46 rfl ?_
  refine g_iadd (pc := 48) G dX4_message_48 ?_
  refine g_iload_n (pc := 49) G dX4_message_49 rfl ?_
  refine g_iast (pc := 50) G rMaker (by omega) dX4_message_50 ?_
  refine g_aload_n (pc := 51) G dX4_message_51 rfl ?_
  refine g_getR (pc := 52) G hinX4 oModel rfl 8 (by decide) f31 rfl rfl dX4_message_52 ?_
  refine g_iload_n (pc := 55) G dX4_message_55 rfl ?_
  refine g_iload (pc := 56) G dX4_message_56 rfl ?_
  refine g_iconst (pc := 58) G dX4_message_58 ?_
  refine g_iadd (pc := 59) G dX4_message_59 ?_
  refine g_iast (pc := 60) G rMsgs (by omega) dX4_message_60 ?_
  refine g_mem (fun M4 L4 hM4 hL4 => ?_)
  obtain rfl : L = L4 := hL4.symm
  obtain ⟨hT4, ho4⟩ := msg_rT hT hm0 hm1 hM4
  refine g_iload (pc := 61) G dX4_message_61 rfl ?_
  refine g_iret (pc := 63) G dX4_message_63 ?_
  exact ⟨rfl, hT4, ho4, rfl⟩
theorem chr_rT {T : aS} {M M8 : sjM} {t st lf rt lr : Int} (hT : rT T M t) (hc0 : 0 ≤ T 0 0) (hc1 : T 0 0 < 60) (hs0 : 0 ≤ st) (hs1 : st < 5) (h : M8 = sjU (sjU (sjU (sjU (sjU (sjU (sjU M 1 t (iI (T 0 0 + 1))) 2 (60 * t + T 0 0) (iI st)) 3 (60 * t + T 0 0) (iI (T 9 st))) 7 (5 * t + st) (iI (T 9 st + 1))) 4 (60 * t + T 0 0) (iI lr)) 5 (60 * t + T 0 0) (iI lf)) 6 (60 * t + T 0 0) (iI rt)) : rT (aChr T st lf rt lr) M8 t ∧ onTx M M8 t := by
  have q1 : ∀ z, M8 1 z = if z = t then iI (T 0 0 + 1) else M 1 z := fun z => by rw [h, sjU_o (by omega), sjU_o (by omega), sjU_o (by omega), sjU_o (by omega), sjU_o (by omega), sjU_o (by omega), sjU_s]
  have q2 : ∀ z, M8 2 z = if z = 60 * t + T 0 0 then iI st else M 2 z := fun z => by rw [h, sjU_o (by omega), sjU_o (by omega), sjU_o (by omega), sjU_o (by omega), sjU_o (by omega), sjU_s, sjU_o (by omega)]
  have q3 : ∀ z, M8 3 z = if z = 60 * t + T 0 0 then iI (T 9 st) else M 3 z := fun z => by rw [h, sjU_o (by omega), sjU_o (by omega), sjU_o (by omega), sjU_o (by omega), sjU_s, sjU_o (by omega), sjU_o (by omega)]
  have q7 : ∀ z, M8 7 z = if z = 5 * t + st then iI (T 9 st + 1) else M 7 z := fun z => by rw [h, sjU_o (by omega), sjU_o (by omega), sjU_o (by omega), sjU_s, sjU_o (by omega), sjU_o (by omega), sjU_o (by omega)]
  have q4 : ∀ z, M8 4 z = if z = 60 * t + T 0 0 then iI lr else M 4 z := fun z => by rw [h, sjU_o (by omega), sjU_o (by omega), sjU_s, sjU_o (by omega), sjU_o (by omega), sjU_o (by omega), sjU_o (by omega)]
  have q5 : ∀ z, M8 5 z = if z = 60 * t + T 0 0 then iI lf else M 5 z := fun z => by rw [h, sjU_o (by omega), sjU_s, sjU_o (by omega), sjU_o (by omega), sjU_o (by omega), sjU_o (by omega), sjU_o (by omega)]
  have q6 : ∀ z, M8 6 z = if z = 60 * t + T 0 0 then iI rt else M 6 z := fun z => by rw [h, sjU_s, sjU_o (by omega), sjU_o (by omega), sjU_o (by omega), sjU_o (by omega), sjU_o (by omega), sjU_o (by omega)]
  have qo : ∀ k, k = 0 ∨ 8 ≤ k → M8 k = M k := fun k hk => by rw [h, sjU_o (by omega), sjU_o (by omega), sjU_o (by omega), sjU_o (by omega), sjU_o (by omega), sjU_o (by omega), sjU_o (by omega)]
  have a00 : aChr T st lf rt lr 0 0 = T 0 0 + 1 := by simp [aChr, aUp]
  have a01 : aChr T st lf rt lr 0 1 = T 0 1 := by simp [aChr, aUp]
  have a02 : aChr T st lf rt lr 0 2 = T 0 2 := by simp [aChr, aUp]
  have a1 : ∀ z, aChr T st lf rt lr 1 z = if z = T 0 0 then st else T 1 z := fun z => by simp [aChr, aUp]
  have a2 : ∀ z, aChr T st lf rt lr 2 z = if z = T 0 0 then 100 * st + T 9 st else T 2 z := fun z => by simp [aChr, aUp]
  have a3 : ∀ z, aChr T st lf rt lr 3 z = if z = T 0 0 then lr else T 3 z := fun z => by simp [aChr, aUp]
  have a4 : ∀ z, aChr T st lf rt lr 4 z = if z = T 0 0 then lf else T 4 z := fun z => by simp [aChr, aUp]
  have a5 : ∀ z, aChr T st lf rt lr 5 z = if z = T 0 0 then rt else T 5 z := fun z => by simp [aChr, aUp]
  have a6 : ∀ z, aChr T st lf rt lr 6 z = T 6 z := fun z => by simp [aChr, aUp]
  have a7 : ∀ z, aChr T st lf rt lr 7 z = T 7 z := fun z => by simp [aChr, aUp]
  have a8 : ∀ z, aChr T st lf rt lr 8 z = T 8 z := fun z => by simp [aChr, aUp]
  have a9 : ∀ z, aChr T st lf rt lr 9 z = if z = st then T 9 st + 1 else T 9 z := fun z => by simp [aChr, aUp]
  obtain ⟨⟨h1, h8, h9⟩, h2, h7, h10⟩ := hT
  refine ⟨⟨⟨by rw [q1, if_pos rfl, a00], by rw [qo 8 (by omega), a01]; exact h8, by rw [qo 9 (by omega), a02]; exact h9⟩, fun c c0 c1 => ?_, fun s s0 s1 => ?_, fun k k0 k1 => ?_⟩, ⟨fun k hk => qo k (by omega), fun z hz => ⟨by rw [q1, if_neg hz], by rw [qo 8 (by omega)], by rw [qo 9 (by omega)]⟩, fun z hz => ⟨by rw [q2, if_neg (by omega)], by rw [q3, if_neg (by omega)], by rw [q4, if_neg (by omega)], by rw [q5, if_neg (by omega)], by rw [q6, if_neg (by omega)]⟩, fun z hz => by rw [q7, if_neg (by omega)], fun z hz => ⟨by rw [qo 10 (by omega)], by rw [qo 11 (by omega)], by rw [qo 12 (by omega)]⟩⟩⟩
  · rw [q2, q3, q4, q5, q6, a1, a2, a3, a4, a5]
    by_cases hc : c = T 0 0
    · rw [if_pos (by omega), if_pos hc, if_pos (by omega), if_pos hc, if_pos (by omega), if_pos hc, if_pos (by omega), if_pos hc, if_pos (by omega), if_pos hc, show 100 * st + T 9 st - 100 * st = T 9 st by omega]
      exact ⟨rfl, rfl, rfl, rfl, rfl⟩
    · rw [if_neg (by omega), if_neg hc, if_neg (by omega), if_neg hc, if_neg (by omega), if_neg hc, if_neg (by omega), if_neg hc, if_neg (by omega), if_neg hc]
      exact h2 c c0 c1
  · rw [q7, a9]
    by_cases hs : s = st
    · rw [if_pos (by omega), if_pos hs]
    · rw [if_neg (by omega), if_neg hs]; exact h7 s s0 s1
  · rw [qo 10 (by omega), qo 11 (by omega), qo 12 (by omega), a6, a7, a8]; exact h10 k k0 k1
theorem ers_rT {T : aS} {M M2 : sjM} {t : Int} (hT : rT T M t) (h : M2 = sjU M 9 t (iI (T 0 2 + 1))) : rT (aErs T) M2 t ∧ onTx M M2 t := by
  have a02 : aErs T 0 2 = T 0 2 + 1 := by unfold aErs; rw [aUp_eq]
  have aj : ∀ j z, ¬ (j = 0 ∧ z = 2) → aErs T j z = T j z := fun j z hz => by unfold aErs; rw [aUp_ne hz]
  have qo : ∀ k, k ≠ 9 → M2 k = M k := fun k hk => by rw [h, sjU_o hk]
  obtain ⟨⟨h1, h8, h9⟩, h2, h7, h10⟩ := hT
  refine ⟨⟨⟨by rw [qo 1 (by omega), aj 0 0 (by omega)]; exact h1, by rw [qo 8 (by omega), aj 0 1 (by omega)]; exact h8, by rw [h, sjU_s, if_pos rfl, a02]⟩, fun c c0 c1 => ?_, fun s s0 s1 => ?_, fun k k0 k1 => ?_⟩, ⟨fun k hk => qo k (by omega), fun z hz => ⟨by rw [qo 1 (by omega)], by rw [qo 8 (by omega)], by rw [h, sjU_s, if_neg hz]⟩, fun z hz => ⟨by rw [qo 2 (by omega)], by rw [qo 3 (by omega)], by rw [qo 4 (by omega)], by rw [qo 5 (by omega)], by rw [qo 6 (by omega)]⟩, fun z hz => by rw [qo 7 (by omega)], fun z hz => ⟨by rw [qo 10 (by omega)], by rw [qo 11 (by omega)], by rw [qo 12 (by omega)]⟩⟩⟩
  · rw [qo 2 (by omega), qo 3 (by omega), qo 4 (by omega), qo 5 (by omega), qo 6 (by omega), aj 1 c (by omega), aj 2 c (by omega), aj 3 c (by omega), aj 4 c (by omega), aj 5 c (by omega)]
    exact h2 c c0 c1
  · rw [qo 7 (by omega), aj 9 s (by omega)]; exact h7 s s0 s1
  · rw [qo 10 (by omega), qo 11 (by omega), qo 12 (by omega), aj 6 k (by omega), aj 7 k (by omega), aj 8 k (by omega)]; exact h10 k k0 k1
