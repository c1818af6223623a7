/-- a copy that is being emptied: CHARACTERS below p, then messages below p -/
def aE1 (X : aS) (p : Int) : aS := fun j z => if j = 2 ∧ 0 ≤ z ∧ z < p then -2 else if j = 3 ∧ 0 ≤ z ∧ z < p then 0 else X j z
def aE2 (X : aS) (p : Int) : aS := fun j z => if j = 4 ∧ 0 ≤ z ∧ z < p then 0 else aE1 X 60 j z
def aEmp (X : aS) : aS := aUp (aUp (aUp (aUp (aUp (aUp (aUp (aE2 X 160) 0 0 0) 0 1 0) 0 2 0) 0 3 0) 0 4 0) 0 5 0) 0 6 0
theorem aE1_0 (X : aS) : aE1 X 0 = X := by
  funext j z
  unfold aE1
  rw [if_neg (by omega), if_neg (by omega)]
theorem aE1_s (X : aS) {p : Int} (h : 0 ≤ p) : aUp (aUp (aE1 X p) 2 p (-2)) 3 p 0 = aE1 X (p + 1) := by
  funext j z
  unfold aUp aE1
  by_cases h3 : j = 3
  · subst h3
    by_cases hz : z = p
    · subst hz
      rw [if_pos ⟨rfl, rfl⟩, if_neg (by omega), if_pos (by omega)]
    · by_cases hc : 0 ≤ z ∧ z < p
      · have hc2 : 0 ≤ z ∧ z < p + 1 := by omega
        simp [hz, hc, hc2]
      · have hc2 : ¬ (0 ≤ z ∧ z < p + 1) := by omega
        simp [hz, hc, hc2]
  · rw [if_neg (fun w => h3 w.1)]
    by_cases h2 : j = 2
    · subst h2
      by_cases hz : z = p
      · subst hz
        rw [if_pos ⟨rfl, rfl⟩, if_pos (by omega)]
      · rw [if_neg (fun w => hz w.2)]
        by_cases hc : 0 ≤ z ∧ z < p
        · rw [if_pos ⟨rfl, hc⟩, if_pos (by omega)]
        · rw [if_neg (fun w => hc w.2), if_neg (by omega), if_neg (by omega), if_neg (by omega)]
    · rw [if_neg (fun w => h2 w.1), if_neg (fun w => h2 w.1), if_neg (fun w => h3 w.1), if_neg (fun w => h2 w.1), if_neg (fun w => h3 w.1)]
theorem aE2_0 (X : aS) : aE2 X 0 = aE1 X 60 := by
  funext j z
  unfold aE2
  rw [if_neg (by omega)]
theorem aE2_s (X : aS) {p : Int} (h : 0 ≤ p) : aUp (aE2 X p) 4 p 0 = aE2 X (p + 1) := by
  funext j z
  unfold aUp aE2
  by_cases h4 : j = 4
  · subst h4
    by_cases hz : z = p
    · subst hz
      rw [if_pos ⟨rfl, rfl⟩, if_pos (by omega)]
    · rw [if_neg (fun w => hz w.2)]
      by_cases hc : 0 ≤ z ∧ z < p
      · rw [if_pos ⟨rfl, hc⟩, if_pos (by omega)]
      · rw [if_neg (fun w => hc w.2), if_neg (by omega)]
  · rw [if_neg (fun w => h4 w.1), if_neg (fun w => h4 w.1), if_neg (fun w => h4 w.1)]
set_option maxHeartbeats 4000000 in
set_option maxRecDepth 100000 in
theorem kX0_makeEmpty {l : Launch} {D : va_G} {cI cZ cJ cT cC : ClassId} {ad : Nat → Nat} {A : Nat → Prop} (hD : ∀ g : Nat → va_E, va_D A (sjW 89 ad g)) (i : Nat) (hi : i < 12) (M : sjM) (L : sjL)  : Met l yX0_makeEmpty wsX0_makeEmpty { frames := 0, cells := 0, slots := 0, locals := 0 } (sjA D cI cZ cJ cT cC 89 ad (kC cI cZ cJ cT cC ad) [.ref (ad (29 + 5 * i))] M L) (sjZ D 89 ad (kC cI cZ cJ cT cC ad) A (fun v M' L' => v = none ∧ L = L' ∧ onC M M' i ∧ vX M' i = aEmp (vX M i))) 0 0 A := by
  refine g_met (cc := cX0_makeEmpty) (maxL := 2) (ret := none) (lv := [_, _]) (by decide) rfl hD kC_loc (List.forall_mem_cons.mpr ⟨rfl, fun _ h => absurd h List.not_mem_nil⟩) (Nat.le_of_ble_eq_true rfl) rfl ?_
  intro J G
  have f19 : Cond.fieldLink RX0 19 "SharedPage$Copy" "places" "[I" ∈ wsX0_makeEmpty := by decide +kernel
  have f22 : Cond.fieldLink RX0 22 "SharedPage$Copy" "erased" "[Z" ∈ wsX0_makeEmpty := by decide +kernel
  have f26 : Cond.fieldLink RX0 26 "SharedPage$Copy" "states" "[I" ∈ wsX0_makeEmpty := by decide +kernel
  have f32 : Cond.fieldLink RX0 32 "SharedPage$Copy" "length" "I" ∈ wsX0_makeEmpty := by decide +kernel
  have f36 : Cond.fieldLink RX0 36 "SharedPage$Copy" "seen" "I" ∈ wsX0_makeEmpty := by decide +kernel
  have f39 : Cond.fieldLink RX0 39 "SharedPage$Copy" "done" "I" ∈ wsX0_makeEmpty := by decide +kernel
  have f42 : Cond.fieldLink RX0 42 "SharedPage$Copy" "waiting" "I" ∈ wsX0_makeEmpty := by decide +kernel
  have f45 : Cond.fieldLink RX0 45 "SharedPage$Copy" "looks" "I" ∈ wsX0_makeEmpty := by decide +kernel
  have f48 : Cond.fieldLink RX0 48 "SharedPage$Copy" "looksOfCall" "I" ∈ wsX0_makeEmpty := by decide +kernel
  have f51 : Cond.fieldLink RX0 51 "SharedPage$Copy" "integratedInCall" "I" ∈ wsX0_makeEmpty := by decide +kernel
  have hinX0 : ∀ w ∈ u_ws RX0 TX0 12, w ∈ wsX0_makeEmpty := fun w h => List.mem_cons_of_mem _ (List.mem_append_right _ h)
  have loop2 : ∀ (n : Nat) (p : Int) (M1 : sjM), 0 ≤ p → p ≤ 160 → (160 - p).toNat < n → onC M M1 i → vX M1 i = aE2 (vX M i) p → J 31 M1 L [some (.ref (ad (29 + 5 * i))), some (.int (iI p))] [] := by
    intro n
    induction n with
    | zero => intro p M1 _ _ h; omega
    | succ n ih =>
      intro p M1 hp0 hp1 hn ho1 hv1
      refine g_iload_n (pc := 31) G dX0_makeEmpty_31 rfl ?_
      refine g_sipush (pc := 32) G dX0_makeEmpty_32 rfl ?_
      refine g_icmp_ge (pc := 35) G (by first | assumption | omega) (by first | assumption | omega) 51 dX0_makeEmpty_35 (by decide) (fun h35 => ?_) (fun h35 => ?_)
      · -- 35 t
        refine g_aload_n (pc := 51) G dX0_makeEmpty_51 rfl ?_
        refine g_iconst (pc := 52) G dX0_makeEmpty_52 ?_
        refine g_put (pc := 53) G tyX0 tyX0_ok nmX0 hinX0 (oCopy i hi) rfl 5 (by decide) (pCopy0 _ _) f32 rfl rfl rfl dX0_makeEmpty_53 ?_
        refine g_aload_n (pc := 56) G dX0_makeEmpty_56 rfl ?_
        refine g_iconst (pc := 57) G dX0_makeEmpty_57 ?_
        refine g_put (pc := 58) G tyX0 tyX0_ok nmX0 hinX0 (oCopy i hi) rfl 6 (by decide) (pCopy1 _ _) f36 rfl rfl rfl dX0_makeEmpty_58 ?_
        refine g_aload_n (pc := 61) G dX0_makeEmpty_61 rfl ?_
        refine g_iconst (pc := 62) G dX0_makeEmpty_62 ?_
        refine g_put (pc := 63) G tyX0 tyX0_ok nmX0 hinX0 (oCopy i hi) rfl 7 (by decide) (pCopy2 _ _) f39 rfl rfl rfl dX0_makeEmpty_63 ?_
        refine g_aload_n (pc := 66) G dX0_makeEmpty_66 rfl ?_
        refine g_iconst (pc := 67) G dX0_makeEmpty_67 ?_
        refine g_put (pc := 68) G tyX0 tyX0_ok nmX0 hinX0 (oCopy i hi) rfl 8 (by decide) (pCopy3 _ _) f42 rfl rfl rfl dX0_makeEmpty_68 ?_
        refine g_aload_n (pc := 71) G dX0_makeEmpty_71 rfl ?_
        refine g_iconst (pc := 72) G dX0_makeEmpty_72 ?_
        refine g_put (pc := 73) G tyX0 tyX0_ok nmX0 hinX0 (oCopy i hi) rfl 9 (by decide) (pCopy4 _ _) f45 rfl rfl rfl dX0_makeEmpty_73 ?_
        refine g_aload_n (pc := 76) G dX0_makeEmpty_76 rfl ?_
        refine g_iconst (pc := 77) G dX0_makeEmpty_77 ?_
        refine g_put (pc := 78) G tyX0 tyX0_ok nmX0 hinX0 (oCopy i hi) rfl 10 (by decide) (pCopy5 _ _) f48 rfl rfl rfl dX0_makeEmpty_78 ?_
        refine g_aload_n (pc := 81) G dX0_makeEmpty_81 rfl ?_
        refine g_iconst (pc := 82) G dX0_makeEmpty_82 ?_
        refine g_put (pc := 83) G tyX0 tyX0_ok nmX0 hinX0 (oCopy i hi) rfl 11 (by decide) (pCopy6 _ _) f51 rfl rfl rfl dX0_makeEmpty_83 ?_
        refine g_vret (pc := 86) G dX0_makeEmpty_86 ?_
        refine ⟨rfl, rfl, onC_tr ho1 (onC_tr (onC_tr (onC_tr (onC_tr (onC_tr (onC_tr (onC_U0 _ i _ _) (onC_U0 _ i _ _)) (onC_U0 _ i _ _)) (onC_U0 _ i _ _)) (onC_U0 _ i _ _)) (onC_U0 _ i _ _)) (onC_U0 _ i _ _)), ?_⟩
        rw [vX_U0, vX_U0, vX_U0, vX_U0, vX_U0, vX_U0, vX_U0, hv1, show p = 160 by omega]
        rfl
      · -- 35 f
        refine g_aload_n (pc := 38) G dX0_makeEmpty_38 rfl ?_
        refine g_getR (pc := 39) G hinX0 (oCopy i hi) rfl 4 (by decide) f26 rfl rfl dX0_makeEmpty_39 ?_
        refine g_iload_n (pc := 42) G dX0_makeEmpty_42 rfl ?_
        refine g_iconst (pc := 43) G dX0_makeEmpty_43 ?_
        refine g_iast (pc := 44) G (aCopyS i hi) (by omega) dX0_makeEmpty_44 ?_
        refine g_mem (fun M2 L2 hM2 hL2 => ?_)
        obtain rfl : L = L2 := hL2.symm
        have hv2 : vX M2 i = aE2 (vX M i) (p + 1) := by
          rw [hM2, vX_U _ i 4 _ _ (by omega), hv1, ← aE2_s (vX M i) hp0]
          rfl
        have ho2 : onC M M2 i := by rw [hM2]; exact onC_tr ho1 (onC_U _ i 4 _ _ (by omega))
        clear hM2
        refine g_iinc (pc := 45) (lv' := [_, _]) G dX0_makeEmpty_45 (by decide) rfl rfl ?_
        refine g_goto (pc := 48) G 31 dX0_makeEmpty_48 (by decide) ?_
        exact ih (p + 1) M2 (by omega) (by omega) (by omega) ho2 hv2
  have loop1 : ∀ (n : Nat) (p : Int) (M1 : sjM), 0 ≤ p → p ≤ 60 → (60 - p).toNat < n → onC M M1 i → vX M1 i = aE1 (vX M i) p → J 2 M1 L [some (.ref (ad (29 + 5 * i))), some (.int (iI p))] [] := by
    intro n
    induction n with
    | zero => intro p M1 _ _ h; omega
    | succ n ih =>
      intro p M1 hp0 hp1 hn ho1 hv1
      refine g_iload_n (pc := 2) G dX0_makeEmpty_2 rfl ?_
      refine g_bipush (pc := 3) G dX0_makeEmpty_3 rfl ?_
      refine g_icmp_ge (pc := 5) G (by first | assumption | omega) (by first | assumption | omega) 29 dX0_makeEmpty_5 (by decide) (fun h5 => ?_) (fun h5 => ?_)
      · -- 5 t
        refine g_iconst (pc := 29) G dX0_makeEmpty_29 ?_
        refine g_istore_n (pc := 30) (lv' := [_, _]) G dX0_makeEmpty_30 (by decide) rfl ?_
        exact loop2 161 0 M1 (by omega) (by omega) (by omega) ho1 (by rw [hv1, aE2_0, show p = 60 by omega])
      · -- 5 f
        refine g_aload_n (pc := 8) G dX0_makeEmpty_8 rfl ?_
        refine g_getR (pc := 9) G hinX0 (oCopy i hi) rfl 2 (by decide) f19 rfl rfl dX0_makeEmpty_9 ?_
        refine g_iload_n (pc := 12) G dX0_makeEmpty_12 rfl ?_
        refine g_bipush (pc := 13) G dX0_makeEmpty_13 rfl ?_
        refine g_iast (pc := 15) G (aCopy60 i 2 hi (by omega) (by omega)) (by omega) dX0_makeEmpty_15 ?_
        refine g_aload_n (pc := 16) G dX0_makeEmpty_16 rfl ?_
        refine g_getR (pc := 17) G hinX0 (oCopy i hi) rfl 3 (by decide) f22 rfl rfl dX0_makeEmpty_17 ?_
        refine g_iload_n (pc := 20) G dX0_makeEmpty_20 rfl ?_
        refine g_iconst (pc := 21) G dX0_makeEmpty_21 ?_
        refine g_zast (pc := 22) G (aCopyZ i hi) (by omega) rfl dX0_makeEmpty_22 ?_
        refine g_mem (fun M2 L2 hM2 hL2 => ?_)
        obtain rfl : L = L2 := hL2.symm
        have hv2 : vX M2 i = aE1 (vX M i) (p + 1) := by
          rw [hM2, vX_U _ i 3 _ _ (by omega), vX_U _ i 2 _ _ (by omega), hv1, ← aE1_s (vX M i) hp0]
          rfl
        have ho2 : onC M M2 i := by rw [hM2]; exact onC_tr ho1 (onC_tr (onC_U _ i 2 _ _ (by omega)) (onC_U _ i 3 _ _ (by omega)))
        clear hM2
        refine g_iinc (pc := 23) (lv' := [_, _]) G dX0_makeEmpty_23 (by decide) rfl rfl ?_
        refine g_goto (pc := 26) G 2 dX0_makeEmpty_26 (by decide) ?_
        exact ih (p + 1) M2 (by omega) (by omega) (by omega) ho2 hv2
  refine g_iconst (pc := 0) G dX0_makeEmpty_0 ?_
  refine g_istore_n (pc := 1) (lv' := [_, _]) G dX0_makeEmpty_1 (by decide) rfl ?_
  exact loop1 61 0 M (by omega) (by omega) (by omega) (onC_rf M i) (aE1_0 _).symm
