/-- the bits of a follower row: raw, as the machine has them -/
def bitI (q : Int) : Int32 := iI 1 <<< (iI q &&& 31)
def wysF (L : sjL) (s : Int) : Int64 := if 0 ≤ s ∧ s < 4096 then L 5 s else 0
set_option maxHeartbeats 4000000 in
set_option maxRecDepth 100000 in
theorem kX1_waysFrom {l : Launch} {D : va_G} {cI cZ cJ cT cC : ClassId} {ad : Nat → Nat} {A : Nat → Prop} (hD : ∀ g : Nat → va_E, va_D A (sjW 89 ad g)) (s : Int) (hs : rng s) (M : sjM) (L : sjL)  : Met l yX1_waysFrom wsX1_waysFrom { frames := 0, cells := 0, slots := 0, locals := 0 } (sjA D cI cZ cJ cT cC 89 ad (kC cI cZ cJ cT cC ad) [.ref (ad 4), .int (iI s)] M L) (sjZ D 89 ad (kC cI cZ cJ cT cC ad) A (fun v M' L' => M = M' ∧ L = L' ∧ v = some (.long (wysF L s)))) 0 0 A := by
  refine g_met (cc := cX1_waysFrom) (maxL := 2) (ret := (some .long)) (lv := [_, _]) (by decide) rfl hD kC_loc (List.forall_mem_cons.mpr ⟨rfl, List.forall_mem_cons.mpr ⟨rfl, fun _ h => absurd h List.not_mem_nil⟩⟩) (Nat.le_of_ble_eq_true rfl) rfl ?_
  intro J G
  have f9 : Cond.fieldLink RX1 9 "SharedPage$FreeOrders" "ways" "[J" ∈ wsX1_waysFrom := by decide +kernel
  have hinX1 : ∀ w ∈ u_ws RX1 TX1 2, w ∈ wsX1_waysFrom := fun w h => List.mem_cons_of_mem _ (List.mem_append_right _ h)
  refine g_iload_n (pc := 0) G dX1_waysFrom_0 rfl ?_
  refine g_if_lt (pc := 1) G (by first | assumption | omega) 22 dX1_waysFrom_1 (by decide) (fun h1 => ?_) (fun h1 => ?_)
  · -- 1 t
    refine g_lconst (pc := 22) (v := 0) G dX1_waysFrom_22 rfl ?_
    refine g_lret (pc := 23) G dX1_waysFrom_23 ?_
    refine ⟨rfl, rfl, ?_⟩
    unfold wysF
    split <;> first | rfl | omega
  · -- 1 f
    refine g_iload_n (pc := 4) G dX1_waysFrom_4 rfl ?_
    refine g_aload_n (pc := 5) G dX1_waysFrom_5 rfl ?_
    refine g_getR (pc := 6) G hinX1 oFree rfl 0 (by decide) f9 rfl rfl dX1_waysFrom_6 ?_
    refine g_alenJ (pc := 9) G aWays dX1_waysFrom_9 ?_
    refine g_icmp_ge (pc := 10) G (by first | assumption | omega) (by first | assumption | omega) 22 dX1_waysFrom_10 (by decide) (fun h10 => ?_) (fun h10 => ?_)
    · -- 10 t
      refine g_lconst (pc := 22) (v := 0) G dX1_waysFrom_22 rfl ?_
      refine g_lret (pc := 23) G dX1_waysFrom_23 ?_
      refine ⟨rfl, rfl, ?_⟩
      unfold wysF
      split <;> first | rfl | omega
    · -- 10 f
      refine g_aload_n (pc := 13) G dX1_waysFrom_13 rfl ?_
      refine g_getR (pc := 14) G hinX1 oFree rfl 0 (by decide) f9 rfl rfl dX1_waysFrom_14 ?_
      refine g_iload_n (pc := 17) G dX1_waysFrom_17 rfl ?_
      refine g_lald (pc := 18) G aWays (by omega) dX1_waysFrom_18 ?_
      refine g_goto (pc := 19) G 23 dX1_waysFrom_19 (by decide) ?_
      refine g_lret (pc := 23) G dX1_waysFrom_23 ?_
      refine ⟨rfl, rfl, ?_⟩
      unfold wysF
      split <;> first | rfl | omega
set_option maxHeartbeats 4000000 in
set_option maxRecDepth 100000 in
theorem kX1_addFollower {l : Launch} {D : va_G} {cI cZ cJ cT cC : ClassId} {ad : Nat → Nat} {A : Nat → Prop} (hD : ∀ g : Nat → va_E, va_D A (sjW 89 ad g)) (a b n : Int) (ha : rng a) (hb : rng b) (hn : rng n) (M : sjM) (L : sjL)  : Met l yX1_addFollower wsX1_addFollower { frames := 0, cells := 0, slots := 0, locals := 0 } (sjA D cI cZ cJ cT cC 89 ad (kC cI cZ cJ cT cC ad) [.ref (ad 4), .int (iI a), .int (iI b), .int (iI n)] M L) (sjZ D 89 ad (kC cI cZ cJ cT cC ad) A (fun v M' L' => v = none ∧ L = L' ∧ M' = if 0 ≤ a ∧ a < n ∧ a < 12 ∧ 0 ≤ b ∧ b < n then sjU M 6 a (M 6 a ||| bitI b) else M)) 0 0 A := by
  refine g_met (cc := cX1_addFollower) (maxL := 4) (ret := none) (lv := [_, _, _, _]) (by decide) rfl hD kC_loc (List.forall_mem_cons.mpr ⟨rfl, List.forall_mem_cons.mpr ⟨rfl, List.forall_mem_cons.mpr ⟨rfl, List.forall_mem_cons.mpr ⟨rfl, fun _ h => absurd h List.not_mem_nil⟩⟩⟩⟩) (Nat.le_of_ble_eq_true rfl) rfl ?_
  intro J G
  have f15 : Cond.fieldLink RX1 15 "SharedPage$FreeOrders" "followers" "[I" ∈ wsX1_addFollower := by decide +kernel
  have hinX1 : ∀ w ∈ u_ws RX1 TX1 2, w ∈ wsX1_addFollower := fun w h => List.mem_cons_of_mem _ (List.mem_append_right _ h)
  refine g_iload_n (pc := 0) G dX1_addFollower_0 rfl ?_
  refine g_if_lt (pc := 1) G (by first | assumption | omega) 36 dX1_addFollower_1 (by decide) (fun h1 => ?_) (fun h1 => ?_)
  · -- 1 t
    refine g_vret (pc := 36) G dX1_addFollower_36 ?_
    refine ⟨rfl, rfl, ?_⟩
    split <;> first | rfl | omega | (rw [iI_of]; rfl)
  · -- 1 f
    refine g_iload_n (pc := 4) G dX1_addFollower_4 rfl ?_
    refine g_iload_n (pc := 5) G dX1_addFollower_5 rfl ?_
    refine g_icmp_ge (pc := 6) G (by first | assumption | omega) (by first | assumption | omega) 36 dX1_addFollower_6 (by decide) (fun h6 => ?_) (fun h6 => ?_)
    · -- 6 t
      refine g_vret (pc := 36) G dX1_addFollower_36 ?_
      refine ⟨rfl, rfl, ?_⟩
      split <;> first | rfl | omega | (rw [iI_of]; rfl)
    · -- 6 f
      refine g_iload_n (pc := 9) G dX1_addFollower_9 rfl ?_
      refine g_bipush (pc := 10) G dX1_addFollower_10 rfl ?_
      refine g_icmp_ge (pc := 12) G (by first | assumption | omega) (by first | assumption | omega) 36 dX1_addFollower_12 (by decide) (fun h12 => ?_) (fun h12 => ?_)
      · -- 12 t
        refine g_vret (pc := 36) G dX1_addFollower_36 ?_
        refine ⟨rfl, rfl, ?_⟩
        split <;> first | rfl | omega | (rw [iI_of]; rfl)
      · -- 12 f
        refine g_iload_n (pc := 15) G dX1_addFollower_15 rfl ?_
        refine g_if_lt (pc := 16) G (by first | assumption | omega) 36 dX1_addFollower_16 (by decide) (fun h16 => ?_) (fun h16 => ?_)
        · -- 16 t
          refine g_vret (pc := 36) G dX1_addFollower_36 ?_
          refine ⟨rfl, rfl, ?_⟩
          split <;> first | rfl | omega | (rw [iI_of]; rfl)
        · -- 16 f
          refine g_iload_n (pc := 19) G dX1_addFollower_19 rfl ?_
          refine g_iload_n (pc := 20) G dX1_addFollower_20 rfl ?_
          refine g_icmp_ge (pc := 21) G (by first | assumption | omega) (by first | assumption | omega) 36 dX1_addFollower_21 (by decide) (fun h21 => ?_) (fun h21 => ?_)
          · -- 21 t
            refine g_vret (pc := 36) G dX1_addFollower_36 ?_
            refine ⟨rfl, rfl, ?_⟩
            split <;> first | rfl | omega | (rw [iI_of]; rfl)
          · -- 21 f
            refine g_aload_n (pc := 24) G dX1_addFollower_24 rfl ?_
            refine g_getR (pc := 25) G hinX1 oFree rfl 1 (by decide) f15 rfl rfl dX1_addFollower_25 ?_
            refine g_iload_n (pc := 28) G dX1_addFollower_28 rfl ?_
            refine g_dup2 (pc := 29) G dX1_addFollower_29 rfl rfl ?_
            refine g_iald (pc := 30) G aFoll ⟨by omega, by omega⟩ dX1_addFollower_30 ?_
            refine g_iconst (pc := 31) G dX1_addFollower_31 ?_
            refine g_iload_n (pc := 32) G dX1_addFollower_32 rfl ?_
            refine g_ishl (pc := 33) G dX1_addFollower_33 ?_
            refine g_ior (pc := 34) G dX1_addFollower_34 ?_
            refine g_iast (pc := 35) G aFoll ⟨by omega, by omega⟩ dX1_addFollower_35 ?_
            refine g_vret (pc := 36) G dX1_addFollower_36 ?_
            refine ⟨rfl, rfl, ?_⟩
            split <;> first | rfl | omega | (rw [iI_of]; rfl)
