theorem g_ladd {J : Nat → sjM → sjL → List (Option Value) → List Value → Prop} {l : Launch} {R : Room} {ret : Option FieldType} {cc : ByteArray} {nL : Nat} {Ts : List Cond} {own : String} {D : va_G} {cI cZ cJ cT cC : ClassId} {N : Nat} {ad : Nat → Nat} {ct : sjM → sjL → Nat → va_E} {A : Nat → Prop} {post : Option Value → sjM → sjL → Prop} {pc : Nat} {M : sjM} {L : sjL} {lv : List (Option Value)} {st : List Value} (G : sjG J l cc nL Ts own R ret D cI cZ cJ cT cC N ad ct A post) {x y : Int64} (hdg : decode cc pc = .ok (.ladd, 1)) (k : J (pc + 1) M L lv (.long (x + y) :: st)) : J pc M L lv (.long y :: .long x :: st) := by
  obtain ⟨p, e, s, m, args, below, meth, c, F, hr, hlocks, rfl⟩ := G
  exact sj_ladd F hdg k
/-- a set less the one at x -/
def lessI (s x : Int) : Int := (iI s &&& (iI (bitI x).toInt ^^^ iI (-1))).toInt
def fAnd (F : Int → Int32) (x s : Int) : Int := (iI (F x).toInt &&& iI s).toInt
def wysR (R : Int → Int64) (s : Int) : Int64 := if 0 ≤ s ∧ s < 4096 then R s else 0
/-- a set's ways, handed on from x on -/
def aHdF (F : Int → Int32) (s : Int) : Nat → Int → (Int → Int64) → Int → Int64
  | 0, _, R => R
  | f + 1, x, R => if ¬ lessI s x = s ∧ fAnd F x s = 0 ∧ 0 ≤ lessI s x ∧ lessI s x < 4096 then aHdF F s f (x + 1) (fun z => if z = lessI s x then R (lessI s x) + wysR R s else R z) else aHdF F s f (x + 1) R
set_option maxHeartbeats 4000000 in
set_option maxRecDepth 100000 in
theorem kX1_handOn {l : Launch} {D : va_G} {cI cZ cJ cT cC : ClassId} {ad : Nat → Nat} {A : Nat → Prop} (hD : ∀ g : Nat → va_E, va_D A (sjW 89 ad g)) (s n : Int) (hs : rng s) (hn0 : 0 ≤ n) (hn1 : n ≤ 12) (M : sjM) (L : sjL)  : Met l yX1_handOn wsX1_handOn { frames := 1, cells := 0, slots := 0, locals := 21 } (sjA D cI cZ cJ cT cC 89 ad (kC cI cZ cJ cT cC ad) [.ref (ad 4), .int (iI s), .int (iI n)] M L) (sjZ D 89 ad (kC cI cZ cJ cT cC ad) A (fun v M' L' => v = none ∧ M = M' ∧ (∀ k, k ≠ 5 → L' k = L k) ∧ L' 5 = aHdF (M 6) s n.toNat 0 (L 5))) 0 0 A := by
  refine g_met (cc := cX1_handOn) (maxL := 7) (ret := none) (lv := [_, _, _, _, _, _, _]) (by decide) rfl hD kC_loc (List.forall_mem_cons.mpr ⟨rfl, List.forall_mem_cons.mpr ⟨rfl, List.forall_mem_cons.mpr ⟨rfl, fun _ h => absurd h List.not_mem_nil⟩⟩⟩) (Nat.le_of_ble_eq_true rfl) rfl ?_
  intro J G
  have f9 : Cond.fieldLink RX1 9 "SharedPage$FreeOrders" "ways" "[J" ∈ wsX1_handOn := by decide +kernel
  have f15 : Cond.fieldLink RX1 15 "SharedPage$FreeOrders" "followers" "[I" ∈ wsX1_handOn := by decide +kernel
  have hinX1 : ∀ w ∈ u_ws RX1 TX1 2, w ∈ wsX1_handOn := fun w h => List.mem_cons_of_mem _ (List.mem_append_right _ h)
  have loop : ∀ (f : Nat) (x : Int) (L1 : sjL) (x4 x5 x6 : Option Value), 0 ≤ x → x ≤ n → (n - x).toNat < f → (∀ k, k ≠ 5 → L1 k = L k) → aHdF (M 6) s (n - x).toNat x (L1 5) = aHdF (M 6) s n.toNat 0 (L 5) → J 2 M L1 [some (.ref (ad 4)), some (.int (iI s)), some (.int (iI n)), some (.int (iI x)), x4, x5, x6] [] := by
    intro f
    induction f with
    | zero => intro x L1 x4 x5 x6 _ _ h; omega
    | succ f ih =>
      intro x L1 x4 x5 x6 hx0 hx1 hf ho1 hR
      refine g_iload_n (pc := 2) G dX1_handOn_2 rfl ?_
      refine g_iload_n (pc := 3) G dX1_handOn_3 rfl ?_
      refine g_icmp_ge (pc := 4) G (by clear hR; omega) (by clear hR; omega) 91 dX1_handOn_4 (by decide) (fun h4 => ?_) (fun h4 => ?_)
      · -- 4 t
        rw [show (n - x).toNat = 0 by clear hR; omega, aHdF] at hR
        refine g_vret G dX1_handOn_91 ?_
        exact ⟨rfl, rfl, ho1, hR⟩
      · -- 4 f
        rw [show (n - x).toNat = (n - (x + 1)).toNat + 1 by clear hR; omega, aHdF] at hR
        --go
        refine g_iload_n (pc := 7) G dX1_handOn_7 rfl ?_
        refine g_bipush (pc := 8) G dX1_handOn_8 rfl ?_
        refine g_icmp_ge (pc := 10) G (by clear hR; omega) (by clear hR; omega) 91 dX1_handOn_10 (by decide) (fun h10 => ?_) (fun h10 => ?_)
        · -- 10 t
          exfalso
          clear hR; omega
        · -- 10 f
          refine g_iconst (pc := 13) G dX1_handOn_13 ?_
          refine g_iload_n (pc := 14) G dX1_handOn_14 rfl ?_
          refine g_ishl (pc := 15) G dX1_handOn_15 ?_
          refine g_top ((iI_of _).symm) ?_
          refine g_istore (pc := 16) (lv' := [_, _, _, _, _, _, _]) G dX1_handOn_16 (by decide) rfl ?_
          refine g_iload_n (pc := 18) G dX1_handOn_18 rfl ?_
          refine g_iload (pc := 19) G dX1_handOn_19 rfl ?_
          refine g_iconst (pc := 21) G dX1_handOn_21 ?_
          refine g_ixor (pc := 22) G dX1_handOn_22 ?_
          refine g_iand (pc := 23) G dX1_handOn_23 ?_
          refine g_top ((iI_of _).symm) ?_
          refine g_istore (pc := 24) (lv' := [_, _, _, _, _, _, _]) G dX1_handOn_24 (by decide) rfl ?_
          refine g_iload (pc := 26) G dX1_handOn_26 rfl ?_
          refine g_iload_n (pc := 28) G dX1_handOn_28 rfl ?_
          refine g_icmp_eq (pc := 29) G (rg _) (by assumption) 47 dX1_handOn_29 (by decide) (fun h29 => ?_) (fun h29 => ?_)
          · -- 29 t
            rw [if_neg (fun w => w.1 h29)] at hR
            --go
            refine g_iconst (pc := 47) G dX1_handOn_47 ?_
            refine g_istore (pc := 48) (lv' := [_, _, _, _, _, _, _]) G dX1_handOn_48 (by decide) rfl ?_
            refine g_iload (pc := 50) G dX1_handOn_50 rfl ?_
            refine g_if_eq (pc := 52) G (by omega) 85 dX1_handOn_52 (by decide) (fun _ => ?_) (fun h => absurd h (by decide))
            refine g_iinc (pc := 85) (lv' := [_, _, _, _, _, _, _]) G dX1_handOn_85 (by decide) rfl rfl ?_
            refine g_goto (pc := 88) G 2 dX1_handOn_88 (by decide) ?_
            exact ih (x + 1) L1 _ _ _ (by clear hR; omega) (by clear hR; omega) (by clear hR; omega) ho1 hR
          · -- 29 f
            refine g_aload_n (pc := 32) G dX1_handOn_32 rfl ?_
            refine g_getR (pc := 33) G hinX1 oFree rfl 1 (by decide) f15 rfl rfl dX1_handOn_33 ?_
            refine g_iload_n (pc := 36) G dX1_handOn_36 rfl ?_
            refine g_iald (pc := 37) G aFoll ⟨by clear hR; omega, by clear hR; omega⟩ dX1_handOn_37 ?_
            refine g_iload_n (pc := 38) G dX1_handOn_38 rfl ?_
            refine g_iand (pc := 39) G dX1_handOn_39 ?_
            refine g_top ((iI_of _).symm) ?_
            refine g_if_ne (pc := 40) G (rg _) 47 dX1_handOn_40 (by decide) (fun h40 => ?_) (fun h40 => ?_)
            · -- 40 t
              rw [if_neg (fun w => h40 w.2.1)] at hR
              --go
              refine g_iconst (pc := 47) G dX1_handOn_47 ?_
              refine g_istore (pc := 48) (lv' := [_, _, _, _, _, _, _]) G dX1_handOn_48 (by decide) rfl ?_
              refine g_iload (pc := 50) G dX1_handOn_50 rfl ?_
              refine g_if_eq (pc := 52) G (by omega) 85 dX1_handOn_52 (by decide) (fun _ => ?_) (fun h => absurd h (by decide))
              refine g_iinc (pc := 85) (lv' := [_, _, _, _, _, _, _]) G dX1_handOn_85 (by decide) rfl rfl ?_
              refine g_goto (pc := 88) G 2 dX1_handOn_88 (by decide) ?_
              exact ih (x + 1) L1 _ _ _ (by clear hR; omega) (by clear hR; omega) (by clear hR; omega) ho1 hR
            · -- 40 f
              refine g_iconst (pc := 43) G dX1_handOn_43 ?_
              refine g_goto (pc := 44) G 48 dX1_handOn_44 (by decide) ?_
              refine g_istore (pc := 48) (lv' := [_, _, _, _, _, _, _]) G dX1_handOn_48 (by decide) rfl ?_
              refine g_iload (pc := 50) G dX1_handOn_50 rfl ?_
              refine g_if_eq (pc := 52) G (by omega) 85 dX1_handOn_52 (by decide) (fun h => absurd h (by decide)) (fun _ => ?_)
              refine g_iload (pc := 55) G dX1_handOn_55 rfl ?_
              refine g_if_lt (pc := 57) G (rg _) 85 dX1_handOn_57 (by decide) (fun h57 => ?_) (fun h57 => ?_)
              · -- 57 t
                rw [if_neg (fun w => Int.not_le.mpr h57 w.2.2.1)] at hR
                --go
                refine g_iinc (pc := 85) (lv' := [_, _, _, _, _, _, _]) G dX1_handOn_85 (by decide) rfl rfl ?_
                refine g_goto (pc := 88) G 2 dX1_handOn_88 (by decide) ?_
                exact ih (x + 1) L1 _ _ _ (by clear hR; omega) (by clear hR; omega) (by clear hR; omega) ho1 hR
              · -- 57 f
                refine g_iload (pc := 60) G dX1_handOn_60 rfl ?_
                refine g_aload_n (pc := 62) G dX1_handOn_62 rfl ?_
                refine g_getR (pc := 63) G hinX1 oFree rfl 0 (by decide) f9 rfl rfl dX1_handOn_63 ?_
                refine g_alenJ (pc := 66) G aWays dX1_handOn_66 ?_
                refine g_icmp_ge (pc := 67) G (rg _) (by clear hR; omega) 85 dX1_handOn_67 (by decide) (fun h67 => ?_) (fun h67 => ?_)
                · -- 67 t
                  rw [if_neg (fun w => Int.not_lt.mpr h67 w.2.2.2)] at hR
                  --go
                  refine g_iinc (pc := 85) (lv' := [_, _, _, _, _, _, _]) G dX1_handOn_85 (by decide) rfl rfl ?_
                  refine g_goto (pc := 88) G 2 dX1_handOn_88 (by decide) ?_
                  exact ih (x + 1) L1 _ _ _ (by clear hR; omega) (by clear hR; omega) (by clear hR; omega) ho1 hR
                · -- 67 f
                  rw [if_pos ⟨h29, h40, h57, h67⟩] at hR
                  --go
                  refine g_aload_n (pc := 70) G dX1_handOn_70 rfl ?_
                  refine g_getR (pc := 71) G hinX1 oFree rfl 0 (by decide) f9 rfl rfl dX1_handOn_71 ?_
                  refine g_iload (pc := 74) G dX1_handOn_74 rfl ?_
                  refine g_dup2 (pc := 76) G dX1_handOn_76 rfl rfl ?_
                  refine g_lald (pc := 77) G aWays ⟨by exact h57, by exact h67⟩ dX1_handOn_77 ?_
                  refine g_aload_n (pc := 78) G dX1_handOn_78 rfl ?_
                  refine g_iload_n (pc := 79) G dX1_handOn_79 rfl ?_
                  refine g_call (pc := 80) (n := 1) (As := [_]) G (kX1_waysFrom hD s hs M L1) gX1_handOn_X1_waysFrom oFree rfl rfl hdX1_waysFrom rfl rfl ⟨Nat.le_of_ble_eq_true rfl, Nat.le_of_ble_eq_true rfl⟩ rfl rfl (Nat.le_of_ble_eq_true rfl) dX1_handOn_80 ?_
                  rintro _ _ _ ⟨rfl, rfl, rfl⟩
                  refine g_ladd (pc := 83) G dX1_handOn_83 ?_
                  refine g_last (pc := 84) G aWays ⟨by exact h57, by exact h67⟩ dX1_handOn_84 ?_
                  refine g_mem (fun M2 L2 hM2 hL2 => ?_)
                  obtain rfl : M = M2 := hM2.symm
                  have ho2 : ∀ k, k ≠ 5 → L2 k = L k := fun k hk => by rw [hL2, sjV_o hk]; exact ho1 k hk
                  have h52 : L2 5 = fun z => if z = lessI s x then L1 5 (lessI s x) + wysR (L1 5) s else L1 5 z := by
                    funext z
                    rw [hL2, sjV_s]
                    rfl
                  clear hL2
                  refine g_iinc (pc := 85) (lv' := [_, _, _, _, _, _, _]) G dX1_handOn_85 (by decide) rfl rfl ?_
                  refine g_goto (pc := 88) G 2 dX1_handOn_88 (by decide) ?_
                  exact ih (x + 1) L2 _ _ _ (by clear hR; omega) (by clear hR; omega) (by clear hR; omega) ho2 (by rw [h52]; exact hR)
  refine g_iconst (pc := 0) G dX1_handOn_0 ?_
  refine g_istore_n (pc := 1) (lv' := [_, _, _, _, _, _, _]) G dX1_handOn_1 (by decide) rfl ?_
  exact loop _ 0 L _ _ _ (by omega) (by omega) (Nat.lt_succ_self _) (fun _ _ => rfl) (by rw [Int.sub_zero])
