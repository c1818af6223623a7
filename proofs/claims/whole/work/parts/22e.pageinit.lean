/-- the page's cells in the order in which they are made -/
def pgI (k : Nat) : Nat := if k < 4 then k else if k < 9 then 80 + k else if k < 29 then 4 + 40 * ((k - 9) / 10) + (k - 9) % 10 else if k < 79 then 19 + 40 * ((k - 29) / 25) + (k - 29) % 25 else 14 + 40 * ((k - 79) / 5) + (k - 79) % 5
def pgJ (k : Nat) : Nat := if k < 4 then k else if k < 84 then (if (k - 4) % 40 < 10 then 9 + 10 * ((k - 4) / 40) + (k - 4) % 40 else if (k - 4) % 40 < 15 then 79 + 5 * ((k - 4) / 40) + ((k - 4) % 40 - 10) else 29 + 25 * ((k - 4) / 40) + ((k - 4) % 40 - 15)) else k - 80
theorem pgIJ : ∀ k, k < 89 → pgJ (pgI k) = k ∧ pgI k < 89 := by decide
theorem pgJI : ∀ k, k < 89 → pgI (pgJ k) = k ∧ pgJ k < 89 := by decide
def cM0 : sjM := fun k z => if k < 29 then 0 else emM ((k - 29) % 5) z
def cPg (cI cZ cJ cT cC : ClassId) (ad : Nat → Nat) (k : Nat) : va_E := kC cI cZ cJ cT cC (fun j => ad (pgI j)) cM0 (fun _ _ => 0) (pgJ k)
theorem nj_eqA2 {p : Program} {l : Launch} {e : Env} {R : Room} {s : State} {m : MethodId} {args : Array Value} {below : List Frame} {meth : Method} {c : Code} {nL : Nat} {D : va_G} {A : Nat → Prop} {H0 : Heap} {Q : State → Prop} {pc N : Nat} {ad : Nat → Nat} {ct : Nat → va_E} {cells slots : Nat} {lv : List (Option Value)} {st : List Value} {k n : Nat} {cX : ClassId} {f : Nat → Option Nat} {gf : (Nat → Nat) → Nat → Option Nat} (hk : k < N) (hO : ct k = .inl (cX, n, .inr (.inr (.inr (.inr f))))) (h : ∀ j, j < n → f j = gf ad j) (kk : nj p l e R s m args below meth c D A H0 nL Q pc N ad (ctU ct k (.inl (cX, n, .inr (.inr (.inr (.inr (gf ad))))))) cells slots lv st) : nj p l e R s m args below meth c D A H0 nL Q pc N ad ct cells slots lv st := nj_eqA hk hO h kk
set_option maxHeartbeats 8000000 in
set_option maxRecDepth 100000 in
theorem kX3_init {l : Launch} {D : va_G} {cI cZ cJ cT cC : ClassId} (h0 sz : Nat) : Met l yX3_init wsX3_init { frames := 2, cells := 88, slots := 10164, locals := 42 } (njA D cI cZ cJ cT cC [.ref h0] h0 (.inr (3, [.null, .null, .null, .null, .null, .null, .int 0])) sz) (njZ D 89 h0 sz (cPg cI cZ cJ cT cC)) 88 10164 (njB h0 sz) := by
  refine nj_met (cc := cX3_init) (maxL := 4) (lv := [_, _, _, _]) (by decide) rfl rfl (List.forall_mem_cons.mpr ⟨rfl, fun _ h => absurd h List.not_mem_nil⟩) (Nat.le_of_ble_eq_true rfl) rfl ?_
  intro p e s m args below meth c hsz F hr hlk
  have f11 : Cond.fieldLink RX3 11 "SharedPage" "texts" "[LSharedPage$Text;" ∈ wsX3_init := by decide +kernel
  have f17 : Cond.fieldLink RX3 17 "SharedPage" "copies" "[LSharedPage$Copy;" ∈ wsX3_init := by decide +kernel
  have f21 : Cond.fieldLink RX3 21 "SharedPage" "spares" "[LSharedPage$Copy;" ∈ wsX3_init := by decide +kernel
  have f33 : Cond.fieldLink RX3 33 "SharedPage" "freeOrders" "LSharedPage$FreeOrders;" ∈ wsX3_init := by decide +kernel
  have f37 : Cond.fieldLink RX3 37 "SharedPage" "drawing" "[I" ∈ wsX3_init := by decide +kernel
  have f41 : Cond.fieldLink RX3 41 "SharedPage" "written" "[I" ∈ wsX3_init := by decide +kernel
  have f44 : Cond.fieldLink RX3 44 "SharedPage" "writtenLength" "I" ∈ wsX3_init := by decide +kernel
  have hinX0 : ∀ w ∈ u_ws RX0 TX0 12, w ∈ wsX3_init := fun w h => List.mem_cons_of_mem _ (List.mem_append_left _ (List.mem_append_right _ h))
  have hfsX0 : ∀ j, j < 12 → defaultValue (tyX0 j) = vp_V [.null, .null, .null, .null, .null, .int 0, .int 0, .int 0, .int 0, .int 0, .int 0, .int 0] j := fun j hj => by
    match j, hj with
    | 0, _ => rfl
    | 1, _ => rfl
    | 2, _ => rfl
    | 3, _ => rfl
    | 4, _ => rfl
    | 5, _ => rfl
    | 6, _ => rfl
    | 7, _ => rfl
    | 8, _ => rfl
    | 9, _ => rfl
    | 10, _ => rfl
    | 11, _ => rfl
    | j + 12, h => omega
  have hinX1 : ∀ w ∈ u_ws RX1 TX1 2, w ∈ wsX3_init := fun w h => List.mem_cons_of_mem _ (List.mem_append_right _ h)
  have hfsX1 : ∀ j, j < 2 → defaultValue (tyX1 j) = vp_V [.null, .null] j := fun j hj => by
    match j, hj with
    | 0, _ => rfl
    | 1, _ => rfl
    | j + 2, h => omega
  have hinX2 : ∀ w ∈ u_ws RX2 TX2 13, w ∈ wsX3_init := fun w h => List.mem_cons_of_mem _ (List.mem_append_left _ (List.mem_append_left _ (List.mem_append_right _ h)))
  have hfsX2 : ∀ j, j < 13 → defaultValue (tyX2 j) = vp_V [.int 0, .null, .null, .null, .null, .null, .null, .null, .null, .null, .int 0, .int 0, .int 0] j := fun j hj => by
    match j, hj with
    | 0, _ => rfl
    | 1, _ => rfl
    | 2, _ => rfl
    | 3, _ => rfl
    | 4, _ => rfl
    | 5, _ => rfl
    | 6, _ => rfl
    | 7, _ => rfl
    | 8, _ => rfl
    | 9, _ => rfl
    | 10, _ => rfl
    | 11, _ => rfl
    | 12, _ => rfl
    | j + 13, h => omega
  have hinX3 : ∀ w ∈ u_ws RX3 TX3 7, w ∈ wsX3_init := fun w h => List.mem_cons_of_mem _ (List.mem_append_left _ (List.mem_append_left _ (List.mem_append_left _ (List.mem_append_right _ h))))
  refine nj_aload_n (pc := 0) F dX3_init_0 rfl ?_
  refine nj_objI (pc := 1) F (by decide +kernel) (by decide +kernel) (List.mem_cons_of_mem _ (by decide +kernel)) (Nat.le_of_ble_eq_true rfl) (Nat.le_of_ble_eq_true rfl) dX3_init_1 ?_
  refine nj_aload_n (pc := 4) F dX3_init_4 rfl ?_
  refine nj_iconst (pc := 5) F dX3_init_5 ?_
  refine nj_newq (pc := 6) (t0 := 3) (cX := cT) (njF_g F) 2 rfl (by decide +kernel) F.2.2.2.1.1 (Nat.le_of_ble_eq_true rfl) (Nat.le_of_ble_eq_true rfl) (Nat.le_of_ble_eq_true rfl) dX3_init_6 (fun q1 => ?_)
  refine nj_putF (pc := 9) (k := 0) (ci := 3) (fs := [.null, .null, .null, .null, .null, .null, .int 0]) (v := .ref q1) (ty := (.array (.object "SharedPage$Text"))) F tyX3 tyX3_ok nmX3 hinX3 (by omega) rfl rfl 0 (by decide) f11 rfl rfl rfl rfl rfl rfl (Nat.le_of_ble_eq_true rfl) dX3_init_9 ?_
  refine nj_aload_n (pc := 12) F dX3_init_12 rfl ?_
  refine nj_bipush (pc := 13) F dX3_init_13 rfl ?_
  refine nj_newq (pc := 15) (t0 := 4) (cX := cC) (njF_g F) 10 rfl (by decide +kernel) F.2.2.2.1.2 (Nat.le_of_ble_eq_true rfl) (Nat.le_of_ble_eq_true rfl) (Nat.le_of_ble_eq_true rfl) dX3_init_15 (fun q2 => ?_)
  refine nj_putF (pc := 18) (k := 0) (ci := 3) (fs := [.ref q1, .null, .null, .null, .null, .null, .int 0]) (v := .ref q2) (ty := (.array (.object "SharedPage$Copy"))) F tyX3 tyX3_ok nmX3 hinX3 (by omega) rfl rfl 1 (by decide) f17 rfl rfl rfl rfl rfl rfl (Nat.le_of_ble_eq_true rfl) dX3_init_18 ?_
  refine nj_aload_n (pc := 21) F dX3_init_21 rfl ?_
  refine nj_iconst (pc := 22) F dX3_init_22 ?_
  refine nj_newq (pc := 23) (t0 := 4) (cX := cC) (njF_g F) 2 rfl (by decide +kernel) F.2.2.2.1.2 (Nat.le_of_ble_eq_true rfl) (Nat.le_of_ble_eq_true rfl) (Nat.le_of_ble_eq_true rfl) dX3_init_23 (fun q3 => ?_)
  refine nj_putF (pc := 26) (k := 0) (ci := 3) (fs := [.ref q1, .ref q2, .null, .null, .null, .null, .int 0]) (v := .ref q3) (ty := (.array (.object "SharedPage$Copy"))) F tyX3 tyX3_ok nmX3 hinX3 (by omega) rfl rfl 2 (by decide) f21 rfl rfl rfl rfl rfl rfl (Nat.le_of_ble_eq_true rfl) dX3_init_26 ?_
  refine nj_iconst (pc := 29) F dX3_init_29 ?_
  refine nj_istore_n (pc := 30) (lv' := [_, _, _, _]) (njF_g F) dX3_init_30 (by decide) rfl ?_
  refine nj_iload_n (pc := 31) F dX3_init_31 rfl ?_
  refine nj_iconst (pc := 32) F dX3_init_32 ?_
  refine nj_icmp_ge (pc := 33) (njF_g F) (by decide) (by decide) 111 dX3_init_33 (by decide) (fun h => absurd h (by decide)) (fun _ => ?_)
  refine nj_new (pc := 36) (ci := 2) (fs := [.int 0, .null, .null, .null, .null, .null, .null, .null, .null, .null, .int 0, .int 0, .int 0]) (njF_g F) hinX2 tyX2 tyX2_ok (by decide +kernel) (by decide +kernel) (by decide +kernel) rfl hfsX2 (Nat.le_of_ble_eq_true rfl) (Nat.le_of_ble_eq_true rfl) dX3_init_36 (fun q4 => ?_)
  refine nj_dup (pc := 39) (njF_g F) dX3_init_39 rfl ?_
  refine nj_iload_n (pc := 40) F dX3_init_40 rfl ?_
  refine nj_if_ne (pc := 41) (njF_g F) (by decide) 48 dX3_init_41 (by decide) (fun h => absurd h (by decide)) (fun _ => ?_)
  refine nj_iconst (pc := 44) F dX3_init_44 ?_
  refine nj_goto (pc := 45) (njF_g F) 49 dX3_init_45 (by decide) ?_
  refine nj_callI (pc := 49) (N := 4) (n := 1) (nn := 10) (mc := 9) (ms := 785) (h0 := q4) (As := [.int (iI 1)]) (njF_g F) (fun sz => kX2_init q4 sz (iI 1) rfl rfl) rfl rfl gX3_init_X2_init rfl (by decide +kernel) (by decide +kernel) (by decide +kernel) rfl (by decide +kernel) rfl rfl ⟨Nat.le_of_ble_eq_true rfl, Nat.le_of_ble_eq_true rfl⟩ ⟨Nat.le_of_ble_eq_true rfl, Nat.le_of_ble_eq_true rfl⟩ rfl rfl (Nat.le_of_ble_eq_true rfl) dX3_init_49 (fun a4 ha4 => ?_)
  subst ha4
  refine nj_astore_n (pc := 52) (lv' := [_, _, _, _]) (njF_g F) dX3_init_52 (by decide) rfl ?_
  refine nj_aload_n (pc := 53) F dX3_init_53 rfl ?_
  refine nj_getR (pc := 54) (k := 0) (ci := 3) (fs := [.ref q1, .ref q2, .ref q3, .null, .null, .null, .int 0]) (njF_g F) hinX3 (by omega) rfl rfl 0 (by decide) f11 rfl rfl dX3_init_54 ?_
  refine nj_iload_n (pc := 57) F dX3_init_57 rfl ?_
  refine nj_aload_n (pc := 58) F dX3_init_58 rfl ?_
  refine nj_astq (pc := 59) (k := 1) (kv := 4) (i := 0) (n := 2) (t0 := 3) (cX := cT) (ci := 2) (f := (fun _ => none)) (njF_g F) (by omega) (by omega) rfl rfl rfl rfl (by decide) (by omega) (by omega) dX3_init_59 ?_
  refine nj_aload_n (pc := 60) F dX3_init_60 rfl ?_
  refine nj_getR (pc := 61) (k := 0) (ci := 3) (fs := [.ref q1, .ref q2, .ref q3, .null, .null, .null, .int 0]) (njF_g F) hinX3 (by omega) rfl rfl 2 (by decide) f21 rfl rfl dX3_init_61 ?_
  refine nj_iload_n (pc := 64) F dX3_init_64 rfl ?_
  refine nj_new (pc := 65) (ci := 0) (fs := [.null, .null, .null, .null, .null, .int 0, .int 0, .int 0, .int 0, .int 0, .int 0, .int 0]) (njF_g F) hinX0 tyX0 tyX0_ok (by decide +kernel) (by decide +kernel) (by decide +kernel) rfl hfsX0 (Nat.le_of_ble_eq_true rfl) (Nat.le_of_ble_eq_true rfl) dX3_init_65 (fun q14 => ?_)
  refine nj_dup (pc := 68) (njF_g F) dX3_init_68 rfl ?_
  refine nj_aload_n (pc := 69) F dX3_init_69 rfl ?_
  refine nj_callI (pc := 70) (N := 14) (n := 1) (nn := 5) (mc := 4) (ms := 340) (h0 := q14) (As := [.ref (a4 0)]) (njF_g F) (fun sz => kX0_init q14 sz (a4 0)) rfl rfl gX3_init_X0_init rfl (by decide +kernel) (by decide +kernel) (by decide +kernel) rfl (by decide +kernel) rfl rfl ⟨Nat.le_of_ble_eq_true rfl, Nat.le_of_ble_eq_true rfl⟩ ⟨Nat.le_of_ble_eq_true rfl, Nat.le_of_ble_eq_true rfl⟩ rfl rfl (Nat.le_of_ble_eq_true rfl) dX3_init_70 (fun a14 ha14 => ?_)
  subst ha14
  refine nj_astq (pc := 73) (k := 3) (kv := 14) (i := 0) (n := 2) (t0 := 4) (cX := cC) (ci := 0) (f := (fun _ => none)) (njF_g F) (by omega) (by omega) rfl rfl rfl rfl (by decide) (by omega) (by omega) dX3_init_73 ?_
  refine nj_iconst (pc := 74) F dX3_init_74 ?_
  refine nj_istore_n (pc := 75) (lv' := [_, _, _, _]) (njF_g F) dX3_init_75 (by decide) rfl ?_
  refine nj_iload_n (pc := 76) F dX3_init_76 rfl ?_
  refine nj_iconst (pc := 77) F dX3_init_77 ?_
  refine nj_icmp_ge (pc := 78) (njF_g F) (by decide) (by decide) 105 dX3_init_78 (by decide) (fun h => absurd h (by decide)) (fun _ => ?_)
  refine nj_aload_n (pc := 81) F dX3_init_81 rfl ?_
  refine nj_getR (pc := 82) (k := 0) (ci := 3) (fs := [.ref q1, .ref q2, .ref q3, .null, .null, .null, .int 0]) (njF_g F) hinX3 (by omega) rfl rfl 1 (by decide) f17 rfl rfl dX3_init_82 ?_
  refine nj_iload_n (pc := 85) F dX3_init_85 rfl ?_
  refine nj_iconst (pc := 86) F dX3_init_86 ?_
  refine nj_imul (pc := 87) (njF_g F) dX3_init_87 ?_
  refine nj_iload_n (pc := 88) F dX3_init_88 rfl ?_
  refine nj_iadd (pc := 89) (njF_g F) dX3_init_89 ?_
  refine nj_new (pc := 90) (ci := 0) (fs := [.null, .null, .null, .null, .null, .int 0, .int 0, .int 0, .int 0, .int 0, .int 0, .int 0]) (njF_g F) hinX0 tyX0 tyX0_ok (by decide +kernel) (by decide +kernel) (by decide +kernel) rfl hfsX0 (Nat.le_of_ble_eq_true rfl) (Nat.le_of_ble_eq_true rfl) dX3_init_90 (fun q19 => ?_)
  refine nj_dup (pc := 93) (njF_g F) dX3_init_93 rfl ?_
  refine nj_aload_n (pc := 94) F dX3_init_94 rfl ?_
  refine nj_callI (pc := 95) (N := 19) (n := 1) (nn := 5) (mc := 4) (ms := 340) (h0 := q19) (As := [.ref (a4 0)]) (njF_g F) (fun sz => kX0_init q19 sz (a4 0)) rfl rfl gX3_init_X0_init rfl (by decide +kernel) (by decide +kernel) (by decide +kernel) rfl (by decide +kernel) rfl rfl ⟨Nat.le_of_ble_eq_true rfl, Nat.le_of_ble_eq_true rfl⟩ ⟨Nat.le_of_ble_eq_true rfl, Nat.le_of_ble_eq_true rfl⟩ rfl rfl (Nat.le_of_ble_eq_true rfl) dX3_init_95 (fun a19 ha19 => ?_)
  subst ha19
  refine nj_astq (pc := 98) (k := 2) (kv := 19) (i := 0) (n := 10) (t0 := 4) (cX := cC) (ci := 0) (f := (fun _ => none)) (njF_g F) (by omega) (by omega) rfl rfl rfl rfl (by decide) (by omega) (by omega) dX3_init_98 ?_
  refine nj_iinc (pc := 99) (lv' := [_, _, _, _]) (njF_g F) dX3_init_99 (by decide) rfl rfl ?_
  refine nj_goto (pc := 102) (njF_g F) 76 dX3_init_102 (by decide) ?_
  refine nj_iload_n (pc := 76) F dX3_init_76 rfl ?_
  refine nj_iconst (pc := 77) F dX3_init_77 ?_
  refine nj_icmp_ge (pc := 78) (njF_g F) (by decide) (by decide) 105 dX3_init_78 (by decide) (fun h => absurd h (by decide)) (fun _ => ?_)
  refine nj_aload_n (pc := 81) F dX3_init_81 rfl ?_
  refine nj_getR (pc := 82) (k := 0) (ci := 3) (fs := [.ref q1, .ref q2, .ref q3, .null, .null, .null, .int 0]) (njF_g F) hinX3 (by omega) rfl rfl 1 (by decide) f17 rfl rfl dX3_init_82 ?_
  refine nj_iload_n (pc := 85) F dX3_init_85 rfl ?_
  refine nj_iconst (pc := 86) F dX3_init_86 ?_
  refine nj_imul (pc := 87) (njF_g F) dX3_init_87 ?_
  refine nj_iload_n (pc := 88) F dX3_init_88 rfl ?_
  refine nj_iadd (pc := 89) (njF_g F) dX3_init_89 ?_
  refine nj_new (pc := 90) (ci := 0) (fs := [.null, .null, .null, .null, .null, .int 0, .int 0, .int 0, .int 0, .int 0, .int 0, .int 0]) (njF_g F) hinX0 tyX0 tyX0_ok (by decide +kernel) (by decide +kernel) (by decide +kernel) rfl hfsX0 (Nat.le_of_ble_eq_true rfl) (Nat.le_of_ble_eq_true rfl) dX3_init_90 (fun q24 => ?_)
  refine nj_dup (pc := 93) (njF_g F) dX3_init_93 rfl ?_
  refine nj_aload_n (pc := 94) F dX3_init_94 rfl ?_
  refine nj_callI (pc := 95) (N := 24) (n := 1) (nn := 5) (mc := 4) (ms := 340) (h0 := q24) (As := [.ref (a4 0)]) (njF_g F) (fun sz => kX0_init q24 sz (a4 0)) rfl rfl gX3_init_X0_init rfl (by decide +kernel) (by decide +kernel) (by decide +kernel) rfl (by decide +kernel) rfl rfl ⟨Nat.le_of_ble_eq_true rfl, Nat.le_of_ble_eq_true rfl⟩ ⟨Nat.le_of_ble_eq_true rfl, Nat.le_of_ble_eq_true rfl⟩ rfl rfl (Nat.le_of_ble_eq_true rfl) dX3_init_95 (fun a24 ha24 => ?_)
  subst ha24
  refine nj_astq (pc := 98) (k := 2) (kv := 24) (i := 1) (n := 10) (t0 := 4) (cX := cC) (ci := 0) (f := (va_up (fun _ => none) 0 (some (a19 0)))) (njF_g F) (by omega) (by omega) rfl rfl rfl rfl (by decide) (by omega) (by omega) dX3_init_98 ?_
  refine nj_iinc (pc := 99) (lv' := [_, _, _, _]) (njF_g F) dX3_init_99 (by decide) rfl rfl ?_
  refine nj_goto (pc := 102) (njF_g F) 76 dX3_init_102 (by decide) ?_
  refine nj_iload_n (pc := 76) F dX3_init_76 rfl ?_
  refine nj_iconst (pc := 77) F dX3_init_77 ?_
  refine nj_icmp_ge (pc := 78) (njF_g F) (by decide) (by decide) 105 dX3_init_78 (by decide) (fun h => absurd h (by decide)) (fun _ => ?_)
  refine nj_aload_n (pc := 81) F dX3_init_81 rfl ?_
  refine nj_getR (pc := 82) (k := 0) (ci := 3) (fs := [.ref q1, .ref q2, .ref q3, .null, .null, .null, .int 0]) (njF_g F) hinX3 (by omega) rfl rfl 1 (by decide) f17 rfl rfl dX3_init_82 ?_
  refine nj_iload_n (pc := 85) F dX3_init_85 rfl ?_
  refine nj_iconst (pc := 86) F dX3_init_86 ?_
  refine nj_imul (pc := 87) (njF_g F) dX3_init_87 ?_
  refine nj_iload_n (pc := 88) F dX3_init_88 rfl ?_
  refine nj_iadd (pc := 89) (njF_g F) dX3_init_89 ?_
  refine nj_new (pc := 90) (ci := 0) (fs := [.null, .null, .null, .null, .null, .int 0, .int 0, .int 0, .int 0, .int 0, .int 0, .int 0]) (njF_g F) hinX0 tyX0 tyX0_ok (by decide +kernel) (by decide +kernel) (by decide +kernel) rfl hfsX0 (Nat.le_of_ble_eq_true rfl) (Nat.le_of_ble_eq_true rfl) dX3_init_90 (fun q29 => ?_)
  refine nj_dup (pc := 93) (njF_g F) dX3_init_93 rfl ?_
  refine nj_aload_n (pc := 94) F dX3_init_94 rfl ?_
  refine nj_callI (pc := 95) (N := 29) (n := 1) (nn := 5) (mc := 4) (ms := 340) (h0 := q29) (As := [.ref (a4 0)]) (njF_g F) (fun sz => kX0_init q29 sz (a4 0)) rfl rfl gX3_init_X0_init rfl (by decide +kernel) (by decide +kernel) (by decide +kernel) rfl (by decide +kernel) rfl rfl ⟨Nat.le_of_ble_eq_true rfl, Nat.le_of_ble_eq_true rfl⟩ ⟨Nat.le_of_ble_eq_true rfl, Nat.le_of_ble_eq_true rfl⟩ rfl rfl (Nat.le_of_ble_eq_true rfl) dX3_init_95 (fun a29 ha29 => ?_)
  subst ha29
  refine nj_astq (pc := 98) (k := 2) (kv := 29) (i := 2) (n := 10) (t0 := 4) (cX := cC) (ci := 0) (f := (va_up (va_up (fun _ => none) 0 (some (a19 0))) 1 (some (a24 0)))) (njF_g F) (by omega) (by omega) rfl rfl rfl rfl (by decide) (by omega) (by omega) dX3_init_98 ?_
  refine nj_iinc (pc := 99) (lv' := [_, _, _, _]) (njF_g F) dX3_init_99 (by decide) rfl rfl ?_
  refine nj_goto (pc := 102) (njF_g F) 76 dX3_init_102 (by decide) ?_
  refine nj_iload_n (pc := 76) F dX3_init_76 rfl ?_
  refine nj_iconst (pc := 77) F dX3_init_77 ?_
  refine nj_icmp_ge (pc := 78) (njF_g F) (by decide) (by decide) 105 dX3_init_78 (by decide) (fun h => absurd h (by decide)) (fun _ => ?_)
  refine nj_aload_n (pc := 81) F dX3_init_81 rfl ?_
  refine nj_getR (pc := 82) (k := 0) (ci := 3) (fs := [.ref q1, .ref q2, .ref q3, .null, .null, .null, .int 0]) (njF_g F) hinX3 (by omega) rfl rfl 1 (by decide) f17 rfl rfl dX3_init_82 ?_
  refine nj_iload_n (pc := 85) F dX3_init_85 rfl ?_
  refine nj_iconst (pc := 86) F dX3_init_86 ?_
  refine nj_imul (pc := 87) (njF_g F) dX3_init_87 ?_
  refine nj_iload_n (pc := 88) F dX3_init_88 rfl ?_
  refine nj_iadd (pc := 89) (njF_g F) dX3_init_89 ?_
  refine nj_new (pc := 90) (ci := 0) (fs := [.null, .null, .null, .null, .null, .int 0, .int 0, .int 0, .int 0, .int 0, .int 0, .int 0]) (njF_g F) hinX0 tyX0 tyX0_ok (by decide +kernel) (by decide +kernel) (by decide +kernel) rfl hfsX0 (Nat.le_of_ble_eq_true rfl) (Nat.le_of_ble_eq_true rfl) dX3_init_90 (fun q34 => ?_)
  refine nj_dup (pc := 93) (njF_g F) dX3_init_93 rfl ?_
  refine nj_aload_n (pc := 94) F dX3_init_94 rfl ?_
  refine nj_callI (pc := 95) (N := 34) (n := 1) (nn := 5) (mc := 4) (ms := 340) (h0 := q34) (As := [.ref (a4 0)]) (njF_g F) (fun sz => kX0_init q34 sz (a4 0)) rfl rfl gX3_init_X0_init rfl (by decide +kernel) (by decide +kernel) (by decide +kernel) rfl (by decide +kernel) rfl rfl ⟨Nat.le_of_ble_eq_true rfl, Nat.le_of_ble_eq_true rfl⟩ ⟨Nat.le_of_ble_eq_true rfl, Nat.le_of_ble_eq_true rfl⟩ rfl rfl (Nat.le_of_ble_eq_true rfl) dX3_init_95 (fun a34 ha34 => ?_)
  subst ha34
  refine nj_astq (pc := 98) (k := 2) (kv := 34) (i := 3) (n := 10) (t0 := 4) (cX := cC) (ci := 0) (f := (va_up (va_up (va_up (fun _ => none) 0 (some (a19 0))) 1 (some (a24 0))) 2 (some (a29 0)))) (njF_g F) (by omega) (by omega) rfl rfl rfl rfl (by decide) (by omega) (by omega) dX3_init_98 ?_
  refine nj_iinc (pc := 99) (lv' := [_, _, _, _]) (njF_g F) dX3_init_99 (by decide) rfl rfl ?_
  refine nj_goto (pc := 102) (njF_g F) 76 dX3_init_102 (by decide) ?_
  refine nj_iload_n (pc := 76) F dX3_init_76 rfl ?_
  refine nj_iconst (pc := 77) F dX3_init_77 ?_
  refine nj_icmp_ge (pc := 78) (njF_g F) (by decide) (by decide) 105 dX3_init_78 (by decide) (fun h => absurd h (by decide)) (fun _ => ?_)
  refine nj_aload_n (pc := 81) F dX3_init_81 rfl ?_
  refine nj_getR (pc := 82) (k := 0) (ci := 3) (fs := [.ref q1, .ref q2, .ref q3, .null, .null, .null, .int 0]) (njF_g F) hinX3 (by omega) rfl rfl 1 (by decide) f17 rfl rfl dX3_init_82 ?_
  refine nj_iload_n (pc := 85) F dX3_init_85 rfl ?_
  refine nj_iconst (pc := 86) F dX3_init_86 ?_
  refine nj_imul (pc := 87) (njF_g F) dX3_init_87 ?_
  refine nj_iload_n (pc := 88) F dX3_init_88 rfl ?_
  refine nj_iadd (pc := 89) (njF_g F) dX3_init_89 ?_
  refine nj_new (pc := 90) (ci := 0) (fs := [.null, .null, .null, .null, .null, .int 0, .int 0, .int 0, .int 0, .int 0, .int 0, .int 0]) (njF_g F) hinX0 tyX0 tyX0_ok (by decide +kernel) (by decide +kernel) (by decide +kernel) rfl hfsX0 (Nat.le_of_ble_eq_true rfl) (Nat.le_of_ble_eq_true rfl) dX3_init_90 (fun q39 => ?_)
  refine nj_dup (pc := 93) (njF_g F) dX3_init_93 rfl ?_
  refine nj_aload_n (pc := 94) F dX3_init_94 rfl ?_
  refine nj_callI (pc := 95) (N := 39) (n := 1) (nn := 5) (mc := 4) (ms := 340) (h0 := q39) (As := [.ref (a4 0)]) (njF_g F) (fun sz => kX0_init q39 sz (a4 0)) rfl rfl gX3_init_X0_init rfl (by decide +kernel) (by decide +kernel) (by decide +kernel) rfl (by decide +kernel) rfl rfl ⟨Nat.le_of_ble_eq_true rfl, Nat.le_of_ble_eq_true rfl⟩ ⟨Nat.le_of_ble_eq_true rfl, Nat.le_of_ble_eq_true rfl⟩ rfl rfl (Nat.le_of_ble_eq_true rfl) dX3_init_95 (fun a39 ha39 => ?_)
  subst ha39
  refine nj_astq (pc := 98) (k := 2) (kv := 39) (i := 4) (n := 10) (t0 := 4) (cX := cC) (ci := 0) (f := (va_up (va_up (va_up (va_up (fun _ => none) 0 (some (a19 0))) 1 (some (a24 0))) 2 (some (a29 0))) 3 (some (a34 0)))) (njF_g F) (by omega) (by omega) rfl rfl rfl rfl (by decide) (by omega) (by omega) dX3_init_98 ?_
  refine nj_iinc (pc := 99) (lv' := [_, _, _, _]) (njF_g F) dX3_init_99 (by decide) rfl rfl ?_
  refine nj_goto (pc := 102) (njF_g F) 76 dX3_init_102 (by decide) ?_
  refine nj_iload_n (pc := 76) F dX3_init_76 rfl ?_
  refine nj_iconst (pc := 77) F dX3_init_77 ?_
  refine nj_icmp_ge (pc := 78) (njF_g F) (by decide) (by decide) 105 dX3_init_78 (by decide) (fun _ => ?_) (fun h => absurd h (by decide))
  refine nj_iinc (pc := 105) (lv' := [_, _, _, _]) (njF_g F) dX3_init_105 (by decide) rfl rfl ?_
  refine nj_goto (pc := 108) (njF_g F) 31 dX3_init_108 (by decide) ?_
  refine nj_iload_n (pc := 31) F dX3_init_31 rfl ?_
  refine nj_iconst (pc := 32) F dX3_init_32 ?_
  refine nj_icmp_ge (pc := 33) (njF_g F) (by decide) (by decide) 111 dX3_init_33 (by decide) (fun h => absurd h (by decide)) (fun _ => ?_)
  refine nj_new (pc := 36) (ci := 2) (fs := [.int 0, .null, .null, .null, .null, .null, .null, .null, .null, .null, .int 0, .int 0, .int 0]) (njF_g F) hinX2 tyX2 tyX2_ok (by decide +kernel) (by decide +kernel) (by decide +kernel) rfl hfsX2 (Nat.le_of_ble_eq_true rfl) (Nat.le_of_ble_eq_true rfl) dX3_init_36 (fun q44 => ?_)
  refine nj_dup (pc := 39) (njF_g F) dX3_init_39 rfl ?_
  refine nj_iload_n (pc := 40) F dX3_init_40 rfl ?_
  refine nj_if_ne (pc := 41) (njF_g F) (by decide) 48 dX3_init_41 (by decide) (fun _ => ?_) (fun h => absurd h (by decide))
  refine nj_iconst (pc := 48) F dX3_init_48 ?_
  refine nj_callI (pc := 49) (N := 44) (n := 1) (nn := 10) (mc := 9) (ms := 785) (h0 := q44) (As := [.int (iI 0)]) (njF_g F) (fun sz => kX2_init q44 sz (iI 0) rfl rfl) rfl rfl gX3_init_X2_init rfl (by decide +kernel) (by decide +kernel) (by decide +kernel) rfl (by decide +kernel) rfl rfl ⟨Nat.le_of_ble_eq_true rfl, Nat.le_of_ble_eq_true rfl⟩ ⟨Nat.le_of_ble_eq_true rfl, Nat.le_of_ble_eq_true rfl⟩ rfl rfl (Nat.le_of_ble_eq_true rfl) dX3_init_49 (fun a44 ha44 => ?_)
  subst ha44
  refine nj_astore_n (pc := 52) (lv' := [_, _, _, _]) (njF_g F) dX3_init_52 (by decide) rfl ?_
  refine nj_aload_n (pc := 53) F dX3_init_53 rfl ?_
  refine nj_getR (pc := 54) (k := 0) (ci := 3) (fs := [.ref q1, .ref q2, .ref q3, .null, .null, .null, .int 0]) (njF_g F) hinX3 (by omega) rfl rfl 0 (by decide) f11 rfl rfl dX3_init_54 ?_
  refine nj_iload_n (pc := 57) F dX3_init_57 rfl ?_
  refine nj_aload_n (pc := 58) F dX3_init_58 rfl ?_
  refine nj_astq (pc := 59) (k := 1) (kv := 44) (i := 1) (n := 2) (t0 := 3) (cX := cT) (ci := 2) (f := (va_up (fun _ => none) 0 (some (a4 0)))) (njF_g F) (by omega) (by omega) rfl rfl rfl rfl (by decide) (by omega) (by omega) dX3_init_59 ?_
  refine nj_aload_n (pc := 60) F dX3_init_60 rfl ?_
  refine nj_getR (pc := 61) (k := 0) (ci := 3) (fs := [.ref q1, .ref q2, .ref q3, .null, .null, .null, .int 0]) (njF_g F) hinX3 (by omega) rfl rfl 2 (by decide) f21 rfl rfl dX3_init_61 ?_
  refine nj_iload_n (pc := 64) F dX3_init_64 rfl ?_
  refine nj_new (pc := 65) (ci := 0) (fs := [.null, .null, .null, .null, .null, .int 0, .int 0, .int 0, .int 0, .int 0, .int 0, .int 0]) (njF_g F) hinX0 tyX0 tyX0_ok (by decide +kernel) (by decide +kernel) (by decide +kernel) rfl hfsX0 (Nat.le_of_ble_eq_true rfl) (Nat.le_of_ble_eq_true rfl) dX3_init_65 (fun q54 => ?_)
  refine nj_dup (pc := 68) (njF_g F) dX3_init_68 rfl ?_
  refine nj_aload_n (pc := 69) F dX3_init_69 rfl ?_
  refine nj_callI (pc := 70) (N := 54) (n := 1) (nn := 5) (mc := 4) (ms := 340) (h0 := q54) (As := [.ref (a44 0)]) (njF_g F) (fun sz => kX0_init q54 sz (a44 0)) rfl rfl gX3_init_X0_init rfl (by decide +kernel) (by decide +kernel) (by decide +kernel) rfl (by decide +kernel) rfl rfl ⟨Nat.le_of_ble_eq_true rfl, Nat.le_of_ble_eq_true rfl⟩ ⟨Nat.le_of_ble_eq_true rfl, Nat.le_of_ble_eq_true rfl⟩ rfl rfl (Nat.le_of_ble_eq_true rfl) dX3_init_70 (fun a54 ha54 => ?_)
  subst ha54
  refine nj_astq (pc := 73) (k := 3) (kv := 54) (i := 1) (n := 2) (t0 := 4) (cX := cC) (ci := 0) (f := (va_up (fun _ => none) 0 (some (a14 0)))) (njF_g F) (by omega) (by omega) rfl rfl rfl rfl (by decide) (by omega) (by omega) dX3_init_73 ?_
  refine nj_iconst (pc := 74) F dX3_init_74 ?_
  refine nj_istore_n (pc := 75) (lv' := [_, _, _, _]) (njF_g F) dX3_init_75 (by decide) rfl ?_
  refine nj_iload_n (pc := 76) F dX3_init_76 rfl ?_
  refine nj_iconst (pc := 77) F dX3_init_77 ?_
  refine nj_icmp_ge (pc := 78) (njF_g F) (by decide) (by decide) 105 dX3_init_78 (by decide) (fun h => absurd h (by decide)) (fun _ => ?_)
  refine nj_aload_n (pc := 81) F dX3_init_81 rfl ?_
  refine nj_getR (pc := 82) (k := 0) (ci := 3) (fs := [.ref q1, .ref q2, .ref q3, .null, .null, .null, .int 0]) (njF_g F) hinX3 (by omega) rfl rfl 1 (by decide) f17 rfl rfl dX3_init_82 ?_
  refine nj_iload_n (pc := 85) F dX3_init_85 rfl ?_
  refine nj_iconst (pc := 86) F dX3_init_86 ?_
  refine nj_imul (pc := 87) (njF_g F) dX3_init_87 ?_
  refine nj_iload_n (pc := 88) F dX3_init_88 rfl ?_
  refine nj_iadd (pc := 89) (njF_g F) dX3_init_89 ?_
  refine nj_new (pc := 90) (ci := 0) (fs := [.null, .null, .null, .null, .null, .int 0, .int 0, .int 0, .int 0, .int 0, .int 0, .int 0]) (njF_g F) hinX0 tyX0 tyX0_ok (by decide +kernel) (by decide +kernel) (by decide +kernel) rfl hfsX0 (Nat.le_of_ble_eq_true rfl) (Nat.le_of_ble_eq_true rfl) dX3_init_90 (fun q59 => ?_)
  refine nj_dup (pc := 93) (njF_g F) dX3_init_93 rfl ?_
  refine nj_aload_n (pc := 94) F dX3_init_94 rfl ?_
  refine nj_callI (pc := 95) (N := 59) (n := 1) (nn := 5) (mc := 4) (ms := 340) (h0 := q59) (As := [.ref (a44 0)]) (njF_g F) (fun sz => kX0_init q59 sz (a44 0)) rfl rfl gX3_init_X0_init rfl (by decide +kernel) (by decide +kernel) (by decide +kernel) rfl (by decide +kernel) rfl rfl ⟨Nat.le_of_ble_eq_true rfl, Nat.le_of_ble_eq_true rfl⟩ ⟨Nat.le_of_ble_eq_true rfl, Nat.le_of_ble_eq_true rfl⟩ rfl rfl (Nat.le_of_ble_eq_true rfl) dX3_init_95 (fun a59 ha59 => ?_)
  subst ha59
  refine nj_astq (pc := 98) (k := 2) (kv := 59) (i := 5) (n := 10) (t0 := 4) (cX := cC) (ci := 0) (f := (va_up (va_up (va_up (va_up (va_up (fun _ => none) 0 (some (a19 0))) 1 (some (a24 0))) 2 (some (a29 0))) 3 (some (a34 0))) 4 (some (a39 0)))) (njF_g F) (by omega) (by omega) rfl rfl rfl rfl (by decide) (by omega) (by omega) dX3_init_98 ?_
  refine nj_iinc (pc := 99) (lv' := [_, _, _, _]) (njF_g F) dX3_init_99 (by decide) rfl rfl ?_
  refine nj_goto (pc := 102) (njF_g F) 76 dX3_init_102 (by decide) ?_
  refine nj_iload_n (pc := 76) F dX3_init_76 rfl ?_
  refine nj_iconst (pc := 77) F dX3_init_77 ?_
  refine nj_icmp_ge (pc := 78) (njF_g F) (by decide) (by decide) 105 dX3_init_78 (by decide) (fun h => absurd h (by decide)) (fun _ => ?_)
  refine nj_aload_n (pc := 81) F dX3_init_81 rfl ?_
  refine nj_getR (pc := 82) (k := 0) (ci := 3) (fs := [.ref q1, .ref q2, .ref q3, .null, .null, .null, .int 0]) (njF_g F) hinX3 (by omega) rfl rfl 1 (by decide) f17 rfl rfl dX3_init_82 ?_
  refine nj_iload_n (pc := 85) F dX3_init_85 rfl ?_
  refine nj_iconst (pc := 86) F dX3_init_86 ?_
  refine nj_imul (pc := 87) (njF_g F) dX3_init_87 ?_
  refine nj_iload_n (pc := 88) F dX3_init_88 rfl ?_
  refine nj_iadd (pc := 89) (njF_g F) dX3_init_89 ?_
  refine nj_new (pc := 90) (ci := 0) (fs := [.null, .null, .null, .null, .null, .int 0, .int 0, .int 0, .int 0, .int 0, .int 0, .int 0]) (njF_g F) hinX0 tyX0 tyX0_ok (by decide +kernel) (by decide +kernel) (by decide +kernel) rfl hfsX0 (Nat.le_of_ble_eq_true rfl) (Nat.le_of_ble_eq_true rfl) dX3_init_90 (fun q64 => ?_)
  refine nj_dup (pc := 93) (njF_g F) dX3_init_93 rfl ?_
  refine nj_aload_n (pc := 94) F dX3_init_94 rfl ?_
  refine nj_callI (pc := 95) (N := 64) (n := 1) (nn := 5) (mc := 4) (ms := 340) (h0 := q64) (As := [.ref (a44 0)]) (njF_g F) (fun sz => kX0_init q64 sz (a44 0)) rfl rfl gX3_init_X0_init rfl (by decide +kernel) (by decide +kernel) (by decide +kernel) rfl (by decide +kernel) rfl rfl ⟨Nat.le_of_ble_eq_true rfl, Nat.le_of_ble_eq_true rfl⟩ ⟨Nat.le_of_ble_eq_true rfl, Nat.le_of_ble_eq_true rfl⟩ rfl rfl (Nat.le_of_ble_eq_true rfl) dX3_init_95 (fun a64 ha64 => ?_)
  subst ha64
  refine nj_astq (pc := 98) (k := 2) (kv := 64) (i := 6) (n := 10) (t0 := 4) (cX := cC) (ci := 0) (f := (va_up (va_up (va_up (va_up (va_up (va_up (fun _ => none) 0 (some (a19 0))) 1 (some (a24 0))) 2 (some (a29 0))) 3 (some (a34 0))) 4 (some (a39 0))) 5 (some (a59 0)))) (njF_g F) (by omega) (by omega) rfl rfl rfl rfl (by decide) (by omega) (by omega) dX3_init_98 ?_
  refine nj_iinc (pc := 99) (lv' := [_, _, _, _]) (njF_g F) dX3_init_99 (by decide) rfl rfl ?_
  refine nj_goto (pc := 102) (njF_g F) 76 dX3_init_102 (by decide) ?_
  refine nj_iload_n (pc := 76) F dX3_init_76 rfl ?_
  refine nj_iconst (pc := 77) F dX3_init_77 ?_
  refine nj_icmp_ge (pc := 78) (njF_g F) (by decide) (by decide) 105 dX3_init_78 (by decide) (fun h => absurd h (by decide)) (fun _ => ?_)
  refine nj_aload_n (pc := 81) F dX3_init_81 rfl ?_
  refine nj_getR (pc := 82) (k := 0) (ci := 3) (fs := [.ref q1, .ref q2, .ref q3, .null, .null, .null, .int 0]) (njF_g F) hinX3 (by omega) rfl rfl 1 (by decide) f17 rfl rfl dX3_init_82 ?_
  refine nj_iload_n (pc := 85) F dX3_init_85 rfl ?_
  refine nj_iconst (pc := 86) F dX3_init_86 ?_
  refine nj_imul (pc := 87) (njF_g F) dX3_init_87 ?_
  refine nj_iload_n (pc := 88) F dX3_init_88 rfl ?_
  refine nj_iadd (pc := 89) (njF_g F) dX3_init_89 ?_
  refine nj_new (pc := 90) (ci := 0) (fs := [.null, .null, .null, .null, .null, .int 0, .int 0, .int 0, .int 0, .int 0, .int 0, .int 0]) (njF_g F) hinX0 tyX0 tyX0_ok (by decide +kernel) (by decide +kernel) (by decide +kernel) rfl hfsX0 (Nat.le_of_ble_eq_true rfl) (Nat.le_of_ble_eq_true rfl) dX3_init_90 (fun q69 => ?_)
  refine nj_dup (pc := 93) (njF_g F) dX3_init_93 rfl ?_
  refine nj_aload_n (pc := 94) F dX3_init_94 rfl ?_
  refine nj_callI (pc := 95) (N := 69) (n := 1) (nn := 5) (mc := 4) (ms := 340) (h0 := q69) (As := [.ref (a44 0)]) (njF_g F) (fun sz => kX0_init q69 sz (a44 0)) rfl rfl gX3_init_X0_init rfl (by decide +kernel) (by decide +kernel) (by decide +kernel) rfl (by decide +kernel) rfl rfl ⟨Nat.le_of_ble_eq_true rfl, Nat.le_of_ble_eq_true rfl⟩ ⟨Nat.le_of_ble_eq_true rfl, Nat.le_of_ble_eq_true rfl⟩ rfl rfl (Nat.le_of_ble_eq_true rfl) dX3_init_95 (fun a69 ha69 => ?_)
  subst ha69
  refine nj_astq (pc := 98) (k := 2) (kv := 69) (i := 7) (n := 10) (t0 := 4) (cX := cC) (ci := 0) (f := (va_up (va_up (va_up (va_up (va_up (va_up (va_up (fun _ => none) 0 (some (a19 0))) 1 (some (a24 0))) 2 (some (a29 0))) 3 (some (a34 0))) 4 (some (a39 0))) 5 (some (a59 0))) 6 (some (a64 0)))) (njF_g F) (by omega) (by omega) rfl rfl rfl rfl (by decide) (by omega) (by omega) dX3_init_98 ?_
  refine nj_iinc (pc := 99) (lv' := [_, _, _, _]) (njF_g F) dX3_init_99 (by decide) rfl rfl ?_
  refine nj_goto (pc := 102) (njF_g F) 76 dX3_init_102 (by decide) ?_
  refine nj_iload_n (pc := 76) F dX3_init_76 rfl ?_
  refine nj_iconst (pc := 77) F dX3_init_77 ?_
  refine nj_icmp_ge (pc := 78) (njF_g F) (by decide) (by decide) 105 dX3_init_78 (by decide) (fun h => absurd h (by decide)) (fun _ => ?_)
  refine nj_aload_n (pc := 81) F dX3_init_81 rfl ?_
  refine nj_getR (pc := 82) (k := 0) (ci := 3) (fs := [.ref q1, .ref q2, .ref q3, .null, .null, .null, .int 0]) (njF_g F) hinX3 (by omega) rfl rfl 1 (by decide) f17 rfl rfl dX3_init_82 ?_
  refine nj_iload_n (pc := 85) F dX3_init_85 rfl ?_
  refine nj_iconst (pc := 86) F dX3_init_86 ?_
  refine nj_imul (pc := 87) (njF_g F) dX3_init_87 ?_
  refine nj_iload_n (pc := 88) F dX3_init_88 rfl ?_
  refine nj_iadd (pc := 89) (njF_g F) dX3_init_89 ?_
  refine nj_new (pc := 90) (ci := 0) (fs := [.null, .null, .null, .null, .null, .int 0, .int 0, .int 0, .int 0, .int 0, .int 0, .int 0]) (njF_g F) hinX0 tyX0 tyX0_ok (by decide +kernel) (by decide +kernel) (by decide +kernel) rfl hfsX0 (Nat.le_of_ble_eq_true rfl) (Nat.le_of_ble_eq_true rfl) dX3_init_90 (fun q74 => ?_)
  refine nj_dup (pc := 93) (njF_g F) dX3_init_93 rfl ?_
  refine nj_aload_n (pc := 94) F dX3_init_94 rfl ?_
  refine nj_callI (pc := 95) (N := 74) (n := 1) (nn := 5) (mc := 4) (ms := 340) (h0 := q74) (As := [.ref (a44 0)]) (njF_g F) (fun sz => kX0_init q74 sz (a44 0)) rfl rfl gX3_init_X0_init rfl (by decide +kernel) (by decide +kernel) (by decide +kernel) rfl (by decide +kernel) rfl rfl ⟨Nat.le_of_ble_eq_true rfl, Nat.le_of_ble_eq_true rfl⟩ ⟨Nat.le_of_ble_eq_true rfl, Nat.le_of_ble_eq_true rfl⟩ rfl rfl (Nat.le_of_ble_eq_true rfl) dX3_init_95 (fun a74 ha74 => ?_)
  subst ha74
  refine nj_astq (pc := 98) (k := 2) (kv := 74) (i := 8) (n := 10) (t0 := 4) (cX := cC) (ci := 0) (f := (va_up (va_up (va_up (va_up (va_up (va_up (va_up (va_up (fun _ => none) 0 (some (a19 0))) 1 (some (a24 0))) 2 (some (a29 0))) 3 (some (a34 0))) 4 (some (a39 0))) 5 (some (a59 0))) 6 (some (a64 0))) 7 (some (a69 0)))) (njF_g F) (by omega) (by omega) rfl rfl rfl rfl (by decide) (by omega) (by omega) dX3_init_98 ?_
  refine nj_iinc (pc := 99) (lv' := [_, _, _, _]) (njF_g F) dX3_init_99 (by decide) rfl rfl ?_
  refine nj_goto (pc := 102) (njF_g F) 76 dX3_init_102 (by decide) ?_
  refine nj_iload_n (pc := 76) F dX3_init_76 rfl ?_
  refine nj_iconst (pc := 77) F dX3_init_77 ?_
  refine nj_icmp_ge (pc := 78) (njF_g F) (by decide) (by decide) 105 dX3_init_78 (by decide) (fun h => absurd h (by decide)) (fun _ => ?_)
  refine nj_aload_n (pc := 81) F dX3_init_81 rfl ?_
  refine nj_getR (pc := 82) (k := 0) (ci := 3) (fs := [.ref q1, .ref q2, .ref q3, .null, .null, .null, .int 0]) (njF_g F) hinX3 (by omega) rfl rfl 1 (by decide) f17 rfl rfl dX3_init_82 ?_
  refine nj_iload_n (pc := 85) F dX3_init_85 rfl ?_
  refine nj_iconst (pc := 86) F dX3_init_86 ?_
  refine nj_imul (pc := 87) (njF_g F) dX3_init_87 ?_
  refine nj_iload_n (pc := 88) F dX3_init_88 rfl ?_
  refine nj_iadd (pc := 89) (njF_g F) dX3_init_89 ?_
  refine nj_new (pc := 90) (ci := 0) (fs := [.null, .null, .null, .null, .null, .int 0, .int 0, .int 0, .int 0, .int 0, .int 0, .int 0]) (njF_g F) hinX0 tyX0 tyX0_ok (by decide +kernel) (by decide +kernel) (by decide +kernel) rfl hfsX0 (Nat.le_of_ble_eq_true rfl) (Nat.le_of_ble_eq_true rfl) dX3_init_90 (fun q79 => ?_)
  refine nj_dup (pc := 93) (njF_g F) dX3_init_93 rfl ?_
  refine nj_aload_n (pc := 94) F dX3_init_94 rfl ?_
  refine nj_callI (pc := 95) (N := 79) (n := 1) (nn := 5) (mc := 4) (ms := 340) (h0 := q79) (As := [.ref (a44 0)]) (njF_g F) (fun sz => kX0_init q79 sz (a44 0)) rfl rfl gX3_init_X0_init rfl (by decide +kernel) (by decide +kernel) (by decide +kernel) rfl (by decide +kernel) rfl rfl ⟨Nat.le_of_ble_eq_true rfl, Nat.le_of_ble_eq_true rfl⟩ ⟨Nat.le_of_ble_eq_true rfl, Nat.le_of_ble_eq_true rfl⟩ rfl rfl (Nat.le_of_ble_eq_true rfl) dX3_init_95 (fun a79 ha79 => ?_)
  subst ha79
  refine nj_astq (pc := 98) (k := 2) (kv := 79) (i := 9) (n := 10) (t0 := 4) (cX := cC) (ci := 0) (f := (va_up (va_up (va_up (va_up (va_up (va_up (va_up (va_up (va_up (fun _ => none) 0 (some (a19 0))) 1 (some (a24 0))) 2 (some (a29 0))) 3 (some (a34 0))) 4 (some (a39 0))) 5 (some (a59 0))) 6 (some (a64 0))) 7 (some (a69 0))) 8 (some (a74 0)))) (njF_g F) (by omega) (by omega) rfl rfl rfl rfl (by decide) (by omega) (by omega) dX3_init_98 ?_
  refine nj_iinc (pc := 99) (lv' := [_, _, _, _]) (njF_g F) dX3_init_99 (by decide) rfl rfl ?_
  refine nj_goto (pc := 102) (njF_g F) 76 dX3_init_102 (by decide) ?_
  refine nj_iload_n (pc := 76) F dX3_init_76 rfl ?_
  refine nj_iconst (pc := 77) F dX3_init_77 ?_
  refine nj_icmp_ge (pc := 78) (njF_g F) (by decide) (by decide) 105 dX3_init_78 (by decide) (fun _ => ?_) (fun h => absurd h (by decide))
  refine nj_iinc (pc := 105) (lv' := [_, _, _, _]) (njF_g F) dX3_init_105 (by decide) rfl rfl ?_
  refine nj_goto (pc := 108) (njF_g F) 31 dX3_init_108 (by decide) ?_
  refine nj_iload_n (pc := 31) F dX3_init_31 rfl ?_
  refine nj_iconst (pc := 32) F dX3_init_32 ?_
  refine nj_icmp_ge (pc := 33) (njF_g F) (by decide) (by decide) 111 dX3_init_33 (by decide) (fun _ => ?_) (fun h => absurd h (by decide))
  refine nj_aload_n (pc := 111) F dX3_init_111 rfl ?_
  refine nj_new (pc := 112) (ci := 1) (fs := [.null, .null]) (njF_g F) hinX1 tyX1 tyX1_ok (by decide +kernel) (by decide +kernel) (by decide +kernel) rfl hfsX1 (Nat.le_of_ble_eq_true rfl) (Nat.le_of_ble_eq_true rfl) dX3_init_112 (fun q84 => ?_)
  refine nj_dup (pc := 115) (njF_g F) dX3_init_115 rfl ?_
  refine nj_callI (pc := 116) (N := 84) (n := 0) (nn := 3) (mc := 2) (ms := 4108) (h0 := q84) (As := []) (njF_g F) (fun sz => kX1_init q84 sz) rfl rfl gX3_init_X1_init rfl (by decide +kernel) (by decide +kernel) (by decide +kernel) rfl (by decide +kernel) rfl rfl ⟨Nat.le_of_ble_eq_true rfl, Nat.le_of_ble_eq_true rfl⟩ ⟨Nat.le_of_ble_eq_true rfl, Nat.le_of_ble_eq_true rfl⟩ rfl rfl (Nat.le_of_ble_eq_true rfl) dX3_init_116 (fun a84 ha84 => ?_)
  subst ha84
  refine nj_putF (pc := 119) (k := 0) (ci := 3) (fs := [.ref q1, .ref q2, .ref q3, .null, .null, .null, .int 0]) (v := .ref (a84 0)) (ty := (.object "SharedPage$FreeOrders")) F tyX3 tyX3_ok nmX3 hinX3 (by omega) rfl rfl 3 (by decide) f33 rfl rfl rfl rfl rfl rfl (Nat.le_of_ble_eq_true rfl) dX3_init_119 ?_
  refine nj_aload_n (pc := 122) F dX3_init_122 rfl ?_
  refine nj_sipush (pc := 123) F dX3_init_123 rfl ?_
  refine nj_newI (pc := 126) F 160 (by decide +kernel) (Nat.le_of_ble_eq_true rfl) (Nat.le_of_ble_eq_true rfl) (Nat.le_of_ble_eq_true rfl) dX3_init_126 (fun q87 => ?_)
  refine nj_putF (pc := 128) (k := 0) (ci := 3) (fs := [.ref q1, .ref q2, .ref q3, .ref (a84 0), .null, .null, .int 0]) (v := .ref q87) (ty := (.array .int)) F tyX3 tyX3_ok nmX3 hinX3 (by omega) rfl rfl 4 (by decide) f37 rfl rfl rfl rfl rfl rfl (Nat.le_of_ble_eq_true rfl) dX3_init_128 ?_
  refine nj_aload_n (pc := 131) F dX3_init_131 rfl ?_
  refine nj_bipush (pc := 132) F dX3_init_132 rfl ?_
  refine nj_newI (pc := 134) F 60 (by decide +kernel) (Nat.le_of_ble_eq_true rfl) (Nat.le_of_ble_eq_true rfl) (Nat.le_of_ble_eq_true rfl) dX3_init_134 (fun q88 => ?_)
  refine nj_putF (pc := 136) (k := 0) (ci := 3) (fs := [.ref q1, .ref q2, .ref q3, .ref (a84 0), .ref q87, .null, .int 0]) (v := .ref q88) (ty := (.array .int)) F tyX3 tyX3_ok nmX3 hinX3 (by omega) rfl rfl 5 (by decide) f41 rfl rfl rfl rfl rfl rfl (Nat.le_of_ble_eq_true rfl) dX3_init_136 ?_
  refine nj_aload_n (pc := 139) F dX3_init_139 rfl ?_
  refine nj_iconst (pc := 140) F dX3_init_140 ?_
  refine nj_put (pc := 141) (k := 0) (ci := 3) (fs := [.ref q1, .ref q2, .ref q3, .ref (a84 0), .ref q87, .ref q88, .int 0]) (v := .int (iI 0)) (ty := .int) F tyX3 tyX3_ok nmX3 hinX3 (by omega) rfl rfl 6 (by decide) f44 rfl rfl rfl rfl rfl (Nat.le_of_ble_eq_true rfl) dX3_init_141 ?_
  refine nj_eqA2 (k := 1) (n := 2) (cX := cT) (f := (va_up (va_up (fun _ => none) 0 (some (a4 0))) 1 (some (a44 0)))) (gf := fun ad j => some (ad (pgI (9 + 10 * (j : Int).toNat)))) (by omega) rfl (fun j hj => by
    match j, hj with
    | 0, _ => rfl
    | 1, _ => rfl
    | j + 2, h => omega) ?_
  refine nj_eqA2 (k := 2) (n := 10) (cX := cC) (f := (va_up (va_up (va_up (va_up (va_up (va_up (va_up (va_up (va_up (va_up (fun _ => none) 0 (some (a19 0))) 1 (some (a24 0))) 2 (some (a29 0))) 3 (some (a34 0))) 4 (some (a39 0))) 5 (some (a59 0))) 6 (some (a64 0))) 7 (some (a69 0))) 8 (some (a74 0))) 9 (some (a79 0)))) (gf := fun ad j => some (ad (pgI (29 + 5 * (j : Int).toNat)))) (by omega) rfl (fun j hj => by
    match j, hj with
    | 0, _ => rfl
    | 1, _ => rfl
    | 2, _ => rfl
    | 3, _ => rfl
    | 4, _ => rfl
    | 5, _ => rfl
    | 6, _ => rfl
    | 7, _ => rfl
    | 8, _ => rfl
    | 9, _ => rfl
    | j + 10, h => omega) ?_
  refine nj_eqA2 (k := 3) (n := 2) (cX := cC) (f := (va_up (va_up (fun _ => none) 0 (some (a14 0))) 1 (some (a54 0)))) (gf := fun ad j => some (ad (pgI (29 + 5 * (10 + (j : Int).toNat))))) (by omega) rfl (fun j hj => by
    match j, hj with
    | 0, _ => rfl
    | 1, _ => rfl
    | j + 2, h => omega) ?_
  refine nj_vret F hr hlk dX3_init_144 rfl rfl (fun k hk => ?_)
  match k, hk with
  | 0, _ => rfl
  | 1, _ => rfl
  | 2, _ => rfl
  | 3, _ => rfl
  | 4, _ => rfl
  | 5, _ => rfl
  | 6, _ => rfl
  | 7, _ => rfl
  | 8, _ => rfl
  | 9, _ => rfl
  | 10, _ => rfl
  | 11, _ => rfl
  | 12, _ => rfl
  | 13, _ => rfl
  | 14, _ => rfl
  | 15, _ => rfl
  | 16, _ => rfl
  | 17, _ => rfl
  | 18, _ => rfl
  | 19, _ => rfl
  | 20, _ => rfl
  | 21, _ => rfl
  | 22, _ => rfl
  | 23, _ => rfl
  | 24, _ => rfl
  | 25, _ => rfl
  | 26, _ => rfl
  | 27, _ => rfl
  | 28, _ => rfl
  | 29, _ => rfl
  | 30, _ => rfl
  | 31, _ => rfl
  | 32, _ => rfl
  | 33, _ => rfl
  | 34, _ => rfl
  | 35, _ => rfl
  | 36, _ => rfl
  | 37, _ => rfl
  | 38, _ => rfl
  | 39, _ => rfl
  | 40, _ => rfl
  | 41, _ => rfl
  | 42, _ => rfl
  | 43, _ => rfl
  | 44, _ => rfl
  | 45, _ => rfl
  | 46, _ => rfl
  | 47, _ => rfl
  | 48, _ => rfl
  | 49, _ => rfl
  | 50, _ => rfl
  | 51, _ => rfl
  | 52, _ => rfl
  | 53, _ => rfl
  | 54, _ => rfl
  | 55, _ => rfl
  | 56, _ => rfl
  | 57, _ => rfl
  | 58, _ => rfl
  | 59, _ => rfl
  | 60, _ => rfl
  | 61, _ => rfl
  | 62, _ => rfl
  | 63, _ => rfl
  | 64, _ => rfl
  | 65, _ => rfl
  | 66, _ => rfl
  | 67, _ => rfl
  | 68, _ => rfl
  | 69, _ => rfl
  | 70, _ => rfl
  | 71, _ => rfl
  | 72, _ => rfl
  | 73, _ => rfl
  | 74, _ => rfl
  | 75, _ => rfl
  | 76, _ => rfl
  | 77, _ => rfl
  | 78, _ => rfl
  | 79, _ => rfl
  | 80, _ => rfl
  | 81, _ => rfl
  | 82, _ => rfl
  | 83, _ => rfl
  | 84, _ => rfl
  | 85, _ => rfl
  | 86, _ => rfl
  | 87, _ => rfl
  | 88, _ => rfl
  | j + 89, h => omega
