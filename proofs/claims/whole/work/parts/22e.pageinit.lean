/-- the page's cells in the order in which they are made -/
def pgI (k : Nat) : Nat := if k < 4 then k else if k < 9 then 80 + k else if k < 29 then 4 + 40 * ((k - 9) / 10) + (k - 9) % 10 else if k < 79 then 19 + 40 * ((k - 29) / 25) + (k - 29) % 25 else 14 + 40 * ((k - 79) / 5) + (k - 79) % 5
def pgJ (k : Nat) : Nat := if k < 4 then k else if k < 84 then (if (k - 4) % 40 < 10 then 9 + 10 * ((k - 4) / 40) + (k - 4) % 40 else if (k - 4) % 40 < 15 then 79 + 5 * ((k - 4) / 40) + ((k - 4) % 40 - 10) else 29 + 25 * ((k - 4) / 40) + ((k - 4) % 40 - 15)) else k - 80
theorem pgIJ : ∀ k, k < 89 → pgJ (pgI k) = k ∧ pgI k < 89 := by decide
theorem pgJI : ∀ k, k < 89 → pgI (pgJ k) = k ∧ pgJ k < 89 := by decide
def cM0 : sjM := fun k z => if k < 29 then 0 else emM ((k - 29) % 5) z
def cPg (cI cZ cJ cT cC : ClassId) (ad : Nat → Nat) (k : Nat) : va_E := kC cI cZ cJ cT cC (fun j => ad (pgI j)) cM0 (fun _ _ => 0) (pgJ k)
set_option maxHeartbeats 8000000 in
set_option maxRecDepth 100000 in
theorem kX3_init {l : Launch} {D : va_G} {cI cZ cJ cT cC : ClassId} (h0 sz : Nat) : Met l yX3_init wsX3_init { frames := 2, cells := 88, slots := 10164, locals := 42 } (njA D cI cZ cJ cT cC [.ref h0] h0 (.inr (3, [.null, .null, .null, .null, .null, .null, .int 0])) sz) (njZ D 89 h0 sz (cPg cI cZ cJ cT cC)) 88 10164 (njB h0 sz) := by
  refine nj_met (cc := cX3_init) (maxL := 4) (lv := [_, _, _, _]) (by decide) rfl rfl (List.forall_mem_cons.mpr ⟨rfl, fun _ h => absurd h List.not_mem_nil⟩) (Nat.le_of_ble_eq_true rfl) rfl ?_
  intro p e s m args below meth c hsz F hr hlk
  have f11 : Cond.fieldLink RX3 11 "SharedPage" "texts" "[LSharedPage$Text;" ∈ wsX3_init := by decide +kernel
  have f17 : Cond.fieldLink RX3 17 "SharedPage" "copies" "[LSharedPage$Copy;" ∈ wsX3_init := by decide +kernel
  have f21 : Cond.fieldLink RX3 21 "SharedPage" "spares" "[LSharedPage$Copy;" ∈ wsX3_init := by decide +kernel
  have f33 : Cond.fieldLink RX3 33 "SharedPage" "freeOrders" "LSharedPage$FreeOrders;" ∈ wsX3_init := by decide +kernel
  have f37 : Cond.fieldLink RX3 37 "SharedPage" "drawing" "[I" ∈ wsX3_init := by decide +kernel
  have f41 : Cond.fieldLink RX3 41 "SharedPage" "written" "[I" ∈ wsX3_init := by decide +kernel
  have f44 : Cond.fieldLink RX3 44 "SharedPage" "writtenLength" "I" ∈ wsX3_init := by decide +kernel
  have hinX0 : ∀ w ∈ u_ws RX0 TX0 12, w ∈ wsX3_init := fun w h => List.mem_cons_of_mem _ (List.mem_append_left _ (List.mem_append_right _ h))
  have hfsX0 : ∀ j, j < 12 → defaultValue (tyX0 j) = vp_V [.null, .null, .null, .null, .null, .int 0, .int 0, .int 0, .int 0, .int 0, .int 0, .int 0] j := fun j hj => by
    match j, hj with
    | 0, _ => rfl
    | 1, _ => rfl
    | 2, _ => rfl
    | 3, _ => rfl
    | 4, _ => rfl
    | 5, _ => rfl
    | 6, _ => rfl
    | 7, _ => rfl
    | 8, _ => rfl
    | 9, _ => rfl
    | 10, _ => rfl
    | 11, _ => rfl
    | j + 12, h => omega
  have hinX1 : ∀ w ∈ u_ws RX1 TX1 2, w ∈ wsX3_init := fun w h => List.mem_cons_of_mem _ (List.mem_append_right _ h)
  have hfsX1 : ∀ j, j < 2 → defaultValue (tyX1 j) = vp_V [.null, .null] j := fun j hj => by
    match j, hj with
    | 0, _ => rfl
    | 1, _ => rfl
    | j + 2, h => omega
  have hinX2 : ∀ w ∈ u_ws RX2 TX2 13, w ∈ wsX3_init := fun w h => List.mem_cons_of_mem _ (List.mem_append_left _ (List.mem_append_left _ (List.mem_append_right _ h)))
  have hfsX2 : ∀ j, j < 13 → defaultValue (tyX2 j) = vp_V [.int 0, .null, .null, .null, .null, .null, .null, .null, .null, .null, .int 0, .int 0, .int 0] j := fun j hj => by
    match j, hj with
    | 0, _ => rfl
    | 1, _ => rfl
    | 2, _ => rfl
    | 3, _ => rfl
    | 4, _ => rfl
    | 5, _ => rfl
    | 6, _ => rfl
    | 7, _ => rfl
    | 8, _ => rfl
    | 9, _ => rfl
    | 10, _ => rfl
    | 11, _ => rfl
    | 12, _ => rfl
    | j + 13, h => omega
  have hinX3 : ∀ w ∈ u_ws RX3 TX3 7, w ∈ wsX3_init := fun w h => List.mem_cons_of_mem _ (List.mem_append_left _ (List.mem_append_left _ (List.mem_append_left _ (List.mem_append_right _ h))))
  refine nj_aload_n (pc := 0) F dX3_init_0 rfl ?_
  refine nj_objI (pc := 1) F (by decide +kernel) (by decide +kernel) (List.mem_cons_of_mem _ (by decide +kernel)) (Nat.le_of_ble_eq_true rfl) (Nat.le_of_ble_eq_true rfl) dX3_init_1 ?_
  refine nj_aload_n (pc := 4) F dX3_init_4 rfl ?_
  refine nj_iconst (pc := 5) F dX3_init_5 ?_
  refine nj_newq (pc := 6) (t0 := 3) (cX := cT) (njF_g F) 2 rfl (by decide +kernel) F.2.2.2.1.1 (Nat.le_of_ble_eq_true rfl) (Nat.le_of_ble_eq_true rfl) (Nat.le_of_ble_eq_true rfl) dX3_init_6 (fun q1 => ?_)
  refine nj_putF (pc := 9) (k := 0) (ci := 3) (fs := [.null, .null, .null, .null, .null, .null, .int 0]) (v := .ref q1) (ty := (.array (.object "SharedPage$Text"))) F tyX3 tyX3_ok nmX3 hinX3 (by omega) rfl rfl 0 (by decide) f11 rfl rfl rfl rfl rfl rfl (Nat.le_of_ble_eq_true rfl) dX3_init_9 ?_
  refine nj_aload_n (pc := 12) F dX3_init_12 rfl ?_
  refine nj_bipush (pc := 13) F dX3_init_13 rfl ?_
  refine nj_newq (pc := 15) (t0 := 4) (cX := cC) (njF_g F) 10 rfl (by decide +kernel) F.2.2.2.1.2 (Nat.le_of_ble_eq_true rfl) (Nat.le_of_ble_eq_true rfl) (Nat.le_of_ble_eq_true rfl) dX3_init_15 (fun q2 => ?_)
  refine nj_putF (pc := 18) (k := 0) (ci := 3) (fs := [.ref q1, .null, .null, .null, .null, .null, .int 0]) (v := .ref q2) (ty := (.array (.object "SharedPage$Copy"))) F tyX3 tyX3_ok nmX3 hinX3 (by omega) rfl rfl 1 (by decide) f17 rfl rfl rfl rfl rfl rfl (Nat.le_of_ble_eq_true rfl) dX3_init_18 ?_
  refine nj_aload_n (pc := 21) F dX3_init_21 rfl ?_
  refine nj_iconst (pc := 22) F dX3_init_22 ?_
  refine nj_newq (pc := 23) (t0 := 4) (cX := cC) (njF_g F) 2 rfl (by decide +kernel) F.2.2.2.1.2 (Nat.le_of_ble_eq_true rfl) (Nat.le_of_ble_eq_true rfl) (Nat.le_of_ble_eq_true rfl) dX3_init_23 (fun q3 => ?_)
  refine nj_putF (pc := 26) (k := 0) (ci := 3) (fs := [.ref q1, .ref q2, .null, .null, .null, .null, .int 0]) (v := .ref q3) (ty := (.array (.object "SharedPage$Copy"))) F tyX3 tyX3_ok nmX3 hinX3 (by omega) rfl rfl 2 (by decide) f21 rfl rfl rfl rfl rfl rfl (Nat.le_of_ble_eq_true rfl) dX3_init_26 ?_
  refine nj_iconst (pc := 29) F dX3_init_29 ?_
  refine nj_istore_n (pc := 30) (lv' := [_, _, _, _]) (njF_g F) dX3_init_30 (by decide) rfl ?_
  refine nj_iload_n (pc := 31) F dX3_init_31 rfl ?_
  refine nj_iconst (pc := 32) F dX3_init_32 ?_
  refine nj_icmp_ge (pc := 33) (njF_g F) (by decide) (by decide) 111 dX3_init_33 (by decide) (fun h => absurd h (by decide)) (fun _ => ?_)
  refine nj_new (pc := 36) (ci := 2) (fs := [.int 0, .null, .null, .null, .null, .null, .null, .null, .null, .null, .int 0, .int 0, .int 0]) (njF_g F) hinX2 tyX2 tyX2_ok (by decide +kernel) (by decide +kernel) (by decide +kernel) rfl hfsX2 (Nat.le_of_ble_eq_true rfl) (Nat.le_of_ble_eq_true rfl) dX3_init_36 (fun q4 => ?_)
  refine nj_dup (pc := 39) (njF_g F) dX3_init_39 rfl ?_
  refine nj_iload_n (pc := 40) F dX3_init_40 rfl ?_
  refine nj_if_ne (pc := 41) (njF_g F) (by decide) 48 dX3_init_41 (by decide) (fun h => absurd h (by decide)) (fun _ => ?_)
  refine nj_iconst (pc := 44) F dX3_init_44 ?_
  refine nj_goto (pc := 45) (njF_g F) 49 dX3_init_45 (by decide) ?_
  refine nj_callI (pc := 49) (N := 4) (n := 1) (nn := 10) (mc := 9) (ms := 785) (h0 := q4) (As := [.int (iI 1)]) (njF_g F) (fun sz => kX2_init q4 sz (iI 1) rfl rfl) rfl rfl gX3_init_X2_init rfl (by decide +kernel) (by decide +kernel) (by decide +kernel) rfl (by decide +kernel) rfl rfl ⟨Nat.le_of_ble_eq_true rfl, Nat.le_of_ble_eq_true rfl⟩ ⟨Nat.le_of_ble_eq_true rfl, Nat.le_of_ble_eq_true rfl⟩ rfl rfl (Nat.le_of_ble_eq_true rfl) dX3_init_49 (fun a4 ha4 => ?_)
  subst ha4
  refine nj_astore_n (pc := 52) (lv' := [_, _, _, _]) (njF_g F) dX3_init_52 (by decide) rfl ?_
  refine nj_aload_n (pc := 53) F dX3_init_53 rfl ?_
  refine nj_getR (pc := 54) (k := 0) (ci := 3) (fs := [.ref q1, .ref q2, .ref q3, .null, .null, .null, .int 0]) (njF_g F) hinX3 (by omega) rfl rfl 0 (by decide) f11 rfl rfl rfl dX3_init_54 ?_
  all_goals sorry
