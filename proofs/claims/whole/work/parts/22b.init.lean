theorem nj_newI {p : Program} {l : Launch} {e : Env} {R : Room} {s : State} {m : MethodId} {args : Array Value} {below : List Frame} {meth : Method} {c : Code} {cc : ByteArray} {nL : Nat} {Ts : List Cond} {own : String} {D : va_G} {cI cZ cJ cT cC : ClassId} {A : Nat → Prop} {H0 : Heap} {Q : State → Prop} {pc N : Nat} {ad : Nat → Nat} {ct : Nat → va_E} {cells slots : Nat} {lv : List (Option Value)} {st : List Value} (F : njF p s m args meth c cc nL Ts own D cI cZ cJ cT cC A H0) (n : Nat) (harr : Cond.arrayClass .int ∈ Ts) (hn : n ≤ 5000) (hcells : cells + 1 ≤ R.cells) (hslots : slots + n ≤ R.slots) (hdg : decode cc pc = .ok (.newarray .int, 2)) (k : ∀ q : Nat, nj p l e R s m args below meth c D A H0 nL Q (pc + 2) (N + 1) (adU ad N q) (ctU ct N (.inl (cI, (n, .inl (fun _ => 0))))) (cells + 1) (slots + n) lv (.ref q :: st)) : nj p l e R s m args below meth c D A H0 nL Q pc N ad ct cells slots lv (.int (iI (n : Int)) :: st) := by
  have h := nj_newa (l := l) (e := e) (R := R) (below := below) (Q := Q) (N := N) (ad := ad) (ct := ct) (cells := cells) (slots := slots) (lv := lv) (st := st) (atype := .int) (ty := .int) (t0 := 0) (cX := cI) (f0 := (n, .inl (fun _ => 0))) (n := (n : Int)) F rfl rfl (fun _ h => h) harr (fun cA => by rw [Int.toNat_natCast]; exact vp_cell_i cA n _) (by omega) (by decide) hcells (by rw [Int.toNat_natCast]; exact hslots) hdg
  rw [Int.toNat_natCast] at h
  exact h k
theorem nj_newZ {p : Program} {l : Launch} {e : Env} {R : Room} {s : State} {m : MethodId} {args : Array Value} {below : List Frame} {meth : Method} {c : Code} {cc : ByteArray} {nL : Nat} {Ts : List Cond} {own : String} {D : va_G} {cI cZ cJ cT cC : ClassId} {A : Nat → Prop} {H0 : Heap} {Q : State → Prop} {pc N : Nat} {ad : Nat → Nat} {ct : Nat → va_E} {cells slots : Nat} {lv : List (Option Value)} {st : List Value} (F : njF p s m args meth c cc nL Ts own D cI cZ cJ cT cC A H0) (n : Nat) (harr : Cond.arrayClass .boolean ∈ Ts) (hn : n ≤ 5000) (hcells : cells + 1 ≤ R.cells) (hslots : slots + n ≤ R.slots) (hdg : decode cc pc = .ok (.newarray .boolean, 2)) (k : ∀ q : Nat, nj p l e R s m args below meth c D A H0 nL Q (pc + 2) (N + 1) (adU ad N q) (ctU ct N (.inl (cZ, (n, .inl (fun _ => 0))))) (cells + 1) (slots + n) lv (.ref q :: st)) : nj p l e R s m args below meth c D A H0 nL Q pc N ad ct cells slots lv (.int (iI (n : Int)) :: st) := by
  have h := nj_newa (l := l) (e := e) (R := R) (below := below) (Q := Q) (N := N) (ad := ad) (ct := ct) (cells := cells) (slots := slots) (lv := lv) (st := st) (atype := .boolean) (ty := .boolean) (t0 := 1) (cX := cZ) (f0 := (n, .inl (fun _ => 0))) (n := (n : Int)) F rfl rfl (fun _ h => h) harr (fun cA => by rw [Int.toNat_natCast]; exact vp_cell_i cA n _) (by omega) (by decide) hcells (by rw [Int.toNat_natCast]; exact hslots) hdg
  rw [Int.toNat_natCast] at h
  exact h k
theorem nj_newJ {p : Program} {l : Launch} {e : Env} {R : Room} {s : State} {m : MethodId} {args : Array Value} {below : List Frame} {meth : Method} {c : Code} {cc : ByteArray} {nL : Nat} {Ts : List Cond} {own : String} {D : va_G} {cI cZ cJ cT cC : ClassId} {A : Nat → Prop} {H0 : Heap} {Q : State → Prop} {pc N : Nat} {ad : Nat → Nat} {ct : Nat → va_E} {cells slots : Nat} {lv : List (Option Value)} {st : List Value} (F : njF p s m args meth c cc nL Ts own D cI cZ cJ cT cC A H0) (n : Nat) (harr : Cond.arrayClass .long ∈ Ts) (hn : n ≤ 5000) (hcells : cells + 1 ≤ R.cells) (hslots : slots + n ≤ R.slots) (hdg : decode cc pc = .ok (.newarray .long, 2)) (k : ∀ q : Nat, nj p l e R s m args below meth c D A H0 nL Q (pc + 2) (N + 1) (adU ad N q) (ctU ct N (.inl (cJ, (n, .inr (.inl (fun _ => 0)))))) (cells + 1) (slots + n) lv (.ref q :: st)) : nj p l e R s m args below meth c D A H0 nL Q pc N ad ct cells slots lv (.int (iI (n : Int)) :: st) := by
  have h := nj_newa (l := l) (e := e) (R := R) (below := below) (Q := Q) (N := N) (ad := ad) (ct := ct) (cells := cells) (slots := slots) (lv := lv) (st := st) (atype := .long) (ty := .long) (t0 := 2) (cX := cJ) (f0 := (n, .inr (.inl (fun _ => 0)))) (n := (n : Int)) F rfl rfl (fun _ h => h) harr (fun cA => by rw [Int.toNat_natCast]; exact vp_cell_l cA n _) (by omega) (by decide) hcells (by rw [Int.toNat_natCast]; exact hslots) hdg
  rw [Int.toNat_natCast] at h
  exact h k
/-- what a new FreeOrders, a new Text, a new SharedPageModel hold -/
def cFr (cI cJ : ClassId) (ad : Nat → Nat) (k : Nat) : va_E := if k = 0 then .inr (1, [.ref (ad 1), .ref (ad 2)]) else if k = 1 then .inl (cJ, 4096, .inr (.inl (fun _ => 0))) else .inl (cI, 12, .inl (fun _ => 0))
def cTx (cI : ClassId) (w : Int32) (ad : Nat → Nat) (k : Nat) : va_E := if k = 0 then .inr (2, [.int w, .ref (ad 1), .ref (ad 2), .ref (ad 3), .ref (ad 4), .ref (ad 5), .ref (ad 6), .ref (ad 7), .ref (ad 8), .ref (ad 9), .int 0, .int 0, .int 0]) else if k < 6 then .inl (cI, 60, .inl (fun _ => 0)) else if k < 9 then .inl (cI, 160, .inl (fun _ => 0)) else .inl (cI, 5, .inl (fun _ => 0))
set_option maxHeartbeats 4000000 in
set_option maxRecDepth 100000 in
theorem kX1_init {l : Launch} {D : va_G} {cI cZ cJ cT cC : ClassId} (h0 sz : Nat)  : Met l yX1_init wsX1_init { frames := 1, cells := 2, slots := 4108, locals := 20 } (njA D cI cZ cJ cT cC [.ref h0] h0 (.inr (1, [.null, .null])) sz) (njZ D 3 h0 sz (cFr cI cJ)) 2 4108 (njB h0 sz) := by
  refine nj_met (cc := cX1_init) (maxL := 1) (lv := [_]) (by decide) rfl rfl (List.forall_mem_cons.mpr ⟨rfl, fun _ h => absurd h List.not_mem_nil⟩) (Nat.le_of_ble_eq_true rfl) rfl ?_
  intro p e s m args below meth c hsz F hr hlk
  have f9 : Cond.fieldLink RX1 9 "SharedPage$FreeOrders" "ways" "[J" ∈ wsX1_init := by decide +kernel
  have f15 : Cond.fieldLink RX1 15 "SharedPage$FreeOrders" "followers" "[I" ∈ wsX1_init := by decide +kernel
  have hin : ∀ w ∈ u_ws RX1 TX1 2, w ∈ wsX1_init := fun w h => List.mem_cons_of_mem _ (List.mem_append_right _ h)
  refine nj_aload_n (pc := 0) F dX1_init_0 rfl ?_
  refine nj_objI (pc := 1) F (by decide +kernel) (by decide +kernel) (List.mem_cons_of_mem _ (by decide +kernel)) (Nat.le_of_ble_eq_true rfl) (Nat.le_of_ble_eq_true rfl) dX1_init_1 ?_
  refine nj_aload_n (pc := 4) F dX1_init_4 rfl ?_
  refine nj_sipush (pc := 5) F dX1_init_5 rfl ?_
  refine nj_newJ (pc := 8) F 4096 (by decide +kernel) (Nat.le_of_ble_eq_true rfl) (Nat.le_of_ble_eq_true rfl) (Nat.le_of_ble_eq_true rfl) dX1_init_8 (fun q1 => ?_)
  refine nj_putF (pc := 10) (k := 0) (ci := 1) (fs := [.null, .null]) (v := .ref q1) (ty := (.array .long)) F tyX1 tyX1_ok nmX1 hin (by omega) rfl rfl 0 (by decide) f9 rfl rfl rfl rfl rfl rfl (Nat.le_of_ble_eq_true rfl) dX1_init_10 ?_
  refine nj_aload_n (pc := 13) F dX1_init_13 rfl ?_
  refine nj_bipush (pc := 14) F dX1_init_14 rfl ?_
  refine nj_newI (pc := 16) F 12 (by decide +kernel) (Nat.le_of_ble_eq_true rfl) (Nat.le_of_ble_eq_true rfl) (Nat.le_of_ble_eq_true rfl) dX1_init_16 (fun q2 => ?_)
  refine nj_putF (pc := 18) (k := 0) (ci := 1) (fs := [.ref q1, .null]) (v := .ref q2) (ty := (.array .int)) F tyX1 tyX1_ok nmX1 hin (by omega) rfl rfl 1 (by decide) f15 rfl rfl rfl rfl rfl rfl (Nat.le_of_ble_eq_true rfl) dX1_init_18 ?_
  refine nj_vret F hr hlk dX1_init_21 rfl rfl (fun k hk => ?_)
  match k, hk with
  | 0, _ => rfl
  | 1, _ => rfl
  | 2, _ => rfl
  | j + 3, h => omega
set_option maxHeartbeats 4000000 in
set_option maxRecDepth 100000 in
theorem kX2_init {l : Launch} {D : va_G} {cI cZ cJ cT cC : ClassId} (h0 sz : Nat) (w : Int32) (hw : vp_nar .boolean w = w) (hfit : fits .boolean (.int w) = true) : Met l yX2_init wsX2_init { frames := 1, cells := 9, slots := 785, locals := 20 } (njA D cI cZ cJ cT cC [.ref h0, .int w] h0 (.inr (2, [.int 0, .null, .null, .null, .null, .null, .null, .null, .null, .null, .int 0, .int 0, .int 0])) sz) (njZ D 10 h0 sz (cTx cI w)) 9 785 (njB h0 sz) := by
  refine nj_met (cc := cX2_init) (maxL := 2) (lv := [_, _]) (by decide) rfl rfl (List.forall_mem_cons.mpr ⟨rfl, List.forall_mem_cons.mpr ⟨rfl, fun _ h => absurd h List.not_mem_nil⟩⟩) (Nat.le_of_ble_eq_true rfl) rfl ?_
  intro p e s m args below meth c hsz F hr hlk
  have hnar : narrow .boolean (.int w) = .int w := by
    have h3 : narrow .boolean (.int w) = .int (vp_nar .boolean w) := by first | rfl | simp [vp_nar, narrow]
    rw [h3, hw]
  have f9 : Cond.fieldLink RX2 9 "SharedPage$Text" "woot" "Z" ∈ wsX2_init := by decide +kernel
  have f15 : Cond.fieldLink RX2 15 "SharedPage$Text" "sites" "[I" ∈ wsX2_init := by decide +kernel
  have f19 : Cond.fieldLink RX2 19 "SharedPage$Text" "marks" "[I" ∈ wsX2_init := by decide +kernel
  have f22 : Cond.fieldLink RX2 22 "SharedPage$Text" "letters" "[I" ∈ wsX2_init := by decide +kernel
  have f25 : Cond.fieldLink RX2 25 "SharedPage$Text" "lefts" "[I" ∈ wsX2_init := by decide +kernel
  have f28 : Cond.fieldLink RX2 28 "SharedPage$Text" "rights" "[I" ∈ wsX2_init := by decide +kernel
  have f31 : Cond.fieldLink RX2 31 "SharedPage$Text" "kinds" "[I" ∈ wsX2_init := by decide +kernel
  have f34 : Cond.fieldLink RX2 34 "SharedPage$Text" "makers" "[I" ∈ wsX2_init := by decide +kernel
  have f37 : Cond.fieldLink RX2 37 "SharedPage$Text" "subjects" "[I" ∈ wsX2_init := by decide +kernel
  have f40 : Cond.fieldLink RX2 40 "SharedPage$Text" "madeBy" "[I" ∈ wsX2_init := by decide +kernel
  have f43 : Cond.fieldLink RX2 43 "SharedPage$Text" "characters" "I" ∈ wsX2_init := by decide +kernel
  have f47 : Cond.fieldLink RX2 47 "SharedPage$Text" "messages" "I" ∈ wsX2_init := by decide +kernel
  have f50 : Cond.fieldLink RX2 50 "SharedPage$Text" "erases" "I" ∈ wsX2_init := by decide +kernel
  have hin : ∀ w ∈ u_ws RX2 TX2 13, w ∈ wsX2_init := fun w h => List.mem_cons_of_mem _ (List.mem_append_right _ h)
  refine nj_aload_n (pc := 0) F dX2_init_0 rfl ?_
  refine nj_objI (pc := 1) F (by decide +kernel) (by decide +kernel) (List.mem_cons_of_mem _ (by decide +kernel)) (Nat.le_of_ble_eq_true rfl) (Nat.le_of_ble_eq_true rfl) dX2_init_1 ?_
  refine nj_aload_n (pc := 4) F dX2_init_4 rfl ?_
  refine nj_iload_n (pc := 5) F dX2_init_5 rfl ?_
  refine nj_putF (pc := 6) (k := 0) (ci := 2) (fs := [.int 0, .null, .null, .null, .null, .null, .null, .null, .null, .null, .int 0, .int 0, .int 0]) (v := .int w) (ty := .boolean) F tyX2 tyX2_ok nmX2 hin (by omega) rfl rfl 0 (by decide) f9 rfl rfl rfl rfl hnar hfit (Nat.le_of_ble_eq_true rfl) dX2_init_6 ?_
  refine nj_aload_n (pc := 9) F dX2_init_9 rfl ?_
  refine nj_bipush (pc := 10) F dX2_init_10 rfl ?_
  refine nj_newI (pc := 12) F 60 (by decide +kernel) (Nat.le_of_ble_eq_true rfl) (Nat.le_of_ble_eq_true rfl) (Nat.le_of_ble_eq_true rfl) dX2_init_12 (fun q1 => ?_)
  refine nj_putF (pc := 14) (k := 0) (ci := 2) (fs := [.int w, .null, .null, .null, .null, .null, .null, .null, .null, .null, .int 0, .int 0, .int 0]) (v := .ref q1) (ty := (.array .int)) F tyX2 tyX2_ok nmX2 hin (by omega) rfl rfl 1 (by decide) f15 rfl rfl rfl rfl rfl rfl (Nat.le_of_ble_eq_true rfl) dX2_init_14 ?_
  refine nj_aload_n (pc := 17) F dX2_init_17 rfl ?_
  refine nj_bipush (pc := 18) F dX2_init_18 rfl ?_
  refine nj_newI (pc := 20) F 60 (by decide +kernel) (Nat.le_of_ble_eq_true rfl) (Nat.le_of_ble_eq_true rfl) (Nat.le_of_ble_eq_true rfl) dX2_init_20 (fun q2 => ?_)
  refine nj_putF (pc := 22) (k := 0) (ci := 2) (fs := [.int w, .ref q1, .null, .null, .null, .null, .null, .null, .null, .null, .int 0, .int 0, .int 0]) (v := .ref q2) (ty := (.array .int)) F tyX2 tyX2_ok nmX2 hin (by omega) rfl rfl 2 (by decide) f19 rfl rfl rfl rfl rfl rfl (Nat.le_of_ble_eq_true rfl) dX2_init_22 ?_
  refine nj_aload_n (pc := 25) F dX2_init_25 rfl ?_
  refine nj_bipush (pc := 26) F dX2_init_26 rfl ?_
  refine nj_newI (pc := 28) F 60 (by decide +kernel) (Nat.le_of_ble_eq_true rfl) (Nat.le_of_ble_eq_true rfl) (Nat.le_of_ble_eq_true rfl) dX2_init_28 (fun q3 => ?_)
  refine nj_putF (pc := 30) (k := 0) (ci := 2) (fs := [.int w, .ref q1, .ref q2, .null, .null, .null, .null, .null, .null, .null, .int 0, .int 0, .int 0]) (v := .ref q3) (ty := (.array .int)) F tyX2 tyX2_ok nmX2 hin (by omega) rfl rfl 3 (by decide) f22 rfl rfl rfl rfl rfl rfl (Nat.le_of_ble_eq_true rfl) dX2_init_30 ?_
  refine nj_aload_n (pc := 33) F dX2_init_33 rfl ?_
  refine nj_bipush (pc := 34) F dX2_init_34 rfl ?_
  refine nj_newI (pc := 36) F 60 (by decide +kernel) (Nat.le_of_ble_eq_true rfl) (Nat.le_of_ble_eq_true rfl) (Nat.le_of_ble_eq_true rfl) dX2_init_36 (fun q4 => ?_)
  refine nj_putF (pc := 38) (k := 0) (ci := 2) (fs := [.int w, .ref q1, .ref q2, .ref q3, .null, .null, .null, .null, .null, .null, .int 0, .int 0, .int 0]) (v := .ref q4) (ty := (.array .int)) F tyX2 tyX2_ok nmX2 hin (by omega) rfl rfl 4 (by decide) f25 rfl rfl rfl rfl rfl rfl (Nat.le_of_ble_eq_true rfl) dX2_init_38 ?_
  refine nj_aload_n (pc := 41) F dX2_init_41 rfl ?_
  refine nj_bipush (pc := 42) F dX2_init_42 rfl ?_
  refine nj_newI (pc := 44) F 60 (by decide +kernel) (Nat.le_of_ble_eq_true rfl) (Nat.le_of_ble_eq_true rfl) (Nat.le_of_ble_eq_true rfl) dX2_init_44 (fun q5 => ?_)
  refine nj_putF (pc := 46) (k := 0) (ci := 2) (fs := [.int w, .ref q1, .ref q2, .ref q3, .ref q4, .null, .null, .null, .null, .null, .int 0, .int 0, .int 0]) (v := .ref q5) (ty := (.array .int)) F tyX2 tyX2_ok nmX2 hin (by omega) rfl rfl 5 (by decide) f28 rfl rfl rfl rfl rfl rfl (Nat.le_of_ble_eq_true rfl) dX2_init_46 ?_
  refine nj_aload_n (pc := 49) F dX2_init_49 rfl ?_
  refine nj_sipush (pc := 50) F dX2_init_50 rfl ?_
  refine nj_newI (pc := 53) F 160 (by decide +kernel) (Nat.le_of_ble_eq_true rfl) (Nat.le_of_ble_eq_true rfl) (Nat.le_of_ble_eq_true rfl) dX2_init_53 (fun q6 => ?_)
  refine nj_putF (pc := 55) (k := 0) (ci := 2) (fs := [.int w, .ref q1, .ref q2, .ref q3, .ref q4, .ref q5, .null, .null, .null, .null, .int 0, .int 0, .int 0]) (v := .ref q6) (ty := (.array .int)) F tyX2 tyX2_ok nmX2 hin (by omega) rfl rfl 6 (by decide) f31 rfl rfl rfl rfl rfl rfl (Nat.le_of_ble_eq_true rfl) dX2_init_55 ?_
  refine nj_aload_n (pc := 58) F dX2_init_58 rfl ?_
  refine nj_sipush (pc := 59) F dX2_init_59 rfl ?_
  refine nj_newI (pc := 62) F 160 (by decide +kernel) (Nat.le_of_ble_eq_true rfl) (Nat.le_of_ble_eq_true rfl) (Nat.le_of_ble_eq_true rfl) dX2_init_62 (fun q7 => ?_)
  refine nj_putF (pc := 64) (k := 0) (ci := 2) (fs := [.int w, .ref q1, .ref q2, .ref q3, .ref q4, .ref q5, .ref q6, .null, .null, .null, .int 0, .int 0, .int 0]) (v := .ref q7) (ty := (.array .int)) F tyX2 tyX2_ok nmX2 hin (by omega) rfl rfl 7 (by decide) f34 rfl rfl rfl rfl rfl rfl (Nat.le_of_ble_eq_true rfl) dX2_init_64 ?_
  refine nj_aload_n (pc := 67) F dX2_init_67 rfl ?_
  refine nj_sipush (pc := 68) F dX2_init_68 rfl ?_
  refine nj_newI (pc := 71) F 160 (by decide +kernel) (Nat.le_of_ble_eq_true rfl) (Nat.le_of_ble_eq_true rfl) (Nat.le_of_ble_eq_true rfl) dX2_init_71 (fun q8 => ?_)
  refine nj_putF (pc := 73) (k := 0) (ci := 2) (fs := [.int w, .ref q1, .ref q2, .ref q3, .ref q4, .ref q5, .ref q6, .ref q7, .null, .null, .int 0, .int 0, .int 0]) (v := .ref q8) (ty := (.array .int)) F tyX2 tyX2_ok nmX2 hin (by omega) rfl rfl 8 (by decide) f37 rfl rfl rfl rfl rfl rfl (Nat.le_of_ble_eq_true rfl) dX2_init_73 ?_
  refine nj_aload_n (pc := 76) F dX2_init_76 rfl ?_
  refine nj_iconst (pc := 77) F dX2_init_77 ?_
  refine nj_newI (pc := 78) F 5 (by decide +kernel) (Nat.le_of_ble_eq_true rfl) (Nat.le_of_ble_eq_true rfl) (Nat.le_of_ble_eq_true rfl) dX2_init_78 (fun q9 => ?_)
  refine nj_putF (pc := 80) (k := 0) (ci := 2) (fs := [.int w, .ref q1, .ref q2, .ref q3, .ref q4, .ref q5, .ref q6, .ref q7, .ref q8, .null, .int 0, .int 0, .int 0]) (v := .ref q9) (ty := (.array .int)) F tyX2 tyX2_ok nmX2 hin (by omega) rfl rfl 9 (by decide) f40 rfl rfl rfl rfl rfl rfl (Nat.le_of_ble_eq_true rfl) dX2_init_80 ?_
  refine nj_aload_n (pc := 83) F dX2_init_83 rfl ?_
  refine nj_iconst (pc := 84) F dX2_init_84 ?_
  refine nj_put (pc := 85) (k := 0) (ci := 2) (fs := [.int w, .ref q1, .ref q2, .ref q3, .ref q4, .ref q5, .ref q6, .ref q7, .ref q8, .ref q9, .int 0, .int 0, .int 0]) (v := .int (iI 0)) (ty := .int) F tyX2 tyX2_ok nmX2 hin (by omega) rfl rfl 10 (by decide) f43 rfl rfl rfl rfl rfl (Nat.le_of_ble_eq_true rfl) dX2_init_85 ?_
  refine nj_aload_n (pc := 88) F dX2_init_88 rfl ?_
  refine nj_iconst (pc := 89) F dX2_init_89 ?_
  refine nj_put (pc := 90) (k := 0) (ci := 2) (fs := [.int w, .ref q1, .ref q2, .ref q3, .ref q4, .ref q5, .ref q6, .ref q7, .ref q8, .ref q9, .int (iI 0), .int 0, .int 0]) (v := .int (iI 0)) (ty := .int) F tyX2 tyX2_ok nmX2 hin (by omega) rfl rfl 11 (by decide) f47 rfl rfl rfl rfl rfl (Nat.le_of_ble_eq_true rfl) dX2_init_90 ?_
  refine nj_aload_n (pc := 93) F dX2_init_93 rfl ?_
  refine nj_iconst (pc := 94) F dX2_init_94 ?_
  refine nj_put (pc := 95) (k := 0) (ci := 2) (fs := [.int w, .ref q1, .ref q2, .ref q3, .ref q4, .ref q5, .ref q6, .ref q7, .ref q8, .ref q9, .int (iI 0), .int (iI 0), .int 0]) (v := .int (iI 0)) (ty := .int) F tyX2 tyX2_ok nmX2 hin (by omega) rfl rfl 12 (by decide) f50 rfl rfl rfl rfl rfl (Nat.le_of_ble_eq_true rfl) dX2_init_95 ?_
  refine nj_vret F hr hlk dX2_init_98 rfl rfl (fun k hk => ?_)
  match k, hk with
  | 0, _ => rfl
  | 1, _ => rfl
  | 2, _ => rfl
  | 3, _ => rfl
  | 4, _ => rfl
  | 5, _ => rfl
  | 6, _ => rfl
  | 7, _ => rfl
  | 8, _ => rfl
  | 9, _ => rfl
  | j + 10, h => omega
set_option maxHeartbeats 4000000 in
set_option maxRecDepth 100000 in
theorem kX4_init {l : Launch} {D : va_G} {cI cZ cJ cT cC : ClassId} (h0 sz : Nat)  : Met l yX4_init wsX4_init { frames := 1, cells := 25, slots := 9847, locals := 20 } (njA D cI cZ cJ cT cC [.ref h0] h0 (.inr (4, [.int 0, .null, .null, .null, .null, .null, .null, .null, .null, .null, .null, .null, .null, .null, .null, .null, .null, .null, .null, .int 0, .int 0, .null, .int 0, .null, .null, .null, .null, .null, .null])) sz) (njZ D 26 h0 sz (fun ad k => kR cI cZ cJ ad (fun _ _ => 0) (fun _ _ => 0) k)) 25 9847 (njB h0 sz) := by
  refine nj_met (cc := cX4_init) (maxL := 1) (lv := [_]) (by decide) rfl rfl (List.forall_mem_cons.mpr ⟨rfl, fun _ h => absurd h List.not_mem_nil⟩) (Nat.le_of_ble_eq_true rfl) rfl ?_
  intro p e s m args below meth c hsz F hr hlk
  have f7 : Cond.fieldLink RX4 7 "SharedPageModel" "made" "[I" ∈ wsX4_init := by decide +kernel
  have f13 : Cond.fieldLink RX4 13 "SharedPageModel" "siteOf" "[I" ∈ wsX4_init := by decide +kernel
  have f16 : Cond.fieldLink RX4 16 "SharedPageModel" "clockOf" "[I" ∈ wsX4_init := by decide +kernel
  have f19 : Cond.fieldLink RX4 19 "SharedPageModel" "letterOf" "[I" ∈ wsX4_init := by decide +kernel
  have f22 : Cond.fieldLink RX4 22 "SharedPageModel" "leftOf" "[I" ∈ wsX4_init := by decide +kernel
  have f25 : Cond.fieldLink RX4 25 "SharedPageModel" "rightOf" "[I" ∈ wsX4_init := by decide +kernel
  have f28 : Cond.fieldLink RX4 28 "SharedPageModel" "clocks" "[I" ∈ wsX4_init := by decide +kernel
  have f31 : Cond.fieldLink RX4 31 "SharedPageModel" "messages" "[I" ∈ wsX4_init := by decide +kernel
  have f34 : Cond.fieldLink RX4 34 "SharedPageModel" "erases" "[I" ∈ wsX4_init := by decide +kernel
  have f37 : Cond.fieldLink RX4 37 "SharedPageModel" "isErase" "[Z" ∈ wsX4_init := by decide +kernel
  have f41 : Cond.fieldLink RX4 41 "SharedPageModel" "charOf" "[I" ∈ wsX4_init := by decide +kernel
  have f44 : Cond.fieldLink RX4 44 "SharedPageModel" "makerOf" "[I" ∈ wsX4_init := by decide +kernel
  have f47 : Cond.fieldLink RX4 47 "SharedPageModel" "row" "[I" ∈ wsX4_init := by decide +kernel
  have f50 : Cond.fieldLink RX4 50 "SharedPageModel" "many" "[I" ∈ wsX4_init := by decide +kernel
  have f53 : Cond.fieldLink RX4 53 "SharedPageModel" "has" "[Z" ∈ wsX4_init := by decide +kernel
  have f56 : Cond.fieldLink RX4 56 "SharedPageModel" "erased" "[Z" ∈ wsX4_init := by decide +kernel
  have f59 : Cond.fieldLink RX4 59 "SharedPageModel" "state" "[I" ∈ wsX4_init := by decide +kernel
  have f62 : Cond.fieldLink RX4 62 "SharedPageModel" "looks" "[I" ∈ wsX4_init := by decide +kernel
  have f65 : Cond.fieldLink RX4 65 "SharedPageModel" "out" "[I" ∈ wsX4_init := by decide +kernel
  have f68 : Cond.fieldLink RX4 68 "SharedPageModel" "line" "[I" ∈ wsX4_init := by decide +kernel
  have f71 : Cond.fieldLink RX4 71 "SharedPageModel" "passed" "[Z" ∈ wsX4_init := by decide +kernel
  have f74 : Cond.fieldLink RX4 74 "SharedPageModel" "open" "[Z" ∈ wsX4_init := by decide +kernel
  have f77 : Cond.fieldLink RX4 77 "SharedPageModel" "left" "[I" ∈ wsX4_init := by decide +kernel
  have f80 : Cond.fieldLink RX4 80 "SharedPageModel" "ahead" "[I" ∈ wsX4_init := by decide +kernel
  have f83 : Cond.fieldLink RX4 83 "SharedPageModel" "ways" "[J" ∈ wsX4_init := by decide +kernel
  have hin : ∀ w ∈ u_ws RX4 TX4 29, w ∈ wsX4_init := fun w h => List.mem_cons_of_mem _ (List.mem_append_right _ h)
  refine nj_aload_n (pc := 0) F dX4_init_0 rfl ?_
  refine nj_objI (pc := 1) F (by decide +kernel) (by decide +kernel) (List.mem_cons_of_mem _ (by decide +kernel)) (Nat.le_of_ble_eq_true rfl) (Nat.le_of_ble_eq_true rfl) dX4_init_1 ?_
  refine nj_aload_n (pc := 4) F dX4_init_4 rfl ?_
  refine nj_iconst (pc := 5) F dX4_init_5 ?_
  refine nj_newI (pc := 6) F 2 (by decide +kernel) (Nat.le_of_ble_eq_true rfl) (Nat.le_of_ble_eq_true rfl) (Nat.le_of_ble_eq_true rfl) dX4_init_6 (fun q1 => ?_)
  refine nj_putF (pc := 8) (k := 0) (ci := 4) (fs := [.int 0, .null, .null, .null, .null, .null, .null, .null, .null, .null, .null, .null, .null, .null, .null, .null, .null, .null, .null, .int 0, .int 0, .null, .int 0, .null, .null, .null, .null, .null, .null]) (v := .ref q1) (ty := (.array .int)) F tyX4 tyX4_ok nmX4 hin (by omega) rfl rfl 1 (by decide) f7 rfl rfl rfl rfl rfl rfl (Nat.le_of_ble_eq_true rfl) dX4_init_8 ?_
  refine nj_aload_n (pc := 11) F dX4_init_11 rfl ?_
  refine nj_bipush (pc := 12) F dX4_init_12 rfl ?_
  refine nj_newI (pc := 14) F 120 (by decide +kernel) (Nat.le_of_ble_eq_true rfl) (Nat.le_of_ble_eq_true rfl) (Nat.le_of_ble_eq_true rfl) dX4_init_14 (fun q2 => ?_)
  refine nj_putF (pc := 16) (k := 0) (ci := 4) (fs := [.int 0, .ref q1, .null, .null, .null, .null, .null, .null, .null, .null, .null, .null, .null, .null, .null, .null, .null, .null, .null, .int 0, .int 0, .null, .int 0, .null, .null, .null, .null, .null, .null]) (v := .ref q2) (ty := (.array .int)) F tyX4 tyX4_ok nmX4 hin (by omega) rfl rfl 2 (by decide) f13 rfl rfl rfl rfl rfl rfl (Nat.le_of_ble_eq_true rfl) dX4_init_16 ?_
  refine nj_aload_n (pc := 19) F dX4_init_19 rfl ?_
  refine nj_bipush (pc := 20) F dX4_init_20 rfl ?_
  refine nj_newI (pc := 22) F 120 (by decide +kernel) (Nat.le_of_ble_eq_true rfl) (Nat.le_of_ble_eq_true rfl) (Nat.le_of_ble_eq_true rfl) dX4_init_22 (fun q3 => ?_)
  refine nj_putF (pc := 24) (k := 0) (ci := 4) (fs := [.int 0, .ref q1, .ref q2, .null, .null, .null, .null, .null, .null, .null, .null, .null, .null, .null, .null, .null, .null, .null, .null, .int 0, .int 0, .null, .int 0, .null, .null, .null, .null, .null, .null]) (v := .ref q3) (ty := (.array .int)) F tyX4 tyX4_ok nmX4 hin (by omega) rfl rfl 3 (by decide) f16 rfl rfl rfl rfl rfl rfl (Nat.le_of_ble_eq_true rfl) dX4_init_24 ?_
  refine nj_aload_n (pc := 27) F dX4_init_27 rfl ?_
  refine nj_bipush (pc := 28) F dX4_init_28 rfl ?_
  refine nj_newI (pc := 30) F 120 (by decide +kernel) (Nat.le_of_ble_eq_true rfl) (Nat.le_of_ble_eq_true rfl) (Nat.le_of_ble_eq_true rfl) dX4_init_30 (fun q4 => ?_)
  refine nj_putF (pc := 32) (k := 0) (ci := 4) (fs := [.int 0, .ref q1, .ref q2, .ref q3, .null, .null, .null, .null, .null, .null, .null, .null, .null, .null, .null, .null, .null, .null, .null, .int 0, .int 0, .null, .int 0, .null, .null, .null, .null, .null, .null]) (v := .ref q4) (ty := (.array .int)) F tyX4 tyX4_ok nmX4 hin (by omega) rfl rfl 4 (by decide) f19 rfl rfl rfl rfl rfl rfl (Nat.le_of_ble_eq_true rfl) dX4_init_32 ?_
  refine nj_aload_n (pc := 35) F dX4_init_35 rfl ?_
  refine nj_bipush (pc := 36) F dX4_init_36 rfl ?_
  refine nj_newI (pc := 38) F 120 (by decide +kernel) (Nat.le_of_ble_eq_true rfl) (Nat.le_of_ble_eq_true rfl) (Nat.le_of_ble_eq_true rfl) dX4_init_38 (fun q5 => ?_)
  refine nj_putF (pc := 40) (k := 0) (ci := 4) (fs := [.int 0, .ref q1, .ref q2, .ref q3, .ref q4, .null, .null, .null, .null, .null, .null, .null, .null, .null, .null, .null, .null, .null, .null, .int 0, .int 0, .null, .int 0, .null, .null, .null, .null, .null, .null]) (v := .ref q5) (ty := (.array .int)) F tyX4 tyX4_ok nmX4 hin (by omega) rfl rfl 5 (by decide) f22 rfl rfl rfl rfl rfl rfl (Nat.le_of_ble_eq_true rfl) dX4_init_40 ?_
  refine nj_aload_n (pc := 43) F dX4_init_43 rfl ?_
  refine nj_bipush (pc := 44) F dX4_init_44 rfl ?_
  refine nj_newI (pc := 46) F 120 (by decide +kernel) (Nat.le_of_ble_eq_true rfl) (Nat.le_of_ble_eq_true rfl) (Nat.le_of_ble_eq_true rfl) dX4_init_46 (fun q6 => ?_)
  refine nj_putF (pc := 48) (k := 0) (ci := 4) (fs := [.int 0, .ref q1, .ref q2, .ref q3, .ref q4, .ref q5, .null, .null, .null, .null, .null, .null, .null, .null, .null, .null, .null, .null, .null, .int 0, .int 0, .null, .int 0, .null, .null, .null, .null, .null, .null]) (v := .ref q6) (ty := (.array .int)) F tyX4 tyX4_ok nmX4 hin (by omega) rfl rfl 6 (by decide) f25 rfl rfl rfl rfl rfl rfl (Nat.le_of_ble_eq_true rfl) dX4_init_48 ?_
  refine nj_aload_n (pc := 51) F dX4_init_51 rfl ?_
  refine nj_bipush (pc := 52) F dX4_init_52 rfl ?_
  refine nj_newI (pc := 54) F 10 (by decide +kernel) (Nat.le_of_ble_eq_true rfl) (Nat.le_of_ble_eq_true rfl) (Nat.le_of_ble_eq_true rfl) dX4_init_54 (fun q7 => ?_)
  refine nj_putF (pc := 56) (k := 0) (ci := 4) (fs := [.int 0, .ref q1, .ref q2, .ref q3, .ref q4, .ref q5, .ref q6, .null, .null, .null, .null, .null, .null, .null, .null, .null, .null, .null, .null, .int 0, .int 0, .null, .int 0, .null, .null, .null, .null, .null, .null]) (v := .ref q7) (ty := (.array .int)) F tyX4 tyX4_ok nmX4 hin (by omega) rfl rfl 7 (by decide) f28 rfl rfl rfl rfl rfl rfl (Nat.le_of_ble_eq_true rfl) dX4_init_56 ?_
  refine nj_aload_n (pc := 59) F dX4_init_59 rfl ?_
  refine nj_iconst (pc := 60) F dX4_init_60 ?_
  refine nj_newI (pc := 61) F 2 (by decide +kernel) (Nat.le_of_ble_eq_true rfl) (Nat.le_of_ble_eq_true rfl) (Nat.le_of_ble_eq_true rfl) dX4_init_61 (fun q8 => ?_)
  refine nj_putF (pc := 63) (k := 0) (ci := 4) (fs := [.int 0, .ref q1, .ref q2, .ref q3, .ref q4, .ref q5, .ref q6, .ref q7, .null, .null, .null, .null, .null, .null, .null, .null, .null, .null, .null, .int 0, .int 0, .null, .int 0, .null, .null, .null, .null, .null, .null]) (v := .ref q8) (ty := (.array .int)) F tyX4 tyX4_ok nmX4 hin (by omega) rfl rfl 8 (by decide) f31 rfl rfl rfl rfl rfl rfl (Nat.le_of_ble_eq_true rfl) dX4_init_63 ?_
  refine nj_aload_n (pc := 66) F dX4_init_66 rfl ?_
  refine nj_iconst (pc := 67) F dX4_init_67 ?_
  refine nj_newI (pc := 68) F 2 (by decide +kernel) (Nat.le_of_ble_eq_true rfl) (Nat.le_of_ble_eq_true rfl) (Nat.le_of_ble_eq_true rfl) dX4_init_68 (fun q9 => ?_)
  refine nj_putF (pc := 70) (k := 0) (ci := 4) (fs := [.int 0, .ref q1, .ref q2, .ref q3, .ref q4, .ref q5, .ref q6, .ref q7, .ref q8, .null, .null, .null, .null, .null, .null, .null, .null, .null, .null, .int 0, .int 0, .null, .int 0, .null, .null, .null, .null, .null, .null]) (v := .ref q9) (ty := (.array .int)) F tyX4 tyX4_ok nmX4 hin (by omega) rfl rfl 9 (by decide) f34 rfl rfl rfl rfl rfl rfl (Nat.le_of_ble_eq_true rfl) dX4_init_70 ?_
  refine nj_aload_n (pc := 73) F dX4_init_73 rfl ?_
  refine nj_sipush (pc := 74) F dX4_init_74 rfl ?_
  refine nj_newZ (pc := 77) F 320 (by decide +kernel) (Nat.le_of_ble_eq_true rfl) (Nat.le_of_ble_eq_true rfl) (Nat.le_of_ble_eq_true rfl) dX4_init_77 (fun q10 => ?_)
  refine nj_putF (pc := 79) (k := 0) (ci := 4) (fs := [.int 0, .ref q1, .ref q2, .ref q3, .ref q4, .ref q5, .ref q6, .ref q7, .ref q8, .ref q9, .null, .null, .null, .null, .null, .null, .null, .null, .null, .int 0, .int 0, .null, .int 0, .null, .null, .null, .null, .null, .null]) (v := .ref q10) (ty := (.array .boolean)) F tyX4 tyX4_ok nmX4 hin (by omega) rfl rfl 10 (by decide) f37 rfl rfl rfl rfl rfl rfl (Nat.le_of_ble_eq_true rfl) dX4_init_79 ?_
  refine nj_aload_n (pc := 82) F dX4_init_82 rfl ?_
  refine nj_sipush (pc := 83) F dX4_init_83 rfl ?_
  refine nj_newI (pc := 86) F 320 (by decide +kernel) (Nat.le_of_ble_eq_true rfl) (Nat.le_of_ble_eq_true rfl) (Nat.le_of_ble_eq_true rfl) dX4_init_86 (fun q11 => ?_)
  refine nj_putF (pc := 88) (k := 0) (ci := 4) (fs := [.int 0, .ref q1, .ref q2, .ref q3, .ref q4, .ref q5, .ref q6, .ref q7, .ref q8, .ref q9, .ref q10, .null, .null, .null, .null, .null, .null, .null, .null, .int 0, .int 0, .null, .int 0, .null, .null, .null, .null, .null, .null]) (v := .ref q11) (ty := (.array .int)) F tyX4 tyX4_ok nmX4 hin (by omega) rfl rfl 11 (by decide) f41 rfl rfl rfl rfl rfl rfl (Nat.le_of_ble_eq_true rfl) dX4_init_88 ?_
  refine nj_aload_n (pc := 91) F dX4_init_91 rfl ?_
  refine nj_sipush (pc := 92) F dX4_init_92 rfl ?_
  refine nj_newI (pc := 95) F 320 (by decide +kernel) (Nat.le_of_ble_eq_true rfl) (Nat.le_of_ble_eq_true rfl) (Nat.le_of_ble_eq_true rfl) dX4_init_95 (fun q12 => ?_)
  refine nj_putF (pc := 97) (k := 0) (ci := 4) (fs := [.int 0, .ref q1, .ref q2, .ref q3, .ref q4, .ref q5, .ref q6, .ref q7, .ref q8, .ref q9, .ref q10, .ref q11, .null, .null, .null, .null, .null, .null, .null, .int 0, .int 0, .null, .int 0, .null, .null, .null, .null, .null, .null]) (v := .ref q12) (ty := (.array .int)) F tyX4 tyX4_ok nmX4 hin (by omega) rfl rfl 12 (by decide) f44 rfl rfl rfl rfl rfl rfl (Nat.le_of_ble_eq_true rfl) dX4_init_97 ?_
  refine nj_aload_n (pc := 100) F dX4_init_100 rfl ?_
  refine nj_sipush (pc := 101) F dX4_init_101 rfl ?_
  refine nj_newI (pc := 104) F 660 (by decide +kernel) (Nat.le_of_ble_eq_true rfl) (Nat.le_of_ble_eq_true rfl) (Nat.le_of_ble_eq_true rfl) dX4_init_104 (fun q13 => ?_)
  refine nj_putF (pc := 106) (k := 0) (ci := 4) (fs := [.int 0, .ref q1, .ref q2, .ref q3, .ref q4, .ref q5, .ref q6, .ref q7, .ref q8, .ref q9, .ref q10, .ref q11, .ref q12, .null, .null, .null, .null, .null, .null, .int 0, .int 0, .null, .int 0, .null, .null, .null, .null, .null, .null]) (v := .ref q13) (ty := (.array .int)) F tyX4 tyX4_ok nmX4 hin (by omega) rfl rfl 13 (by decide) f47 rfl rfl rfl rfl rfl rfl (Nat.le_of_ble_eq_true rfl) dX4_init_106 ?_
  refine nj_aload_n (pc := 109) F dX4_init_109 rfl ?_
  refine nj_bipush (pc := 110) F dX4_init_110 rfl ?_
  refine nj_newI (pc := 112) F 11 (by decide +kernel) (Nat.le_of_ble_eq_true rfl) (Nat.le_of_ble_eq_true rfl) (Nat.le_of_ble_eq_true rfl) dX4_init_112 (fun q14 => ?_)
  refine nj_putF (pc := 114) (k := 0) (ci := 4) (fs := [.int 0, .ref q1, .ref q2, .ref q3, .ref q4, .ref q5, .ref q6, .ref q7, .ref q8, .ref q9, .ref q10, .ref q11, .ref q12, .ref q13, .null, .null, .null, .null, .null, .int 0, .int 0, .null, .int 0, .null, .null, .null, .null, .null, .null]) (v := .ref q14) (ty := (.array .int)) F tyX4 tyX4_ok nmX4 hin (by omega) rfl rfl 14 (by decide) f50 rfl rfl rfl rfl rfl rfl (Nat.le_of_ble_eq_true rfl) dX4_init_114 ?_
  refine nj_aload_n (pc := 117) F dX4_init_117 rfl ?_
  refine nj_sipush (pc := 118) F dX4_init_118 rfl ?_
  refine nj_newZ (pc := 121) F 660 (by decide +kernel) (Nat.le_of_ble_eq_true rfl) (Nat.le_of_ble_eq_true rfl) (Nat.le_of_ble_eq_true rfl) dX4_init_121 (fun q15 => ?_)
  refine nj_putF (pc := 123) (k := 0) (ci := 4) (fs := [.int 0, .ref q1, .ref q2, .ref q3, .ref q4, .ref q5, .ref q6, .ref q7, .ref q8, .ref q9, .ref q10, .ref q11, .ref q12, .ref q13, .ref q14, .null, .null, .null, .null, .int 0, .int 0, .null, .int 0, .null, .null, .null, .null, .null, .null]) (v := .ref q15) (ty := (.array .boolean)) F tyX4 tyX4_ok nmX4 hin (by omega) rfl rfl 15 (by decide) f53 rfl rfl rfl rfl rfl rfl (Nat.le_of_ble_eq_true rfl) dX4_init_123 ?_
  refine nj_aload_n (pc := 126) F dX4_init_126 rfl ?_
  refine nj_sipush (pc := 127) F dX4_init_127 rfl ?_
  refine nj_newZ (pc := 130) F 660 (by decide +kernel) (Nat.le_of_ble_eq_true rfl) (Nat.le_of_ble_eq_true rfl) (Nat.le_of_ble_eq_true rfl) dX4_init_130 (fun q16 => ?_)
  refine nj_putF (pc := 132) (k := 0) (ci := 4) (fs := [.int 0, .ref q1, .ref q2, .ref q3, .ref q4, .ref q5, .ref q6, .ref q7, .ref q8, .ref q9, .ref q10, .ref q11, .ref q12, .ref q13, .ref q14, .ref q15, .null, .null, .null, .int 0, .int 0, .null, .int 0, .null, .null, .null, .null, .null, .null]) (v := .ref q16) (ty := (.array .boolean)) F tyX4 tyX4_ok nmX4 hin (by omega) rfl rfl 16 (by decide) f56 rfl rfl rfl rfl rfl rfl (Nat.le_of_ble_eq_true rfl) dX4_init_132 ?_
  refine nj_aload_n (pc := 135) F dX4_init_135 rfl ?_
  refine nj_sipush (pc := 136) F dX4_init_136 rfl ?_
  refine nj_newI (pc := 139) F 1760 (by decide +kernel) (Nat.le_of_ble_eq_true rfl) (Nat.le_of_ble_eq_true rfl) (Nat.le_of_ble_eq_true rfl) dX4_init_139 (fun q17 => ?_)
  refine nj_putF (pc := 141) (k := 0) (ci := 4) (fs := [.int 0, .ref q1, .ref q2, .ref q3, .ref q4, .ref q5, .ref q6, .ref q7, .ref q8, .ref q9, .ref q10, .ref q11, .ref q12, .ref q13, .ref q14, .ref q15, .ref q16, .null, .null, .int 0, .int 0, .null, .int 0, .null, .null, .null, .null, .null, .null]) (v := .ref q17) (ty := (.array .int)) F tyX4 tyX4_ok nmX4 hin (by omega) rfl rfl 17 (by decide) f59 rfl rfl rfl rfl rfl rfl (Nat.le_of_ble_eq_true rfl) dX4_init_141 ?_
  refine nj_aload_n (pc := 144) F dX4_init_144 rfl ?_
  refine nj_bipush (pc := 145) F dX4_init_145 rfl ?_
  refine nj_newI (pc := 147) F 10 (by decide +kernel) (Nat.le_of_ble_eq_true rfl) (Nat.le_of_ble_eq_true rfl) (Nat.le_of_ble_eq_true rfl) dX4_init_147 (fun q18 => ?_)
  refine nj_putF (pc := 149) (k := 0) (ci := 4) (fs := [.int 0, .ref q1, .ref q2, .ref q3, .ref q4, .ref q5, .ref q6, .ref q7, .ref q8, .ref q9, .ref q10, .ref q11, .ref q12, .ref q13, .ref q14, .ref q15, .ref q16, .ref q17, .null, .int 0, .int 0, .null, .int 0, .null, .null, .null, .null, .null, .null]) (v := .ref q18) (ty := (.array .int)) F tyX4 tyX4_ok nmX4 hin (by omega) rfl rfl 18 (by decide) f62 rfl rfl rfl rfl rfl rfl (Nat.le_of_ble_eq_true rfl) dX4_init_149 ?_
  refine nj_aload_n (pc := 152) F dX4_init_152 rfl ?_
  refine nj_bipush (pc := 153) F dX4_init_153 rfl ?_
  refine nj_newI (pc := 155) F 60 (by decide +kernel) (Nat.le_of_ble_eq_true rfl) (Nat.le_of_ble_eq_true rfl) (Nat.le_of_ble_eq_true rfl) dX4_init_155 (fun q19 => ?_)
  refine nj_putF (pc := 157) (k := 0) (ci := 4) (fs := [.int 0, .ref q1, .ref q2, .ref q3, .ref q4, .ref q5, .ref q6, .ref q7, .ref q8, .ref q9, .ref q10, .ref q11, .ref q12, .ref q13, .ref q14, .ref q15, .ref q16, .ref q17, .ref q18, .int 0, .int 0, .null, .int 0, .null, .null, .null, .null, .null, .null]) (v := .ref q19) (ty := (.array .int)) F tyX4 tyX4_ok nmX4 hin (by omega) rfl rfl 21 (by decide) f65 rfl rfl rfl rfl rfl rfl (Nat.le_of_ble_eq_true rfl) dX4_init_157 ?_
  refine nj_aload_n (pc := 160) F dX4_init_160 rfl ?_
  refine nj_bipush (pc := 161) F dX4_init_161 rfl ?_
  refine nj_newI (pc := 163) F 62 (by decide +kernel) (Nat.le_of_ble_eq_true rfl) (Nat.le_of_ble_eq_true rfl) (Nat.le_of_ble_eq_true rfl) dX4_init_163 (fun q20 => ?_)
  refine nj_putF (pc := 165) (k := 0) (ci := 4) (fs := [.int 0, .ref q1, .ref q2, .ref q3, .ref q4, .ref q5, .ref q6, .ref q7, .ref q8, .ref q9, .ref q10, .ref q11, .ref q12, .ref q13, .ref q14, .ref q15, .ref q16, .ref q17, .ref q18, .int 0, .int 0, .ref q19, .int 0, .null, .null, .null, .null, .null, .null]) (v := .ref q20) (ty := (.array .int)) F tyX4 tyX4_ok nmX4 hin (by omega) rfl rfl 23 (by decide) f68 rfl rfl rfl rfl rfl rfl (Nat.le_of_ble_eq_true rfl) dX4_init_165 ?_
  refine nj_aload_n (pc := 168) F dX4_init_168 rfl ?_
  refine nj_bipush (pc := 169) F dX4_init_169 rfl ?_
  refine nj_newZ (pc := 171) F 60 (by decide +kernel) (Nat.le_of_ble_eq_true rfl) (Nat.le_of_ble_eq_true rfl) (Nat.le_of_ble_eq_true rfl) dX4_init_171 (fun q21 => ?_)
  refine nj_putF (pc := 173) (k := 0) (ci := 4) (fs := [.int 0, .ref q1, .ref q2, .ref q3, .ref q4, .ref q5, .ref q6, .ref q7, .ref q8, .ref q9, .ref q10, .ref q11, .ref q12, .ref q13, .ref q14, .ref q15, .ref q16, .ref q17, .ref q18, .int 0, .int 0, .ref q19, .int 0, .ref q20, .null, .null, .null, .null, .null]) (v := .ref q21) (ty := (.array .boolean)) F tyX4 tyX4_ok nmX4 hin (by omega) rfl rfl 24 (by decide) f71 rfl rfl rfl rfl rfl rfl (Nat.le_of_ble_eq_true rfl) dX4_init_173 ?_
  refine nj_aload_n (pc := 176) F dX4_init_176 rfl ?_
  refine nj_bipush (pc := 177) F dX4_init_177 rfl ?_
  refine nj_newZ (pc := 179) F 60 (by decide +kernel) (Nat.le_of_ble_eq_true rfl) (Nat.le_of_ble_eq_true rfl) (Nat.le_of_ble_eq_true rfl) dX4_init_179 (fun q22 => ?_)
  refine nj_putF (pc := 181) (k := 0) (ci := 4) (fs := [.int 0, .ref q1, .ref q2, .ref q3, .ref q4, .ref q5, .ref q6, .ref q7, .ref q8, .ref q9, .ref q10, .ref q11, .ref q12, .ref q13, .ref q14, .ref q15, .ref q16, .ref q17, .ref q18, .int 0, .int 0, .ref q19, .int 0, .ref q20, .ref q21, .null, .null, .null, .null]) (v := .ref q22) (ty := (.array .boolean)) F tyX4 tyX4_ok nmX4 hin (by omega) rfl rfl 25 (by decide) f74 rfl rfl rfl rfl rfl rfl (Nat.le_of_ble_eq_true rfl) dX4_init_181 ?_
  refine nj_aload_n (pc := 184) F dX4_init_184 rfl ?_
  refine nj_sipush (pc := 185) F dX4_init_185 rfl ?_
  refine nj_newI (pc := 188) F 160 (by decide +kernel) (Nat.le_of_ble_eq_true rfl) (Nat.le_of_ble_eq_true rfl) (Nat.le_of_ble_eq_true rfl) dX4_init_188 (fun q23 => ?_)
  refine nj_putF (pc := 190) (k := 0) (ci := 4) (fs := [.int 0, .ref q1, .ref q2, .ref q3, .ref q4, .ref q5, .ref q6, .ref q7, .ref q8, .ref q9, .ref q10, .ref q11, .ref q12, .ref q13, .ref q14, .ref q15, .ref q16, .ref q17, .ref q18, .int 0, .int 0, .ref q19, .int 0, .ref q20, .ref q21, .ref q22, .null, .null, .null]) (v := .ref q23) (ty := (.array .int)) F tyX4 tyX4_ok nmX4 hin (by omega) rfl rfl 26 (by decide) f77 rfl rfl rfl rfl rfl rfl (Nat.le_of_ble_eq_true rfl) dX4_init_190 ?_
  refine nj_aload_n (pc := 193) F dX4_init_193 rfl ?_
  refine nj_bipush (pc := 194) F dX4_init_194 rfl ?_
  refine nj_newI (pc := 196) F 12 (by decide +kernel) (Nat.le_of_ble_eq_true rfl) (Nat.le_of_ble_eq_true rfl) (Nat.le_of_ble_eq_true rfl) dX4_init_196 (fun q24 => ?_)
  refine nj_putF (pc := 198) (k := 0) (ci := 4) (fs := [.int 0, .ref q1, .ref q2, .ref q3, .ref q4, .ref q5, .ref q6, .ref q7, .ref q8, .ref q9, .ref q10, .ref q11, .ref q12, .ref q13, .ref q14, .ref q15, .ref q16, .ref q17, .ref q18, .int 0, .int 0, .ref q19, .int 0, .ref q20, .ref q21, .ref q22, .ref q23, .null, .null]) (v := .ref q24) (ty := (.array .int)) F tyX4 tyX4_ok nmX4 hin (by omega) rfl rfl 27 (by decide) f80 rfl rfl rfl rfl rfl rfl (Nat.le_of_ble_eq_true rfl) dX4_init_198 ?_
  refine nj_aload_n (pc := 201) F dX4_init_201 rfl ?_
  refine nj_sipush (pc := 202) F dX4_init_202 rfl ?_
  refine nj_newJ (pc := 205) F 4096 (by decide +kernel) (Nat.le_of_ble_eq_true rfl) (Nat.le_of_ble_eq_true rfl) (Nat.le_of_ble_eq_true rfl) dX4_init_205 (fun q25 => ?_)
  refine nj_putF (pc := 207) (k := 0) (ci := 4) (fs := [.int 0, .ref q1, .ref q2, .ref q3, .ref q4, .ref q5, .ref q6, .ref q7, .ref q8, .ref q9, .ref q10, .ref q11, .ref q12, .ref q13, .ref q14, .ref q15, .ref q16, .ref q17, .ref q18, .int 0, .int 0, .ref q19, .int 0, .ref q20, .ref q21, .ref q22, .ref q23, .ref q24, .null]) (v := .ref q25) (ty := (.array .long)) F tyX4 tyX4_ok nmX4 hin (by omega) rfl rfl 28 (by decide) f83 rfl rfl rfl rfl rfl rfl (Nat.le_of_ble_eq_true rfl) dX4_init_207 ?_
  refine nj_vret F hr hlk dX4_init_210 rfl rfl (fun k hk => ?_)
  match k, hk with
  | 0, _ => rfl
  | 1, _ => rfl
  | 2, _ => rfl
  | 3, _ => rfl
  | 4, _ => rfl
  | 5, _ => rfl
  | 6, _ => rfl
  | 7, _ => rfl
  | 8, _ => rfl
  | 9, _ => rfl
  | 10, _ => rfl
  | 11, _ => rfl
  | 12, _ => rfl
  | 13, _ => rfl
  | 14, _ => rfl
  | 15, _ => rfl
  | 16, _ => rfl
  | 17, _ => rfl
  | 18, _ => rfl
  | 19, _ => rfl
  | 20, _ => rfl
  | 21, _ => rfl
  | 22, _ => rfl
  | 23, _ => rfl
  | 24, _ => rfl
  | 25, _ => rfl
  | j + 26, h => omega
