/-! the law from its entry -/
theorem arr_known {a : Array Value} {s : State} {ty : FieldType} (hra : ∀ cA, s.vm.findClass ("[" ++ ty.toString) = some cA → va_RA s cA ty) (h : (Cond.arrayClass ty).before a s = true) : ∃ cA : ClassId, ArrOfT s cA ty ∧ va_RA s cA ty := by
  obtain ⟨cA, kA, comp, h1, h2, h3⟩ := Cond.arrayClass_spec h
  exact ⟨cA, fun N z => ⟨(fun k h => by cases h), kA, h2, comp, h3⟩, hra cA h1⟩
theorem over_known {s : State} {C : String} (h : va_AO C s) : ∃ cA : ClassId, ArrOfT s cA (.object C) ∧ va_RA s cA (.object C) := by
  obtain ⟨comp, cA, kA, h1, h2, h3, h4, h5⟩ := Cond.arrayOver_spec h
  exact ⟨cA, fun N z => ⟨(fun k h => by cases h), kA, h3, comp, h4⟩, kA, comp, h3, h4, h1, h5⟩
/-- the two worlds, out of the one that was made -/
theorem split_w {D : va_G} {cI cZ cJ cT cC : ClassId} {A : Nat → Prop} {ad c1 c2 : Nat → Nat} {ct : Nat → va_E} {H : Heap} (hP : va_P D vwCl (sjW 115 ad ct) H) (hD : va_D A (sjW 115 ad ct)) (h1 : ∀ k, k < 89 → ad k = c1 k ∧ ct k = cPg cI cZ cJ cT cC c1 k) (h2 : ∀ k, k < 26 → ad (89 + k) = c2 k ∧ ct (89 + k) = kR cI cZ cJ c2 (fun _ _ => 0) (fun _ _ => 0) k) :
    va_P D vwCl (sjW 89 (fun j => c1 (pgI j)) (kC cI cZ cJ cT cC (fun j => c1 (pgI j)) cM0 (fun _ _ => 0))) H ∧ va_P D vwCl (sjW 26 c2 (kR cI cZ cJ c2 (fun _ _ => 0) (fun _ _ => 0))) H ∧ (∀ g : Nat → va_E, va_D (inA 89 (fun j => c1 (pgI j))) (sjW 89 (fun j => c1 (pgI j)) g)) ∧ (∀ g : Nat → va_E, va_D (inA 26 c2) (sjW 26 c2 g)) ∧ (∀ i j, i < 89 → j < 26 → (fun j => c1 (pgI j)) i ≠ c2 j) ∧ (∀ i, i < 89 → A ((fun j => c1 (pgI j)) i)) ∧ ∀ j, j < 26 → A (c2 j) := by
  refine ⟨fun k q hk => ?_, fun k q hk => ?_, fun g => ⟨fun i j a b hi hj hab => ?_, fun k q hk => ?_⟩, fun g => ⟨fun i j a b hi hj hab => ?_, fun k q hk => ?_⟩, fun i j hi hj hab => ?_, fun i hi => ?_, fun j hj => ?_⟩
  · obtain ⟨k1, rfl⟩ := sjW_in hk
    obtain ⟨p1, p2⟩ := pgIJ k k1
    have h3 := hP (pgI k) _ (sjW_get (show pgI k < 115 by omega))
    rw [(h1 _ p2).1, (h1 _ p2).2] at h3
    unfold cPg at h3
    rw [p1] at h3
    exact h3
  · obtain ⟨k1, rfl⟩ := sjW_in hk
    have h3 := hP (89 + k) _ (sjW_get (show 89 + k < 115 by omega))
    rw [(h2 _ k1).1, (h2 _ k1).2] at h3
    exact h3
  · obtain ⟨i1, rfl⟩ := sjW_in hi
    obtain ⟨j1, rfl⟩ := sjW_in hj
    obtain ⟨p1, p2⟩ := pgIJ i i1
    obtain ⟨q1, q2⟩ := pgIJ j j1
    have h3 := hD.1 (pgI i) (pgI j) _ _ (sjW_get (show pgI i < 115 by omega)) (sjW_get (show pgI j < 115 by omega)) (by show ad (pgI i) = ad (pgI j); rw [(h1 _ p2).1, (h1 _ q2).1]; exact hab)
    rw [← p1, ← q1, h3]
  · obtain ⟨k1, rfl⟩ := sjW_in hk
    exact ⟨k, k1, rfl⟩
  · obtain ⟨i1, rfl⟩ := sjW_in hi
    obtain ⟨j1, rfl⟩ := sjW_in hj
    have h3 := hD.1 (89 + i) (89 + j) _ _ (sjW_get (show 89 + i < 115 by omega)) (sjW_get (show 89 + j < 115 by omega)) (by show ad (89 + i) = ad (89 + j); rw [(h2 _ i1).1, (h2 _ j1).1]; exact hab)
    omega
  · obtain ⟨k1, rfl⟩ := sjW_in hk
    exact ⟨k, k1, rfl⟩
  · obtain ⟨p1, p2⟩ := pgIJ i hi
    have h3 := hD.1 (pgI i) (89 + j) _ _ (sjW_get (show pgI i < 115 by omega)) (sjW_get (show 89 + j < 115 by omega)) (by show ad (pgI i) = ad (89 + j); rw [(h1 _ p2).1, (h2 _ hj).1]; exact hab)
    omega
  · obtain ⟨p1, p2⟩ := pgIJ i hi
    have h3 := hD.2 (pgI i) _ (sjW_get (show pgI i < 115 by omega))
    rw [(h1 _ p2).1] at h3
    exact h3
  · have h3 := hD.2 (89 + j) _ (sjW_get (show 89 + j < 115 by omega))
    rw [(h2 _ hj).1] at h3
    exact h3
set_option maxHeartbeats 8000000 in
set_option maxRecDepth 100000 in
/-- from the entry, for every script of at most 2560 ints, the law comes to its end with true -/
theorem whole_start {p : Program} {e : Env} {s : State} {m : MethodId} {below : List Frame} {meth : Method} {c : Code} (l : Launch) {b L : Nat} {xs : Nat → Int32} (hL : L ≤ 2560) (C0 : lw_At p s m meth c b L xs) : W p l e room_1 s m #[Value.ref b] below meth c s.heap [] 0 0 (lw_Z below #[Value.ref b] s) (entryFrame m ([Value.ref b] : List Value).toArray 4) := by
  obtain ⟨hx, hb, hr, hml, hown, hts, hX, hbl, hlocks, hgv⟩ := id C0
  have hw : ∀ w ∈ wsL_law, w.before #[Value.ref b] s = true := fun w h => hts w (wsL_law_in w h)
  have S : CallFix p m c cL_law 4 s #[Value.ref b] wsL_law RL := ⟨hx, hb, hml, hown, hw⟩
  obtain ⟨c0, s0, hk0⟩ := u_known (C := RX0) (T := TX0) (N := 12) (n := 12) hw inlX0 (hw (.instantiable RX0 12) (by decide +kernel))
  obtain ⟨c1, s1, hk1⟩ := u_known (C := RX1) (T := TX1) (N := 2) (n := 2) hw inlX1 (hw (.instantiable RX1 2) (by decide +kernel))
  obtain ⟨c2, s2, hk2⟩ := u_known (C := RX2) (T := TX2) (N := 13) (n := 13) hw inlX2 (hw (.instantiable RX2 13) (by decide +kernel))
  obtain ⟨c3, s3, hk3⟩ := u_known (C := RX3) (T := TX3) (N := 7) (n := 7) hw inlX3 (hw (.instantiable RX3 7) (by decide +kernel))
  obtain ⟨c4, s4, hk4⟩ := u_known (C := RX4) (T := TX4) (N := 29) (n := 29) hw inlX4 (hw (.instantiable RX4 29) (by decide +kernel))
  obtain ⟨cI, kI1, kI2⟩ := arr_known (ty := .int) (fun _ h => h) (hw (.arrayClass .int) (by decide +kernel))
  obtain ⟨cZ, kZ1, kZ2⟩ := arr_known (ty := .boolean) (fun _ h => h) (hw (.arrayClass .boolean) (by decide +kernel))
  obtain ⟨cJ, kJ1, kJ2⟩ := arr_known (ty := .long) (fun _ h => h) (hw (.arrayClass .long) (by decide +kernel))
  have aoT : va_AO "SharedPage$Text" s := va_AO.of (hts (.arrayOver (.object "SharedPage$Text")) (by decide +kernel))
  have aoC : va_AO "SharedPage$Copy" s := va_AO.of (hts (.arrayOver (.object "SharedPage$Copy")) (by decide +kernel))
  obtain ⟨cT, kT1, kT2⟩ := over_known aoT
  obtain ⟨cC, kC1, kC2⟩ := over_known aoC
  obtain ⟨D, hK⟩ : ∃ D : va_G, va_K D vwCl (sjT cI cZ cJ cT cC) s := by
    refine ⟨(fun k => if k = 0 then c0 else if k = 1 then c1 else if k = 2 then c2 else if k = 3 then c3 else c4, fun k => if k = 0 then s0 else if k = 1 then s1 else if k = 2 then s2 else if k = 3 then s3 else s4), ?_, ?_⟩
    · intro k q hq
      match k, hq with
      | 0, hq => cases hq; exact hk0
      | 1, hq => cases hq; exact hk1
      | 2, hq => cases hq; exact hk2
      | 3, hq => cases hq; exact hk3
      | 4, hq => cases hq; exact hk4
      | k + 5, hq => simp [vwCl] at hq
    · intro k q hq
      match k, hq with
      | 0, hq => cases hq; exact ⟨kI1, kI2⟩
      | 1, hq => cases hq; exact ⟨kZ1, kZ2⟩
      | 2, hq => cases hq; exact ⟨kJ1, kJ2⟩
      | 3, hq => cases hq; exact ⟨kT1, kT2⟩
      | 4, hq => cases hq; exact ⟨kC1, kC2⟩
      | k + 5, hq => simp [sjT] at hq
  have F : njG p s m #[Value.ref b] c cL_law 4 wsL_law RL D cI cZ cJ cT cC (fun q => s.heap.size ≤ q) s.heap := ⟨S, hK, fun _ h => h, aoT, aoC⟩
  have hfsX3 : ∀ j, j < 7 → defaultValue (tyX3 j) = vp_V [.null, .null, .null, .null, .null, .null, .int 0] j := fun j hj => by
    match j, hj with
    | 0, _ => rfl
    | 1, _ => rfl
    | 2, _ => rfl
    | 3, _ => rfl
    | 4, _ => rfl
    | 5, _ => rfl
    | 6, _ => rfl
    | j + 7, h => omega
  have hfsX4 : ∀ j, j < 29 → defaultValue (tyX4 j) = vp_V [.int 0, .null, .null, .null, .null, .null, .null, .null, .null, .null, .null, .null, .null, .null, .null, .null, .null, .null, .null, .int 0, .int 0, .null, .int 0, .null, .null, .null, .null, .null, .null] j := fun j hj => by
    match j, hj with
    | 0, _ => rfl
    | 1, _ => rfl
    | 2, _ => rfl
    | 3, _ => rfl
    | 4, _ => rfl
    | 5, _ => rfl
    | 6, _ => rfl
    | 7, _ => rfl
    | 8, _ => rfl
    | 9, _ => rfl
    | 10, _ => rfl
    | 11, _ => rfl
    | 12, _ => rfl
    | 13, _ => rfl
    | 14, _ => rfl
    | 15, _ => rfl
    | 16, _ => rfl
    | 17, _ => rfl
    | 18, _ => rfl
    | 19, _ => rfl
    | 20, _ => rfl
    | 21, _ => rfl
    | 22, _ => rfl
    | 23, _ => rfl
    | 24, _ => rfl
    | 25, _ => rfl
    | 26, _ => rfl
    | 27, _ => rfl
    | 28, _ => rfl
    | j + 29, h => omega
  have main : nj p l e room_1 s m #[Value.ref b] below meth c D (fun q => s.heap.size ≤ q) s.heap 4 (lw_Z below #[Value.ref b] s) 0 0 (fun _ => 0) (fun _ => .inr (0, [])) 0 0 [some (.ref b), none, none, none] [] := by
    refine nj_new (pc := 0) (ci := 3) (fs := [.null, .null, .null, .null, .null, .null, .int 0]) F inlX3 tyX3 tyX3_ok (by decide +kernel) (by decide +kernel) (by decide +kernel) rfl hfsX3 (Nat.le_of_ble_eq_true rfl) (Nat.le_of_ble_eq_true rfl) dL_law_0 (fun q0 => ?_)
    refine nj_dup (pc := 3) F dL_law_3 rfl ?_
    refine nj_callI (pc := 4) (N := 0) (n := 0) (nn := 89) (mc := 88) (ms := 10164) (h0 := q0) (As := []) F (fun sz => kX3_init q0 sz) rfl rfl gL_law_X3_init rfl (by decide +kernel) (by decide +kernel) (by decide +kernel) rfl (by decide +kernel) rfl rfl ⟨Nat.le_of_ble_eq_true rfl, Nat.le_of_ble_eq_true rfl⟩ ⟨Nat.le_of_ble_eq_true rfl, Nat.le_of_ble_eq_true rfl⟩ rfl rfl (Nat.le_of_ble_eq_true rfl) dL_law_4 (fun e1 he1 => ?_)
    subst he1
    refine nj_astore_n (pc := 7) (lv' := [_, _, _, _]) F dL_law_7 (by decide) rfl ?_
    refine nj_new (pc := 8) (ci := 4) (fs := [.int 0, .null, .null, .null, .null, .null, .null, .null, .null, .null, .null, .null, .null, .null, .null, .null, .null, .null, .null, .int 0, .int 0, .null, .int 0, .null, .null, .null, .null, .null, .null]) F inlX4 tyX4 tyX4_ok (by decide +kernel) (by decide +kernel) (by decide +kernel) rfl hfsX4 (Nat.le_of_ble_eq_true rfl) (Nat.le_of_ble_eq_true rfl) dL_law_8 (fun q1 => ?_)
    refine nj_dup (pc := 11) F dL_law_11 rfl ?_
    refine nj_callI (pc := 12) (N := 89) (n := 0) (nn := 26) (mc := 25) (ms := 9847) (h0 := q1) (As := []) F (fun sz => kX4_init q1 sz) rfl rfl gL_law_X4_init rfl (by decide +kernel) (by decide +kernel) (by decide +kernel) rfl (by decide +kernel) rfl rfl ⟨Nat.le_of_ble_eq_true rfl, Nat.le_of_ble_eq_true rfl⟩ ⟨Nat.le_of_ble_eq_true rfl, Nat.le_of_ble_eq_true rfl⟩ rfl rfl (Nat.le_of_ble_eq_true rfl) dL_law_12 (fun e2 he2 => ?_)
    subst he2
    refine nj_astore_n (pc := 15) (lv' := [_, _, _, _]) F dL_law_15 (by decide) rfl ?_
    refine nj_iconstG (pc := 16) F dL_law_16 ?_
    refine nj_istore_n (pc := 17) (lv' := [_, _, _, _]) F dL_law_17 (by decide) rfl ?_
    intro H locs ls hP hD hS hl
    obtain ⟨w1, w2, w3, w4, w5, w6, w7⟩ := split_w (cI := cI) (cZ := cZ) (cJ := cJ) (cT := cT) (cC := cC) (c1 := e1) (c2 := e2) hP hD
      (fun k hk => by
        unfold adM ctM adU ctU
        have h9 : ¬ k = 89 := by omega
        simp [hk, h9])
      (fun k hk => by
        unfold adM ctM
        have h9 : ¬ 89 + k < 89 := by omega
        have h8 : 89 + k - 89 = k := by omega
        simp [h9, h8])
    exact law_loop (J := bj p l e s m b below meth c D cI cZ cJ cT cC (fun j => e1 (pgI j)) e2 _ _) ⟨p, e, s, m, below, meth, c, _, _, C0, ⟨S, hK, w3, w4, w5, w6, w7⟩, ⟨Nat.le_of_ble_eq_true rfl, Nat.le_of_ble_eq_true rfl⟩, rfl⟩ hL _ 0 cM0 (fun _ _ => 0) (fun _ _ => 0) (fun _ _ => 0) (by omega) (by omega) (Nat.lt_succ_self _) RR_start H locs ls w1 w2 hS hl
  have hl := lv_entry ([.ref b]) (n := 4) (Nat.le_of_ble_eq_true rfl)
  rw [lg_entry_eq]
  refine main s.heap [] _ (fun k q hk => by rw [sjW_out (by omega)] at hk; cases hk) ⟨(fun i j a c hi => by rw [sjW_out (by omega)] at hi; cases hi), (fun k q hk => by rw [sjW_out (by omega)] at hk; cases hk)⟩ va_S.rf ⟨hl.1, hl.2.1, fun i v hi => ?_⟩
  match i, hi with
  | 0, hi => cases hi; exact hl.2.2 (0, .ref b) (by simp [lv_args])
  | 1, hi => cases hi
  | 2, hi => cases hi
  | 3, hi => cases hi
  | i + 4, hi => simp at hi
