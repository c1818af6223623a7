/-- a copy alone: its five cells -/
def fSm (ad : Nat → Nat) (tx : Nat) (M : sjM) : List Value := [.ref tx, .ref (ad 1), .ref (ad 2), .ref (ad 3), .ref (ad 4), .int (M 0 0), .int (M 0 1), .int (M 0 2), .int (M 0 3), .int (M 0 4), .int (M 0 5), .int (M 0 6)]
def kS (cI cZ : ClassId) (tx : Nat) (ad : Nat → Nat) (M : sjM) (L : sjL) (k : Nat) : va_E := if k = 0 then .inr (0, fSm ad tx M) else if k = 3 then wI cZ 60 k M else if k = 4 then wI cI 160 k M else wI cI 60 k M
section WS
variable {cI cZ : ClassId} {ad : Nat → Nat} {tx : Nat}
theorem kS_loc : ∀ (M M' : sjM) (L L' : sjL) (k : Nat), M k = M' k → L k = L' k → kS cI cZ tx ad M L k = kS cI cZ tx ad M' L' k := by
  intro M M' L L' k h1 h2
  unfold kS fSm wI
  by_cases h0 : k = 0
  · subst h0; simp [h1]
  · simp [h0, h1]
theorem oS : sjO 5 (kS cI cZ tx ad) 0 0 (fSm ad tx) := ⟨by omega, fun M L => by simp [kS]⟩
theorem aS12 (k : Nat) (h1 : 1 ≤ k) (h2 : k ≤ 2) : sjI 5 (kS cI cZ tx ad) cI k 60 := ⟨by omega, by omega, fun M L => by
  have a0 : ¬ k = 0 := by omega
  have a3 : ¬ k = 3 := by omega
  have a4 : ¬ k = 4 := by omega
  simp only [kS, a0, a3, a4, if_false, wI]⟩
theorem aS3 : sjI 5 (kS cI cZ tx ad) cZ 3 60 := ⟨by omega, by omega, fun M L => by simp [kS, wI]⟩
theorem aS4 : sjI 5 (kS cI cZ tx ad) cI 4 160 := ⟨by omega, by omega, fun M L => by simp [kS, wI]⟩
theorem pS0 : sjP 0 (fSm ad tx) 5 0 := ⟨fun _ => rfl, fun M x => by simp [fSm, sjU]⟩
theorem pS1 : sjP 0 (fSm ad tx) 6 1 := ⟨fun _ => rfl, fun M x => by simp [fSm, sjU]⟩
theorem pS2 : sjP 0 (fSm ad tx) 7 2 := ⟨fun _ => rfl, fun M x => by simp [fSm, sjU]⟩
theorem pS3 : sjP 0 (fSm ad tx) 8 3 := ⟨fun _ => rfl, fun M x => by simp [fSm, sjU]⟩
theorem pS4 : sjP 0 (fSm ad tx) 9 4 := ⟨fun _ => rfl, fun M x => by simp [fSm, sjU]⟩
theorem pS5 : sjP 0 (fSm ad tx) 10 5 := ⟨fun _ => rfl, fun M x => by simp [fSm, sjU]⟩
theorem pS6 : sjP 0 (fSm ad tx) 11 6 := ⟨fun _ => rfl, fun M x => by simp [fSm, sjU]⟩
theorem kS_M {M M' : sjM} (L L' : sjL) {k : Nat} (h : M k = M' k) : kS cI cZ tx ad M L k = kS cI cZ tx ad M' L' k := by
  unfold kS fSm wI
  by_cases h0 : k = 0
  · subst h0; simp [h]
  · simp [h0, h]
end WS
def vS (M : sjM) : aS := fun j z => if j < 5 then (M j z).toInt else 0
theorem vS_U (M : sjM) (j : Nat) (z : Int) (x : Int32) (h : j < 5) : vS (sjU M j z x) = aUp (vS M) j z x.toInt := by
  funext a b
  unfold vS aUp sjU
  by_cases ha : a < 5
  · by_cases hj : a = j
    · subst hj
      by_cases hb : b = z <;> simp [ha, hb]
    · simp [ha, hj]
  · have : ¬ a = j := by omega
    simp [ha, this]
/-- a new copy's cells -/
def emM : sjM := fun k z => if k = 2 ∧ 0 ≤ z ∧ z < 60 then iI (-2) else iI 0
theorem emp_0 (k : Nat) (z : Int) (hk : k < 5) : iI (aEmp (vS (fun _ _ => 0)) k z) = emM k z := by
  have hv : ∀ (j : Nat) (b : Int), vS (fun _ _ => 0) j b = 0 := fun j b => by unfold vS; split <;> rfl
  by_cases h0 : k = 0
  · subst h0
    have he : aEmp (vS (fun _ _ => 0)) 0 z = 0 := by
      by_cases hz : 0 ≤ z ∧ z ≤ 6
      · exact aEmp_0 _ z hz.1 hz.2
      · unfold aEmp
        rw [aUp_ne (by omega), aUp_ne (by omega), aUp_ne (by omega), aUp_ne (by omega), aUp_ne (by omega), aUp_ne (by omega), aUp_ne (by omega)]
        unfold aE2 aE1
        rw [if_neg (by omega), if_neg (by omega), if_neg (by omega), hv]
    rw [he]
    unfold emM
    rw [if_neg (by omega)]
  · rw [aEmp_j _ k z h0]
    unfold aE2 aE1 emM
    rw [hv]
    by_cases h2 : k = 2 ∧ 0 ≤ z ∧ z < 60
    · rw [if_neg (by omega), if_pos h2, if_pos h2]
    · rw [if_neg h2, if_neg h2]
      (repeat' split) <;> rfl
set_option maxHeartbeats 4000000 in
set_option maxRecDepth 100000 in
theorem kX0_makeEmptyS {l : Launch} {D : va_G} {cI cZ cJ cT cC : ClassId} {ad : Nat → Nat} {A : Nat → Prop} (hD : ∀ g : Nat → va_E, va_D A (sjW 5 ad g)) (tx : Nat) (M : sjM) (L : sjL)  : Met l yX0_makeEmpty wsX0_makeEmpty { frames := 0, cells := 0, slots := 0, locals := 0 } (sjA D cI cZ cJ cT cC 5 ad (kS cI cZ tx ad) [.ref (ad 0)] M L) (sjZ D 5 ad (kS cI cZ tx ad) A (fun v M' L' => v = none ∧ vS M' = aEmp (vS M))) 0 0 A := by
  refine g_met (cc := cX0_makeEmpty) (maxL := 2) (ret := none) (lv := [_, _]) (by decide) rfl hD kS_loc (List.forall_mem_cons.mpr ⟨rfl, fun _ h => absurd h List.not_mem_nil⟩) (Nat.le_of_ble_eq_true rfl) rfl ?_
  intro J G
  have f19 : Cond.fieldLink RX0 19 "SharedPage$Copy" "places" "[I" ∈ wsX0_makeEmpty := by decide +kernel
  have f22 : Cond.fieldLink RX0 22 "SharedPage$Copy" "erased" "[Z" ∈ wsX0_makeEmpty := by decide +kernel
  have f26 : Cond.fieldLink RX0 26 "SharedPage$Copy" "states" "[I" ∈ wsX0_makeEmpty := by decide +kernel
  have f32 : Cond.fieldLink RX0 32 "SharedPage$Copy" "length" "I" ∈ wsX0_makeEmpty := by decide +kernel
  have f36 : Cond.fieldLink RX0 36 "SharedPage$Copy" "seen" "I" ∈ wsX0_makeEmpty := by decide +kernel
  have f39 : Cond.fieldLink RX0 39 "SharedPage$Copy" "done" "I" ∈ wsX0_makeEmpty := by decide +kernel
  have f42 : Cond.fieldLink RX0 42 "SharedPage$Copy" "waiting" "I" ∈ wsX0_makeEmpty := by decide +kernel
  have f45 : Cond.fieldLink RX0 45 "SharedPage$Copy" "looks" "I" ∈ wsX0_makeEmpty := by decide +kernel
  have f48 : Cond.fieldLink RX0 48 "SharedPage$Copy" "looksOfCall" "I" ∈ wsX0_makeEmpty := by decide +kernel
  have f51 : Cond.fieldLink RX0 51 "SharedPage$Copy" "integratedInCall" "I" ∈ wsX0_makeEmpty := by decide +kernel
  have hinX0 : ∀ w ∈ u_ws RX0 TX0 12, w ∈ wsX0_makeEmpty := fun w h => List.mem_cons_of_mem _ (List.mem_append_right _ h)
  have loop2 : ∀ (n : Nat) (p : Int) (M1 : sjM), 0 ≤ p → p ≤ 160 → (160 - p).toNat < n → vS M1 = aE2 (vS M) p → J 31 M1 L [some (.ref (ad 0)), some (.int (iI p))] [] := by
    intro n
    induction n with
    | zero => intro p M1 _ _ h; omega
    | succ n ih =>
      intro p M1 hp0 hp1 hn hv1
      refine g_iload_n (pc := 31) G dX0_makeEmpty_31 rfl ?_
      refine g_sipush (pc := 32) G dX0_makeEmpty_32 rfl ?_
      refine g_icmp_ge (pc := 35) G (by first | assumption | omega) (by first | assumption | omega) 51 dX0_makeEmpty_35 (by decide) (fun h35 => ?_) (fun h35 => ?_)
      · -- 35 t
        refine g_aload_n (pc := 51) G dX0_makeEmpty_51 rfl ?_
        refine g_iconst (pc := 52) G dX0_makeEmpty_52 ?_
        refine g_put (pc := 53) G tyX0 tyX0_ok nmX0 hinX0 oS rfl 5 (by decide) (pS0) f32 rfl rfl rfl dX0_makeEmpty_53 ?_
        refine g_aload_n (pc := 56) G dX0_makeEmpty_56 rfl ?_
        refine g_iconst (pc := 57) G dX0_makeEmpty_57 ?_
        refine g_put (pc := 58) G tyX0 tyX0_ok nmX0 hinX0 oS rfl 6 (by decide) (pS1) f36 rfl rfl rfl dX0_makeEmpty_58 ?_
        refine g_aload_n (pc := 61) G dX0_makeEmpty_61 rfl ?_
        refine g_iconst (pc := 62) G dX0_makeEmpty_62 ?_
        refine g_put (pc := 63) G tyX0 tyX0_ok nmX0 hinX0 oS rfl 7 (by decide) (pS2) f39 rfl rfl rfl dX0_makeEmpty_63 ?_
        refine g_aload_n (pc := 66) G dX0_makeEmpty_66 rfl ?_
        refine g_iconst (pc := 67) G dX0_makeEmpty_67 ?_
        refine g_put (pc := 68) G tyX0 tyX0_ok nmX0 hinX0 oS rfl 8 (by decide) (pS3) f42 rfl rfl rfl dX0_makeEmpty_68 ?_
        refine g_aload_n (pc := 71) G dX0_makeEmpty_71 rfl ?_
        refine g_iconst (pc := 72) G dX0_makeEmpty_72 ?_
        refine g_put (pc := 73) G tyX0 tyX0_ok nmX0 hinX0 oS rfl 9 (by decide) (pS4) f45 rfl rfl rfl dX0_makeEmpty_73 ?_
        refine g_aload_n (pc := 76) G dX0_makeEmpty_76 rfl ?_
        refine g_iconst (pc := 77) G dX0_makeEmpty_77 ?_
        refine g_put (pc := 78) G tyX0 tyX0_ok nmX0 hinX0 oS rfl 10 (by decide) (pS5) f48 rfl rfl rfl dX0_makeEmpty_78 ?_
        refine g_aload_n (pc := 81) G dX0_makeEmpty_81 rfl ?_
        refine g_iconst (pc := 82) G dX0_makeEmpty_82 ?_
        refine g_put (pc := 83) G tyX0 tyX0_ok nmX0 hinX0 oS rfl 11 (by decide) (pS6) f51 rfl rfl rfl dX0_makeEmpty_83 ?_
        refine g_vret (pc := 86) G dX0_makeEmpty_86 ?_
        refine ⟨rfl, ?_⟩
        rw [vS_U _ 0 _ _ (by omega), vS_U _ 0 _ _ (by omega), vS_U _ 0 _ _ (by omega), vS_U _ 0 _ _ (by omega), vS_U _ 0 _ _ (by omega), vS_U _ 0 _ _ (by omega), vS_U _ 0 _ _ (by omega), hv1, show p = 160 by omega]
        rfl
      · -- 35 f
        refine g_aload_n (pc := 38) G dX0_makeEmpty_38 rfl ?_
        refine g_getR (pc := 39) G hinX0 oS rfl 4 (by decide) f26 rfl rfl dX0_makeEmpty_39 ?_
        refine g_iload_n (pc := 42) G dX0_makeEmpty_42 rfl ?_
        refine g_iconst (pc := 43) G dX0_makeEmpty_43 ?_
        refine g_iast (pc := 44) G aS4 (by omega) dX0_makeEmpty_44 ?_
        refine g_mem (fun M2 L2 hM2 hL2 => ?_)
        obtain rfl : L = L2 := hL2.symm
        have hv2 : vS M2 = aE2 (vS M) (p + 1) := by
          rw [hM2, vS_U _ 4 _ _ (by omega), hv1, ← aE2_s (vS M) hp0]
          rfl
        clear hM2
        refine g_iinc (pc := 45) (lv' := [_, _]) G dX0_makeEmpty_45 (by decide) rfl rfl ?_
        refine g_goto (pc := 48) G 31 dX0_makeEmpty_48 (by decide) ?_
        exact ih (p + 1) M2 (by omega) (by omega) (by omega) hv2
  have loop1 : ∀ (n : Nat) (p : Int) (M1 : sjM), 0 ≤ p → p ≤ 60 → (60 - p).toNat < n → vS M1 = aE1 (vS M) p → J 2 M1 L [some (.ref (ad 0)), some (.int (iI p))] [] := by
    intro n
    induction n with
    | zero => intro p M1 _ _ h; omega
    | succ n ih =>
      intro p M1 hp0 hp1 hn hv1
      refine g_iload_n (pc := 2) G dX0_makeEmpty_2 rfl ?_
      refine g_bipush (pc := 3) G dX0_makeEmpty_3 rfl ?_
      refine g_icmp_ge (pc := 5) G (by first | assumption | omega) (by first | assumption | omega) 29 dX0_makeEmpty_5 (by decide) (fun h5 => ?_) (fun h5 => ?_)
      · -- 5 t
        refine g_iconst (pc := 29) G dX0_makeEmpty_29 ?_
        refine g_istore_n (pc := 30) (lv' := [_, _]) G dX0_makeEmpty_30 (by decide) rfl ?_
        exact loop2 161 0 M1 (by omega) (by omega) (by omega) (by rw [hv1, aE2_0, show p = 60 by omega])
      · -- 5 f
        refine g_aload_n (pc := 8) G dX0_makeEmpty_8 rfl ?_
        refine g_getR (pc := 9) G hinX0 oS rfl 2 (by decide) f19 rfl rfl dX0_makeEmpty_9 ?_
        refine g_iload_n (pc := 12) G dX0_makeEmpty_12 rfl ?_
        refine g_bipush (pc := 13) G dX0_makeEmpty_13 rfl ?_
        refine g_iast (pc := 15) G (aS12 2 (by omega) (by omega)) (by omega) dX0_makeEmpty_15 ?_
        refine g_aload_n (pc := 16) G dX0_makeEmpty_16 rfl ?_
        refine g_getR (pc := 17) G hinX0 oS rfl 3 (by decide) f22 rfl rfl dX0_makeEmpty_17 ?_
        refine g_iload_n (pc := 20) G dX0_makeEmpty_20 rfl ?_
        refine g_iconst (pc := 21) G dX0_makeEmpty_21 ?_
        refine g_zast (pc := 22) G aS3 (by omega) rfl dX0_makeEmpty_22 ?_
        refine g_mem (fun M2 L2 hM2 hL2 => ?_)
        obtain rfl : L = L2 := hL2.symm
        have hv2 : vS M2 = aE1 (vS M) (p + 1) := by
          rw [hM2, vS_U _ 3 _ _ (by omega), vS_U _ 2 _ _ (by omega), hv1, ← aE1_s (vS M) hp0]
          rfl
        clear hM2
        refine g_iinc (pc := 23) (lv' := [_, _]) G dX0_makeEmpty_23 (by decide) rfl rfl ?_
        refine g_goto (pc := 26) G 2 dX0_makeEmpty_26 (by decide) ?_
        exact ih (p + 1) M2 (by omega) (by omega) (by omega) hv2
  refine g_iconst (pc := 0) G dX0_makeEmpty_0 ?_
  refine g_istore_n (pc := 1) (lv' := [_, _]) G dX0_makeEmpty_1 (by decide) rfl ?_
  exact loop1 61 0 M (by omega) (by omega) (by omega) (aE1_0 _).symm
theorem D_any {A : Nat → Prop} {N : Nat} {ad : Nat → Nat} {ct g : Nat → va_E} (h : va_D A (sjW N ad ct)) : va_D A (sjW N ad g) := by
  have key : ∀ (k : Nat) (q : Nat × va_E), (sjW N ad g)[k]? = some q → k < N ∧ q.1 = ad k := by
    intro k q hk
    by_cases hn : k < N
    · rw [sjW_get hn] at hk; cases hk; exact ⟨hn, rfl⟩
    · rw [sjW_out hn] at hk; cases hk
  refine ⟨fun i j a b hi hj hab => ?_, fun k q hk => ?_⟩
  · obtain ⟨i1, i2⟩ := key i a hi
    obtain ⟨j1, j2⟩ := key j b hj
    exact h.1 i j _ _ (sjW_get i1) (sjW_get j1) (by show ad i = ad j; rw [← i2, ← j2]; exact hab)
  · obtain ⟨k1, k2⟩ := key k q hk
    rw [k2]
    exact h.2 k _ (sjW_get k1)
theorem sjW_c {N : Nat} {ad : Nat → Nat} {ct g : Nat → va_E} (h : ∀ k, k < N → ct k = g k) : sjW N ad ct = sjW N ad g := by
  unfold sjW
  refine List.map_congr_left (fun k hk => ?_)
  rw [h k (List.mem_range.mp hk)]
/-- a method that makes nothing, called over the whole world -/
theorem nj_callV {p : Program} {l : Launch} {e : Env} {R : Room} {s : State} {m : MethodId} {args : Array Value} {below : List Frame} {meth : Method} {c : Code} {cc : ByteArray} {nL : Nat} {Ts : List Cond} {own : String} {D : va_G} {cI cZ cJ cT cC : ClassId} {A : Nat → Prop} {H0 : Heap} {Q : State → Prop} {pc N : Nat} {ad : Nat → Nat} {ct : Nat → va_E} {cells slots : Nat} {lv : List (Option Value)} {st : List Value} (F : njF p s m args meth c cc nL Ts own D cI cZ cJ cT cC A H0)
    {y : MethodName} {bytes : ByteArray} {maxL n index ci nn : Nat} {ret : Option FieldType} {ws ws' : List Cond} {rm : Room} {C : String} {T : u_T} {fs : sjM → List Value} {As rest : List Value} {post : Option Value → sjM → sjL → Prop} {kt : sjM → sjL → Nat → va_E} {M : sjM} {L : sjL}
    (hM : (∀ g : Nat → va_E, va_D A (sjW N ad g)) → Met l y ws rm (sjA D cI cZ cJ cT cC N ad kt (.ref (ad 0) :: As) M L) (sjZ D N ad kt A post) 0 0 A) (hct : ∀ k, k < N → ct k = kt M L k) (hT : GoodIn Ts (wsV own index C y ws)) (hO : sjO N kt ci 0 fs) (hc : vwCl[ci]? = some (C, T, nn)) (hw : ws = Cond.code y bytes maxL ret :: ws') (hd : y.cls = C ∧ y.cls ≠ "java/lang/invoke/MethodHandle" ∧ y.cls ≠ "java/lang/invoke/VarHandle" ∧ (parseMethodDescriptor y.desc).map (fun d => d.parameters.length) = some n) (hrc : rm.cells = 0) (hrs : rm.slots = 0) (hR : rm.frames + 1 ≤ R.frames ∧ 8 + (maxL + 11) + rm.locals ≤ R.locals) (hcs : cells ≤ R.cells ∧ slots ≤ R.slots) (hn : As.length = n) (hst : st = As.reverse ++ .ref (ad 0) :: rest) (hW : (rest.map fun v => v.category).sum ≤ 8) (hdg : decode cc pc = .ok (.invokevirtual index, 3))
    (kk : ∀ (v : Option Value) (M1 : sjM) (L1 : sjL), post v M1 L1 → nj p l e R s m args below meth c D A H0 nL Q (pc + 3) N ad (kt M1 L1) cells slots lv (v.toList ++ rest)) : nj p l e R s m args below meth c D A H0 nL Q pc N ad ct cells slots lv st := by
  intro H locs ls hP hD hS hl T0 hT0 X
  rw [sjW_c hct] at hP hD
  obtain ⟨hk, hcc⟩ := hO
  have hcell : (sjW N ad (kt M L))[0]? = some (ad 0, .inr (ci, fs M)) := by rw [sjW_get hk, hcc]
  obtain ⟨v, u0, t, T', L2, h0, X', hL, e1, e2, ⟨v', M', L', hv, hpost, hP', hz', hk'⟩, steps⟩ := va_runV (g := F0 m pc ls st) (cells := cells) (slots := slots) (locs := locs) (As := As) (rest := rest) (below := below) (meth := meth) F.1 (hM (fun g => D_any hD)) (cwV n F.1.2.2.2.2 hT hw hrc hrs hd hR) ⟨sjA_blind D cI cZ cJ cT cC N ad kt _ M L, va_recv F.2.1 hP hc hcell, fun U hU hW => ⟨rfl, by rw [hU]; exact hP, va_K.moved hW.alike F.2.1⟩⟩ rfl hn hl.1 hst (lv_room hW) hdg hcs T0 hT0 X
  cases hv
  rw [h0] at hz' hk'
  obtain ⟨t2, a1, b1⟩ := kk v M' L' hpost T'.heap (locs ++ L2) ls (by rw [e1]; exact hP') (D_any hD) ⟨by rw [e1, hz']; exact hS.1, fun q h1 h2 => by rw [e1, hk' q (Nat.lt_of_lt_of_le h1 hS.1) h2]; exact hS.2.1 q h1 h2, fun q hq => by
      rcases List.mem_append.mp hq with h | h
      · exact hS.2.2 q h
      · exact hL q h⟩ hl T' rfl X'
  exact ⟨t2, steps t2 a1, b1⟩
set_option maxHeartbeats 4000000 in
set_option maxRecDepth 100000 in
theorem kX0_init {l : Launch} {D : va_G} {cI cZ cJ cT cC : ClassId} (h0 sz tx : Nat) : Met l yX0_init wsX0_init { frames := 1, cells := 4, slots := 340, locals := 21 } (njA D cI cZ cJ cT cC [.ref h0, .ref tx] h0 (.inr (0, [.null, .null, .null, .null, .null, .int 0, .int 0, .int 0, .int 0, .int 0, .int 0, .int 0])) sz) (njZ D 5 h0 sz (fun ad k => kS cI cZ tx ad emM (fun _ _ => 0) k)) 4 340 (njB h0 sz) := by
  refine nj_met (cc := cX0_init) (maxL := 2) (lv := [_, _]) (by decide) rfl rfl (List.forall_mem_cons.mpr ⟨rfl, List.forall_mem_cons.mpr ⟨rfl, fun _ h => absurd h List.not_mem_nil⟩⟩) (Nat.le_of_ble_eq_true rfl) rfl ?_
  intro p e s m args below meth c hsz F hr hlk
  have f9 : Cond.fieldLink RX0 9 "SharedPage$Copy" "text" "LSharedPage$Text;" ∈ wsX0_init := by decide +kernel
  have f15 : Cond.fieldLink RX0 15 "SharedPage$Copy" "sequence" "[I" ∈ wsX0_init := by decide +kernel
  have f19 : Cond.fieldLink RX0 19 "SharedPage$Copy" "places" "[I" ∈ wsX0_init := by decide +kernel
  have f22 : Cond.fieldLink RX0 22 "SharedPage$Copy" "erased" "[Z" ∈ wsX0_init := by decide +kernel
  have f26 : Cond.fieldLink RX0 26 "SharedPage$Copy" "states" "[I" ∈ wsX0_init := by decide +kernel
  have hin : ∀ w ∈ u_ws RX0 TX0 12, w ∈ wsX0_init := fun w h => List.mem_cons_of_mem _ (List.mem_append_right _ h)
  refine nj_aload_n (pc := 0) F dX0_init_0 rfl ?_
  refine nj_objI (pc := 1) F (by decide +kernel) (by decide +kernel) (List.mem_cons_of_mem _ (by decide +kernel)) (Nat.le_of_ble_eq_true rfl) (Nat.le_of_ble_eq_true rfl) dX0_init_1 ?_
  refine nj_aload_n (pc := 4) F dX0_init_4 rfl ?_
  refine nj_aload_n (pc := 5) F dX0_init_5 rfl ?_
  refine nj_putF (pc := 6) (k := 0) (ci := 0) (fs := [.null, .null, .null, .null, .null, .int 0, .int 0, .int 0, .int 0, .int 0, .int 0, .int 0]) (v := .ref tx) (ty := (.object "SharedPage$Text")) F tyX0 tyX0_ok nmX0 hin (by omega) rfl rfl 0 (by decide) f9 rfl rfl rfl rfl rfl rfl (Nat.le_of_ble_eq_true rfl) dX0_init_6 ?_
  refine nj_aload_n (pc := 9) F dX0_init_9 rfl ?_
  refine nj_bipush (pc := 10) F dX0_init_10 rfl ?_
  refine nj_newI (pc := 12) F 60 (by decide +kernel) (Nat.le_of_ble_eq_true rfl) (Nat.le_of_ble_eq_true rfl) (Nat.le_of_ble_eq_true rfl) dX0_init_12 (fun q1 => ?_)
  refine nj_putF (pc := 14) (k := 0) (ci := 0) (fs := [.ref tx, .null, .null, .null, .null, .int 0, .int 0, .int 0, .int 0, .int 0, .int 0, .int 0]) (v := .ref q1) (ty := (.array .int)) F tyX0 tyX0_ok nmX0 hin (by omega) rfl rfl 1 (by decide) f15 rfl rfl rfl rfl rfl rfl (Nat.le_of_ble_eq_true rfl) dX0_init_14 ?_
  refine nj_aload_n (pc := 17) F dX0_init_17 rfl ?_
  refine nj_bipush (pc := 18) F dX0_init_18 rfl ?_
  refine nj_newI (pc := 20) F 60 (by decide +kernel) (Nat.le_of_ble_eq_true rfl) (Nat.le_of_ble_eq_true rfl) (Nat.le_of_ble_eq_true rfl) dX0_init_20 (fun q2 => ?_)
  refine nj_putF (pc := 22) (k := 0) (ci := 0) (fs := [.ref tx, .ref q1, .null, .null, .null, .int 0, .int 0, .int 0, .int 0, .int 0, .int 0, .int 0]) (v := .ref q2) (ty := (.array .int)) F tyX0 tyX0_ok nmX0 hin (by omega) rfl rfl 2 (by decide) f19 rfl rfl rfl rfl rfl rfl (Nat.le_of_ble_eq_true rfl) dX0_init_22 ?_
  refine nj_aload_n (pc := 25) F dX0_init_25 rfl ?_
  refine nj_bipush (pc := 26) F dX0_init_26 rfl ?_
  refine nj_newZ (pc := 28) F 60 (by decide +kernel) (Nat.le_of_ble_eq_true rfl) (Nat.le_of_ble_eq_true rfl) (Nat.le_of_ble_eq_true rfl) dX0_init_28 (fun q3 => ?_)
  refine nj_putF (pc := 30) (k := 0) (ci := 0) (fs := [.ref tx, .ref q1, .ref q2, .null, .null, .int 0, .int 0, .int 0, .int 0, .int 0, .int 0, .int 0]) (v := .ref q3) (ty := (.array .boolean)) F tyX0 tyX0_ok nmX0 hin (by omega) rfl rfl 3 (by decide) f22 rfl rfl rfl rfl rfl rfl (Nat.le_of_ble_eq_true rfl) dX0_init_30 ?_
  refine nj_aload_n (pc := 33) F dX0_init_33 rfl ?_
  refine nj_sipush (pc := 34) F dX0_init_34 rfl ?_
  refine nj_newI (pc := 37) F 160 (by decide +kernel) (Nat.le_of_ble_eq_true rfl) (Nat.le_of_ble_eq_true rfl) (Nat.le_of_ble_eq_true rfl) dX0_init_37 (fun q4 => ?_)
  refine nj_putF (pc := 39) (k := 0) (ci := 0) (fs := [.ref tx, .ref q1, .ref q2, .ref q3, .null, .int 0, .int 0, .int 0, .int 0, .int 0, .int 0, .int 0]) (v := .ref q4) (ty := (.array .int)) F tyX0 tyX0_ok nmX0 hin (by omega) rfl rfl 4 (by decide) f26 rfl rfl rfl rfl rfl rfl (Nat.le_of_ble_eq_true rfl) dX0_init_39 ?_
  refine nj_aload_n (pc := 42) F dX0_init_42 rfl ?_
  refine nj_callV (pc := 43) (n := 0) (As := []) (kt := kS cI cZ tx _) (M := fun _ _ => 0) (L := fun _ _ => 0) F (fun hD => kX0_makeEmptyS hD tx (fun _ _ => 0) (fun _ _ => 0)) (fun k hk => by
    match k, hk with
    | 0, _ => rfl
    | 1, _ => rfl
    | 2, _ => rfl
    | 3, _ => rfl
    | 4, _ => rfl
    | j + 5, h => omega) gX0_init_X0_makeEmpty oS rfl rfl hdX0_makeEmpty rfl rfl ⟨Nat.le_of_ble_eq_true rfl, Nat.le_of_ble_eq_true rfl⟩ ⟨Nat.le_of_ble_eq_true rfl, Nat.le_of_ble_eq_true rfl⟩ rfl rfl (Nat.le_of_ble_eq_true rfl) dX0_init_43 ?_
  rintro _ M1 L1 ⟨rfl, hv⟩
  refine nj_vret F hr hlk dX0_init_46 rfl rfl (fun k hk => kS_M _ _ (by
    funext z
    have h9 := congrFun (congrFun hv k) z
    rw [← emp_0 k z hk, ← h9]
    unfold vS
    rw [if_pos hk, iI_of]))
