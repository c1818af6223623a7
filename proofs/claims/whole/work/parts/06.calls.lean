section SJO
variable {p : Program} {l : Launch} {e : Env} {R : Room} {s : State} {m : MethodId} {args : Array Value} {below : List Frame} {meth : Method} {c : Code} {cc : ByteArray} {nL : Nat} {Ts : List Cond} {own : String} {D : va_G} {cI cZ cJ cT cC : ClassId} {N : Nat} {ad : Nat → Nat} {ct : sjM → sjL → Nat → va_E} {A : Nat → Prop} {H0 : Heap} {Q : State → Prop} {pc : Nat} {M : sjM} {L : sjL} {lv lv' : List (Option Value)} {st : List Value}
theorem sj_zast (F : sjF p s m args c cc nL Ts own D cI cZ cJ cT cC N ad ct A) {k n : Nat} {z : Int} {x : Int32} (hI : sjI N ct cZ k n) (hz : 0 ≤ z ∧ z < n) (hx : vp_nar .boolean x = x) (hdg : decode cc pc = .ok (.bastore, 1)) (kk : sj p l e R s m args below meth c D N ad ct A H0 nL Q (pc + 1) (sjU M k z x) L lv st) : sj p l e R s m args below meth c D N ad ct A H0 nL Q pc M L lv (.int x :: .int (iI z) :: .ref (ad k) :: st) := by
  obtain ⟨hk, hn, hc⟩ := hI
  intro H locs ls hP hS hsz hl
  have hin := iI_in hz.1 hz.2 hn
  have hcell : (sjW N ad (ct M L))[k]? = some (ad k, .inl (cZ, n, .inl (fun j : Nat => M k (j : Int)))) := by rw [sjW_get hk, hc]
  refine W.zast F.1.1 F.1.2.1 (hP k _ hcell) ((F.2.1.2 1 _ rfl).1 n (fun j => .int (M k (j : Int)))) (fun q => by cases q) (by show ¬ (iI z < 0 ∨ (arrV _ _ _).slots.size ≤ _); rw [arrV_size]; exact hin) rfl rfl hdg fun H1 e z1 oq => ?_
  have hA := (F.2.2.1 (ct M L)).2 k _ hcell
  have hput : (sjW N ad (ct M L)).set k (ad k, .inl (cZ, n, .inl (fun j : Nat => sjU M k z x k (j : Int)))) = sjW N ad (ct (sjU M k z x) L) := sjW_put F hk (fun j hj => sjU_o hj) (fun j _ => rfl) (hc _ _)
  refine kk H1 _ ls ?_ (hS.put z1 oq hA) (z1.trans hsz) hl
  rw [← hput]
  refine hP.set (F.2.2.1 (ct M L)) hcell ?_ oq
  show H1[ad k]? = some (vp_cell _ _)
  rw [e]
  rw [vp_cell_i, vp_cell_i, arrV_store]
  congr 2
  funext q
  have h := iI_cl hz.1 (show z ≤ 5000 by omega)
  by_cases hq : q = (iI z).toNatClampNeg
  · subst hq
    have hx2 : narrow .boolean (.int x) = .int x := by
      have h3 : narrow .boolean (.int x) = .int (vp_nar .boolean x) := by first | rfl | simp [vp_nar, narrow]
      rw [h3, hx]
    simp [updV, sjU, h, hx2]
  · have hq2 : ¬ ((q : Int) = z) := fun w => hq (by omega)
    simp [updV, sjU, hq, hq2]
/-- a field that holds a cell -/
theorem sj_getR (F : sjF p s m args c cc nL Ts own D cI cZ cJ cT cC N ad ct A) {k ci n index a : Nat} {C ref : String} {T : u_T} {fs : sjM → List Value} (hin : ∀ w ∈ u_ws C T n, w ∈ Ts) (hO : sjO N ct ci k fs) (hc : vwCl[ci]? = some (C, T, n)) (j : Nat) (hj : j < n) (hlink : Cond.fieldLink own index ref (T j).2.1 (T j).2.2.1 ∈ Ts) (hsame : (T j).1 = ref) (hv : (fs M)[j]? = some (.ref a)) (hdg : decode cc pc = .ok (.getfield index, 3)) (kk : sj p l e R s m args below meth c D N ad ct A H0 nL Q (pc + 3) M L lv (.ref a :: st)) : sj p l e R s m args below meth c D N ad ct A H0 nL Q pc M L lv (.ref (ad k) :: st) := by
  obtain ⟨hk, hcc⟩ := hO
  intro H locs ls hP hS hsz hl
  exact va_get F.1.1 F.1.2.1 F.1.2.2.2.2 hin F.1.2.2.2.1 F.2.1 hP k (by rw [sjW_get hk, hcc]) hc j hj (F.1.2.2.2.2 _ hlink) (fun x hx => by rw [← hsame]; exact hx) hv hdg (kk H locs ls hP hS hsz hl)
theorem sj_getI (F : sjF p s m args c cc nL Ts own D cI cZ cJ cT cC N ad ct A) {k ci n index : Nat} {x : Int32} {C ref : String} {T : u_T} {fs : sjM → List Value} (hin : ∀ w ∈ u_ws C T n, w ∈ Ts) (hO : sjO N ct ci k fs) (hc : vwCl[ci]? = some (C, T, n)) (j : Nat) (hj : j < n) (hlink : Cond.fieldLink own index ref (T j).2.1 (T j).2.2.1 ∈ Ts) (hsame : (T j).1 = ref) (hv : (fs M)[j]? = some (.int x)) (hdg : decode cc pc = .ok (.getfield index, 3)) (kk : sj p l e R s m args below meth c D N ad ct A H0 nL Q (pc + 3) M L lv (.int (iI x.toInt) :: st)) : sj p l e R s m args below meth c D N ad ct A H0 nL Q pc M L lv (.ref (ad k) :: st) := by
  obtain ⟨hk, hcc⟩ := hO
  rw [iI_of] at kk
  intro H locs ls hP hS hsz hl
  exact va_get F.1.1 F.1.2.1 F.1.2.2.2.2 hin F.1.2.2.2.1 F.2.1 hP k (by rw [sjW_get hk, hcc]) hc j hj (F.1.2.2.2.2 _ hlink) (fun x hx => by rw [← hsame]; exact hx) hv hdg (kk H locs ls hP hS hsz hl)
theorem sj_put (F : sjF p s m args c cc nL Ts own D cI cZ cJ cT cC N ad ct A) {k ci n index : Nat} {z : Int} {x : Int32} {C ref : String} {T : u_T} {fs : sjM → List Value} (ty0 : Nat → FieldType) (hty : ∀ k, k < n → parseFieldDescriptor (T k).2.2.1 = some (ty0 k)) (hnm : ∀ a, a < n → ∀ b, b < n → a ≠ b → (T a).2.1 ≠ (T b).2.1) (hin : ∀ w ∈ u_ws C T n, w ∈ Ts) (hO : sjO N ct ci k fs) (hc : vwCl[ci]? = some (C, T, n)) (j : Nat) (hj : j < n) (hp : sjP k fs j z) (hlink : Cond.fieldLink own index ref (T j).2.1 (T j).2.2.1 ∈ Ts) (hsame : (T j).1 = ref) (hfin : (T j).2.2.2 = false) (hd : parseFieldDescriptor (T j).2.2.1 = some .int) (hdg : decode cc pc = .ok (.putfield index, 3)) (kk : sj p l e R s m args below meth c D N ad ct A H0 nL Q (pc + 3) (sjU M k z x) L lv st) : sj p l e R s m args below meth c D N ad ct A H0 nL Q pc M L lv (.int x :: .ref (ad k) :: st) := by
  obtain ⟨hk, hcc⟩ := hO
  intro H locs ls hP hS hsz hl
  have hcell : (sjW N ad (ct M L))[k]? = some (ad k, .inr (ci, fs M)) := by rw [sjW_get hk, hcc]
  have hll : j < (fs M).length := (List.getElem?_eq_some_iff.mp (hp.1 M)).1
  have hput : (sjW N ad (ct M L)).set k (ad k, .inr (ci, (fs M).set j (.int x))) = sjW N ad (ct (sjU M k z x) L) := sjW_put F hk (fun j hj => sjU_o hj) (fun j _ => rfl) (by rw [hcc, hp.2])
  have hts := F.1.2.2.2.2
  have hK := F.2.1
  have hD := F.2.2.1 (ct M L)
  have hap := va_apart (own := own) hts hin ty0 hty hnm hK hc
  obtain ⟨r, h1, cell, q1, q2, q3, q4⟩ := hP k _ hcell
  have hr : r = (C, T, n) := Option.some.inj (h1.symm.trans hc)
  subst hr
  obtain ⟨hS1, hfc, kC, hkC, hkind⟩ := hK.1 ci _ hc
  obtain ⟨cf, kf, fi, f, hi, hsl⟩ := hS1 j hj
  have hlay := hts _ (hin _ (u_in_lay hj))
  unfold u_lay at hlay
  rw [if_neg (by rw [hfin]; decide)] at hlay
  have hst := (u_facts hfc hkC (u_lays hts hin hj) hi).1
  have h6 := u_store hfc hkC hkind hlay hi hd (v := .int x) rfl rfl
  refine W.putK F.1.1 F.1.2.1 (f := f) ⟨F.1.2.2.2.1, hts _ hlink, ⟨_, _, _, (by rw [← hsame]; exact hi)⟩, hst⟩ (by rw [q2]; exact h6) q1 q3 (by rw [hsl]; exact k2_hasslot (q4 j hj)) rfl rfl hdg fun H' e1 e2 e3 => ?_
  rw [hsl] at e1 ⊢
  refine kk H' _ ls ?_ (hS.put e2 e3 (hD.2 k _ hcell)) (e2.trans hsz) hl
  rw [← hput]
  exact hP.set hD hcell ⟨_, hc, t_OB.to (V := updV (vp_V (fs M)) j (.int x)) ⟨_, e1, q2, q3, t_set q4 hap hj (.int x)⟩ (fun i _ => vp_updV_set hll (.int x) i)⟩ e3
end SJO
/-- a contract's start and end, in the flat memory -/
def sjA (D : va_G) (cI cZ cJ cT cC : ClassId) (N : Nat) (ad : Nat → Nat) (ct : sjM → sjL → Nat → va_E) (av : List Value) (M : sjM) (L : sjL) : Array Value → State → Prop := va_Pc av (fun U => va_P D vwCl (sjW N ad (ct M L)) U.heap ∧ va_K D vwCl (sjT cI cZ cJ cT cC) U)
def sjZ (D : va_G) (N : Nat) (ad : Nat → Nat) (ct : sjM → sjL → Nat → va_E) (A : Nat → Prop) (post : Option Value → sjM → sjL → Prop) : Array Value → State → Outcome → State → Prop := fun _ u o t => ∃ (v : Option Value) (M : sjM) (L : sjL), o = .returned v ∧ post v M L ∧ va_P D vwCl (sjW N ad (ct M L)) t.heap ∧ t.heap.size = u.heap.size ∧ ∀ q : Nat, q < u.heap.size → ¬ A q → t.heap[q]? = u.heap[q]?
theorem sjA_blind (D : va_G) (cI cZ cJ cT cC : ClassId) (N : Nat) (ad : Nat → Nat) (ct : sjM → sjL → Nat → va_E) (av : List Value) (M : sjM) (L : sjL) : FrameBlind (sjA D cI cZ cJ cT cC N ad ct av M L) := fun a U g mk q => ⟨q.1, q.2.1, va_K.moved (u := U) (U := U.calling g mk a) (Vm.Alike.refl U.vm) q.2.2⟩
section SJE
variable {p : Program} {l : Launch} {e : Env} {R : Room} {s : State} {m : MethodId} {args : Array Value} {below : List Frame} {meth : Method} {c : Code} {cc : ByteArray} {nL : Nat} {Ts : List Cond} {own : String} {D : va_G} {cI cZ cJ cT cC : ClassId} {N : Nat} {ad : Nat → Nat} {ct : sjM → sjL → Nat → va_E} {A : Nat → Prop} {H0 : Heap} {Q : State → Prop} {pc : Nat} {M : sjM} {L : sjL} {lv lv' : List (Option Value)} {st : List Value}
theorem sj_call (F : sjF p s m args c cc nL Ts own D cI cZ cJ cT cC N ad ct A) {y : MethodName} {bytes : ByteArray} {maxL n index k ci nn : Nat} {ret : Option FieldType} {ws ws' : List Cond} {rm : Room} {C : String} {T : u_T} {As rest : List Value} {post : Option Value → sjM → sjL → Prop} {fs : sjM → List Value}
    (hM : Met l y ws rm (sjA D cI cZ cJ cT cC N ad ct (.ref (ad k) :: As) M L) (sjZ D N ad ct A post) 0 0 A) (hT : GoodIn Ts (wsV own index C y ws)) (hO : sjO N ct ci k fs) (hc : vwCl[ci]? = some (C, T, nn)) (hw : ws = Cond.code y bytes maxL ret :: ws') (hd : y.cls = C ∧ y.cls ≠ "java/lang/invoke/MethodHandle" ∧ y.cls ≠ "java/lang/invoke/VarHandle" ∧ (parseMethodDescriptor y.desc).map (fun d => d.parameters.length) = some n) (hrc : rm.cells = 0) (hrs : rm.slots = 0) (hR : rm.frames + 1 ≤ R.frames ∧ 8 + (maxL + 11) + rm.locals ≤ R.locals) (hn : As.length = n) (hst : st = As.reverse ++ .ref (ad k) :: rest) (hW : (rest.map fun v => v.category).sum ≤ 8) (hdg : decode cc pc = .ok (.invokevirtual index, 3))
    (kk : ∀ (v : Option Value) (M1 : sjM) (L1 : sjL), post v M1 L1 → sj p l e R s m args below meth c D N ad ct A H0 nL Q (pc + 3) M1 L1 lv (v.toList ++ rest)) : sj p l e R s m args below meth c D N ad ct A H0 nL Q pc M L lv st := by
  intro H locs ls hP hS hsz hl T0 hT0 X
  obtain ⟨hk, hcc⟩ := hO
  have hcell : (sjW N ad (ct M L))[k]? = some (ad k, .inr (ci, fs M)) := by rw [sjW_get hk, hcc]
  obtain ⟨v, u0, t, T', L2, h0, X', hL, e1, e2, ⟨v', M', L', hv, hpost, hP', hz', hk'⟩, steps⟩ := va_runV (g := F0 m pc ls st) (cells := 0) (slots := 0) (locs := locs) (As := As) (rest := rest) (below := below) (meth := meth) F.1 hM (cwV n F.1.2.2.2.2 hT hw hrc hrs hd hR) ⟨sjA_blind D cI cZ cJ cT cC N ad ct _ M L, va_recv F.2.1 hP hc hcell, fun U hU hW => ⟨rfl, by rw [hU]; exact hP, va_K.moved hW.alike F.2.1⟩⟩ rfl hn hl.1 hst (lv_room hW) hdg ⟨Nat.zero_le _, Nat.zero_le _⟩ T0 hT0 X
  cases hv
  rw [h0] at hz' hk'
  obtain ⟨t2, a1, b1⟩ := kk v M' L' hpost T'.heap (locs ++ L2) ls (by rw [e1]; exact hP') ⟨by rw [e1, hz']; exact hS.1, fun q h1 h2 => by rw [e1, hk' q (Nat.lt_of_lt_of_le h1 hS.1) h2]; exact hS.2.1 q h1 h2, fun q hq => by
      rcases List.mem_append.mp hq with h | h
      · exact hS.2.2 q h
      · exact hL q h⟩ (by rw [e1, hz', hsz]) hl T' rfl X'
  exact ⟨t2, steps t2 a1, b1⟩
theorem sj_min (F : sjF p s m args c cc nL Ts own D cI cZ cJ cT cC N ad ct A) {index : Nat} {a b : Int} (ha : rng a) (hb : rng b) (hlink : Cond.methodLink own index Lib.Math.min.name ∈ Ts) (hstat : Cond.static Lib.Math.min.name ∈ Ts) (hini : Cond.initialized "java/lang/Math" ∈ Ts) (hcode : Cond.code Lib.Math.min.name Lib.Math.min.code 2 (some .int) ∈ Ts) (hframes : 1 ≤ R.frames) (hlocals : (st.map fun v => v.category).sum + 13 ≤ R.locals) (hdg : decode cc pc = .ok (.invokestatic index, 3))
    (kk : sj p l e R s m args below meth c D N ad ct A H0 nL Q (pc + 3) M L lv (.int (iI (if b < a then b else a)) :: st)) : sj p l e R s m args below meth c D N ad ct A H0 nL Q pc M L lv (.int (iI b) :: .int (iI a) :: st) := by
  intro H locs ls hP hS hsz hl
  refine va_mmin F.1.1 F.1.2.1 (by rw [F.1.2.2.1, hl.1]) F.1.2.2.2.1 (F.1.2.2.2.2 _ hlink) (F.1.2.2.2.2 _ hstat) (F.1.2.2.2.2 _ hini) (F.1.2.2.2.2 _ hcode) hframes hlocals (Nat.zero_le _) (Nat.zero_le _) hdg ?_
  have h : (if iI b < iI a then iI b else iI a) = iI (if b < a then b else a) := by
    by_cases q : b < a
    · rw [if_pos q, if_pos ((iI_lt hb ha).mpr q)]
    · rw [if_neg q, if_neg (fun w => q ((iI_lt hb ha).mp w))]
  rw [h]
  exact kk H locs ls hP hS hsz hl
theorem sj_iret (F : sjF p s m args c cc nL Ts own D cI cZ cJ cT cC N ad ct A) {x : Int32} {post : Option Value → sjM → sjL → Prop} (hr : meth.sig.returnType = some .int) (hlocks : meth.locks = false) (hdg : decode cc pc = .ok (.ireturn, 1)) (h : post (some (.int x)) M L) : sj p l e R s m args below meth c D N ad ct A s.heap nL (MQ below (sjZ D N ad ct A post) args s 0 0 A) pc M L lv [.int x] :=
  fun H locs ls hP hS hsz hl => W.iret F.1.1 F.1.2.1 hr (fun t ht hW => ⟨_, M, L, rfl, h, by rw [ht]; exact hP, by rw [ht, hsz], fun q h1 h2 => by rw [ht]; exact hS.2.1 q h1 h2⟩) hS.2.2 hdg hlocks
theorem sj_zret (F : sjF p s m args c cc nL Ts own D cI cZ cJ cT cC N ad ct A) {x : Int32} {post : Option Value → sjM → sjL → Prop} (hr : meth.sig.returnType = some .boolean) (hx : vp_nar .boolean x = x) (hlocks : meth.locks = false) (hdg : decode cc pc = .ok (.ireturn, 1)) (h : post (some (.int x)) M L) : sj p l e R s m args below meth c D N ad ct A s.heap nL (MQ below (sjZ D N ad ct A post) args s 0 0 A) pc M L lv [.int x] :=
  fun H locs ls hP hS hsz hl => W.zret F.1.1 F.1.2.1 hr (by
      have h3 : narrow .boolean (.int x) = .int (vp_nar .boolean x) := by first | rfl | simp [vp_nar, narrow]
      rw [h3, hx]) (fun t ht hW => ⟨_, M, L, rfl, h, by rw [ht]; exact hP, by rw [ht, hsz], fun q h1 h2 => by rw [ht]; exact hS.2.1 q h1 h2⟩) hS.2.2 hdg hlocks
theorem sj_lret (F : sjF p s m args c cc nL Ts own D cI cZ cJ cT cC N ad ct A) {x : Int64} {post : Option Value → sjM → sjL → Prop} (hr : meth.sig.returnType = some .long) (hlocks : meth.locks = false) (hdg : decode cc pc = .ok (.lreturn, 1)) (h : post (some (.long x)) M L) : sj p l e R s m args below meth c D N ad ct A s.heap nL (MQ below (sjZ D N ad ct A post) args s 0 0 A) pc M L lv [.long x] :=
  fun H locs ls hP hS hsz hl => W.lret F.1.1 F.1.2.1 hr (fun t ht hW => ⟨_, M, L, rfl, h, by rw [ht]; exact hP, by rw [ht, hsz], fun q h1 h2 => by rw [ht]; exact hS.2.1 q h1 h2⟩) hS.2.2 hdg hlocks
theorem sj_vret (F : sjF p s m args c cc nL Ts own D cI cZ cJ cT cC N ad ct A) {post : Option Value → sjM → sjL → Prop} (hr : meth.sig.returnType = none) (hlocks : meth.locks = false) (hdg : decode cc pc = .ok (.return_, 1)) (h : post none M L) : sj p l e R s m args below meth c D N ad ct A s.heap nL (MQ below (sjZ D N ad ct A post) args s 0 0 A) pc M L lv [] :=
  fun H locs ls hP hS hsz hl => W.vret F.1.1 F.1.2.1 hr (fun t ht hW => ⟨_, M, L, rfl, h, by rw [ht]; exact hP, by rw [ht, hsz], fun q h1 h2 => by rw [ht]; exact hS.2.1 q h1 h2⟩) hS.2.2 hdg hlocks
theorem sj_aret (F : sjF p s m args c cc nL Ts own D cI cZ cJ cT cC N ad ct A) {v : Value} {rt : FieldType} {post : Option Value → sjM → sjL → Prop} (hr : meth.sig.returnType = some rt) (hrt : (∃ n, rt = .object n) ∨ ∃ t, rt = .array t) (hv : v = .null ∨ ∃ a, v = .ref a) (hlocks : meth.locks = false) (hdg : decode cc pc = .ok (.areturn, 1)) (h : post (some v) M L) : sj p l e R s m args below meth c D N ad ct A s.heap nL (MQ below (sjZ D N ad ct A post) args s 0 0 A) pc M L lv [v] :=
  fun H locs ls hP hS hsz hl => W.aret F.1.1 F.1.2.1 hr hrt hv (fun t ht hW => ⟨_, M, L, rfl, h, by rw [ht]; exact hP, by rw [ht, hsz], fun q h1 h2 => by rw [ht]; exact hS.2.1 q h1 h2⟩) hS.2.2 hdg hlocks
theorem lv_args1 : ∀ (av : List Value) (o : Nat), (∀ v ∈ av, v.category = 1) → ∀ (i : Nat) (v : Value), av[i]? = some v → (o + i, v) ∈ lv_args o av
  | [], _, _, i, v, h => by simp at h
  | w :: av, o, hc, 0, v, h => by
    simp at h
    subst h
    simp [lv_args]
  | w :: av, o, hc, i + 1, v, h => by
    simp only [List.getElem?_cons_succ] at h
    have hw : ¬ w.category = 2 := by rw [hc w List.mem_cons_self]; decide
    simp only [lv_args, if_neg hw]
    refine List.mem_cons_of_mem _ ?_
    have := lv_args1 av (o + 1) (fun v hv => hc v (List.mem_cons_of_mem _ hv)) i v h
    rw [show o + (i + 1) = o + 1 + i by omega]
    exact this
theorem sj_met {y : MethodName} {ws ws' : List Cond} {rm : Room} {maxL : Nat} {ret : Option FieldType} {av : List Value} {post : Option Value → sjM → sjL → Prop} (hy : plainName y.cls = true) (hw : ws = Cond.code y cc maxL ret :: ws') (hD : ∀ g : Nat → va_E, va_D A (sjW N ad g)) (hloc : ∀ (M M' : sjM) (L L' : sjL) (k : Nat), M k = M' k → L k = L' k → ct M L k = ct M' L' k)
    (hav : ∀ v ∈ av, v.category = 1) (hlen : (lg_sl av).length ≤ maxL) (hlv : av.map some ++ List.replicate (maxL - av.length) none = lv)
    (body : ∀ (p : Program) (e : Env) (s : State) (m : MethodId) (args : Array Value) (below : List Frame) (meth : Method) (c : Code), sjF p s m args c cc maxL ws y.cls D cI cZ cJ cT cC N ad ct A → meth.sig.returnType = ret → meth.locks = false → sj p l e (headSpec ws rm).room s m args below meth c D N ad ct A s.heap maxL (MQ below (sjZ D N ad ct A post) args s 0 0 A) 0 M L lv []) : Met l y ws rm (sjA D cI cZ cJ cT cC N ad ct av M L) (sjZ D N ad ct A post) 0 0 A := by
  refine Met.ofW (cc := cc) (maxL := maxL) (ret := ret) hy hw ?_
  intro p e s m args below meth c s₁ B hml hv
  obtain ⟨rfl, hP, hK⟩ := hv
  have hl := lv_entry av (n := maxL) hlen
  rw [lg_entry_eq]
  refine body p e s m _ below meth c ⟨⟨B.exec, B.bytes, hml, findClass_of_methodNamed B.named, atoms_spec (ws := ws) B.pre⟩, hK, hD, hloc⟩ B.returns B.notSynchronized s.heap [] _ hP va_S.rf rfl ⟨hl.1, hl.2.1, fun i v hi => ?_⟩
  rw [← hlv] at hi
  by_cases hlt : i < av.length
  · rw [List.getElem?_append_left (by simpa using hlt), List.getElem?_map] at hi
    have hi2 : av[i]? = some v := by
      cases hq : av[i]? with
      | none => rw [hq] at hi; cases hi
      | some w => rw [hq] at hi; cases hi; rfl
    have h9 := lv_args1 av 0 hav i v hi2
    rw [Nat.zero_add] at h9
    exact hl.2.2 (i, v) h9
  · rw [List.getElem?_append_right (by simp; omega), List.getElem?_replicate] at hi
    split at hi <;> cases hi
end SJE
