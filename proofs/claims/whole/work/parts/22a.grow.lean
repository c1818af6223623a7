/-! worlds that grow: the constructors -/
def adU (ad : Nat → Nat) (k q : Nat) : Nat → Nat := fun j => if j = k then q else ad j
def ctU (ct : Nat → va_E) (k : Nat) (e : va_E) : Nat → va_E := fun j => if j = k then e else ct j
theorem sjW_push {N q : Nat} {ad : Nat → Nat} {ct : Nat → va_E} {e : va_E} : sjW N ad ct ++ [(q, e)] = sjW (N + 1) (adU ad N q) (ctU ct N e) := by
  unfold sjW
  rw [List.range_succ, List.map_append]
  congr 1
  · refine List.map_congr_left (fun k hk => ?_)
    have hk2 : ¬ k = N := by rw [List.mem_range] at hk; omega
    unfold adU ctU
    rw [if_neg hk2, if_neg hk2]
  · show [(q, e)] = [(adU ad N q N, ctU ct N e N)]
    unfold adU ctU
    rw [if_pos rfl, if_pos rfl]
theorem sjW_setU {N k : Nat} {ad : Nat → Nat} {ct : Nat → va_E} {e : va_E} (hk : k < N) : (sjW N ad ct).set k (ad k, e) = sjW N ad (ctU ct k e) :=
  sjW_set hk (by unfold ctU; rw [if_pos rfl]) (fun j hj => by unfold ctU; rw [if_neg hj])
def njF (p : Program) (s : State) (m : MethodId) (args : Array Value) (meth : Method) (c : Code) (cc : ByteArray) (nL : Nat) (Ts : List Cond) (own : String) (D : va_G) (cI cZ cJ cT cC : ClassId) (A : Nat → Prop) (H0 : Heap) : Prop :=
  CallFix p m c cc nL s args Ts own ∧ va_K D vwCl (sjT cI cZ cJ cT cC) s ∧ (∀ q, H0.size ≤ q → A q) ∧ (va_AO "SharedPage$Text" s ∧ va_AO "SharedPage$Copy" s) ∧ meth.name = "<init>"
def nj (p : Program) (l : Launch) (e : Env) (R : Room) (s : State) (m : MethodId) (args : Array Value) (below : List Frame) (meth : Method) (c : Code) (D : va_G) (A : Nat → Prop) (H0 : Heap) (nL : Nat) (Q : State → Prop) (pc N : Nat) (ad : Nat → Nat) (ct : Nat → va_E) (cells slots : Nat) (lv : List (Option Value)) (st : List Value) : Prop :=
  ∀ (H : Heap) (locs : List Loc) (ls : Array Slot), va_P D vwCl (sjW N ad ct) H → va_D A (sjW N ad ct) → va_S A H0 H locs → sjH ls nL lv → W p l e R s m args below meth c H locs cells slots Q (F0 m pc ls st)
section NJ
variable {p : Program} {l : Launch} {e : Env} {R : Room} {s : State} {m : MethodId} {args : Array Value} {below : List Frame} {meth : Method} {c : Code} {cc : ByteArray} {nL : Nat} {Ts : List Cond} {own : String} {D : va_G} {cI cZ cJ cT cC : ClassId} {A : Nat → Prop} {H0 : Heap} {Q : State → Prop} {pc N : Nat} {ad : Nat → Nat} {ct : Nat → va_E} {cells slots : Nat} {lv lv' : List (Option Value)} {st : List Value}
theorem nj_iconst (F : njF p s m args meth c cc nL Ts own D cI cZ cJ cT cC A H0) {n : Int} (hdg : decode cc pc = .ok (.iconst n, 1)) (k : nj p l e R s m args below meth c D A H0 nL Q (pc + 1) N ad ct cells slots lv (.int (iI n) :: st)) : nj p l e R s m args below meth c D A H0 nL Q pc N ad ct cells slots lv st :=
  fun H locs ls hP hD hS hl => lv_iconst F.1.1 F.1.2.1 hdg rfl (k H locs ls hP hD hS hl)
theorem nj_bipush (F : njF p s m args meth c cc nL Ts own D cI cZ cJ cT cC A H0) {n : Int} (hdg : decode cc pc = .ok (.bipush n, 2)) (hv : (Int8.ofInt n).toInt32 = iI n) (k : nj p l e R s m args below meth c D A H0 nL Q (pc + 2) N ad ct cells slots lv (.int (iI n) :: st)) : nj p l e R s m args below meth c D A H0 nL Q pc N ad ct cells slots lv st :=
  fun H locs ls hP hD hS hl => lv_bipush F.1.1 F.1.2.1 hdg hv (k H locs ls hP hD hS hl)
theorem nj_sipush (F : njF p s m args meth c cc nL Ts own D cI cZ cJ cT cC A H0) {n : Int} (hdg : decode cc pc = .ok (.sipush n, 3)) (hv : (Int16.ofInt n).toInt32 = iI n) (k : nj p l e R s m args below meth c D A H0 nL Q (pc + 3) N ad ct cells slots lv (.int (iI n) :: st)) : nj p l e R s m args below meth c D A H0 nL Q pc N ad ct cells slots lv st :=
  fun H locs ls hP hD hS hl => lv_sipush F.1.1 F.1.2.1 hdg hv (k H locs ls hP hD hS hl)
theorem nj_iload_n (F : njF p s m args meth c cc nL Ts own D cI cZ cJ cT cC A H0) {i : Fin 4} {x : Int32} (hdg : decode cc pc = .ok (.iload_n i, 1)) (hv : lv[(i : Nat)]? = some (some (.int x))) (k : nj p l e R s m args below meth c D A H0 nL Q (pc + 1) N ad ct cells slots lv (.int x :: st)) : nj p l e R s m args below meth c D A H0 nL Q pc N ad ct cells slots lv st :=
  fun H locs ls hP hD hS hl => lv_iload_n F.1.1 F.1.2.1 hdg rfl (hl.2.2 _ _ hv) (k H locs ls hP hD hS hl)
theorem nj_aload_n (F : njF p s m args meth c cc nL Ts own D cI cZ cJ cT cC A H0) {i : Fin 4} {x : Nat} (hdg : decode cc pc = .ok (.aload_n i, 1)) (hv : lv[(i : Nat)]? = some (some (.ref x))) (k : nj p l e R s m args below meth c D A H0 nL Q (pc + 1) N ad ct cells slots lv (.ref x :: st)) : nj p l e R s m args below meth c D A H0 nL Q pc N ad ct cells slots lv st :=
  fun H locs ls hP hD hS hl => lv_aload_n F.1.1 F.1.2.1 hdg rfl (hl.2.2 _ _ hv) (k H locs ls hP hD hS hl)
/-- Object's own constructor -/
theorem nj_objI (F : njF p s m args meth c cc nL Ts own D cI cZ cJ cT cC A H0) {idx a : Nat} (h1 : Cond.methodLink own idx Lib.objectInit ∈ Ts) (h2 : Cond.instanceMethod Lib.objectInit ∈ Ts) (h3 : Cond.code Lib.objectInit ⟨#[0xb1]⟩ 1 none ∈ Ts) (hfr : 1 ≤ R.frames) (hlo : (st.map fun v => v.category).sum + 12 ≤ R.locals) (hdg : decode cc pc = .ok (.invokespecial idx, 3)) (k : nj p l e R s m args below meth c D A H0 nL Q (pc + 3) N ad ct cells slots lv st) : nj p l e R s m args below meth c D A H0 nL Q pc N ad ct cells slots lv (.ref a :: st) := by
  intro H locs ls hP hD hS hl
  refine W.objInit F.1.1 F.1.2.1 F.1.2.2.2.1 (F.1.2.2.2.2 _ h1) (F.1.2.2.2.2 _ h2) (F.1.2.2.2.2 _ h3) (g := F0 m pc ls (.ref a :: st)) rfl (by rw [F.1.2.2.1]; exact hl.1) rfl hdg hfr (by show 2 * 0 + _ + 12 ≤ _; omega) ?_
  exact W.eq (g2 := F0 m (pc + 3) ls st) rfl (k H locs ls hP hD hS hl)
/-- a row of ints, of booleans or of longs -/
theorem nj_newa (F : njF p s m args meth c cc nL Ts own D cI cZ cJ cT cC A H0) {atype : ArrayType} {ty : FieldType} {t0 : Nat} {cX : ClassId} {f0 : vp_A} {n : Int} (hty : newarray.typeOf atype = ty) (ht : (sjT cI cZ cJ cT cC)[t0]? = some (cX, ty)) (hra : ∀ cA, va_RA s cA ty → s.vm.findClass ("[" ++ ty.toString) = some cA) (harr : Cond.arrayClass ty ∈ Ts) (ha : ∀ cA : ClassId, vp_cell cA f0 = arrV cA n.toNat (fun _ => defaultValue ty)) (hn : 0 ≤ n ∧ n ≤ 5000) (hby : componentBytes ty ≤ 8) (hcells : cells + 1 ≤ R.cells) (hslots : slots + n.toNat ≤ R.slots) (hdg : decode cc pc = .ok (.newarray atype, 2))
    (k : ∀ q : Nat, nj p l e R s m args below meth c D A H0 nL Q (pc + 2) (N + 1) (adU ad N q) (ctU ct N (.inl (cX, f0))) (cells + 1) (slots + n.toNat) lv (.ref q :: st)) : nj p l e R s m args below meth c D A H0 nL Q pc N ad ct cells slots lv (.int (iI n) :: st) := by
  intro H locs ls hP hD hS hl
  have hcl : (iI n).toNatClampNeg = n.toNat := by have := iI_cl hn.1 hn.2; omega
  have hnn : ¬ iI n < 0 := by rw [iI_0, iI_lt ⟨by omega, by omega⟩ ⟨by omega, by omega⟩]; omega
  refine va_newa (a0 := f0) (N' := n.toNat) F.1.1 F.1.2.1 (by rw [hty]; exact F.1.2.2.2.2 _ harr) hty F.2.1 hP hD hS F.2.2.1 ha hnn hcl (by have := Nat.mul_le_mul (show n.toNat ≤ 5000 by omega) hby; omega) hcells hslots hdg (fun q cA H1 hK1 hP1 hD1 hS1 => ?_)
  have h1 := hra cA (hK1.2 5 (cA, ty) rfl).2
  have h2 := hra cX (F.2.1.2 t0 _ ht).2
  have he : cA = cX := Option.some.inj (h1.symm.trans h2)
  subst he
  rw [sjW_push] at hP1 hD1
  exact k q H1 locs ls hP1 hD1 hS1 hl
/-- a final field of the object in cell k -/
theorem nj_putF (F : njF p s m args meth c cc nL Ts own D cI cZ cJ cT cC A H0) {k ci n index : Nat} {C ref : String} {T : u_T} {fs : List Value} {v : Value} {ty : FieldType} (ty0 : Nat → FieldType) (hty : ∀ k, k < n → parseFieldDescriptor (T k).2.2.1 = some (ty0 k)) (hnm : ∀ a, a < n → ∀ b, b < n → a ≠ b → (T a).2.1 ≠ (T b).2.1) (hin : ∀ w ∈ u_ws C T n, w ∈ Ts) (hk : k < N) (hO : ct k = .inr (ci, fs)) (hc : vwCl[ci]? = some (C, T, n)) (j : Nat) (hj : j < n) (hlink : Cond.fieldLink own index ref (T j).2.1 (T j).2.2.1 ∈ Ts) (hsame : (T j).1 = ref) (hfin : (T j).2.2.2 = true) (hdecl : (T j).1 = own) (hd : parseFieldDescriptor (T j).2.2.1 = some ty) (hnar : narrow ty v = v) (hfit : fits ty v = true) (hll : j < fs.length) (hdg : decode cc pc = .ok (.putfield index, 3))
    (kk : nj p l e R s m args below meth c D A H0 nL Q (pc + 3) N ad (ctU ct k (.inr (ci, fs.set j v))) cells slots lv st) : nj p l e R s m args below meth c D A H0 nL Q pc N ad ct cells slots lv (v :: .ref (ad k) :: st) := by
  intro H locs ls hP hD hS hl
  refine va_putF F.1.1 F.1.2.1 F.1.2.2.2.2 hin ty0 hty hnm F.1.2.2.2.1 F.2.1 hP hD hS k (by rw [sjW_get hk, hO]) hc j hj (F.1.2.2.2.2 _ hlink) (fun x hx => by rw [← hsame]; exact hx) hfin F.2.2.2.2 hdecl hd hnar hfit hll hdg (fun H1 locs1 hP1 hD1 hS1 => ?_)
  rw [sjW_setU hk] at hP1 hD1
  exact kk H1 locs1 ls hP1 hD1 hS1 hl
/-- a field that isn't final -/
theorem nj_put (F : njF p s m args meth c cc nL Ts own D cI cZ cJ cT cC A H0) {k ci n index : Nat} {C ref : String} {T : u_T} {fs : List Value} {v : Value} {ty : FieldType} (ty0 : Nat → FieldType) (hty : ∀ k, k < n → parseFieldDescriptor (T k).2.2.1 = some (ty0 k)) (hnm : ∀ a, a < n → ∀ b, b < n → a ≠ b → (T a).2.1 ≠ (T b).2.1) (hin : ∀ w ∈ u_ws C T n, w ∈ Ts) (hk : k < N) (hO : ct k = .inr (ci, fs)) (hc : vwCl[ci]? = some (C, T, n)) (j : Nat) (hj : j < n) (hlink : Cond.fieldLink own index ref (T j).2.1 (T j).2.2.1 ∈ Ts) (hsame : (T j).1 = ref) (hfin : (T j).2.2.2 = false) (hd : parseFieldDescriptor (T j).2.2.1 = some ty) (hnar : narrow ty v = v) (hfit : fits ty v = true) (hll : j < fs.length) (hdg : decode cc pc = .ok (.putfield index, 3))
    (kk : nj p l e R s m args below meth c D A H0 nL Q (pc + 3) N ad (ctU ct k (.inr (ci, fs.set j v))) cells slots lv st) : nj p l e R s m args below meth c D A H0 nL Q pc N ad ct cells slots lv (v :: .ref (ad k) :: st) := by
  intro H locs ls hP hD hS hl
  refine va_put F.1.1 F.1.2.1 F.1.2.2.2.2 hin ty0 hty hnm F.1.2.2.2.1 F.2.1 hP hD hS k (by rw [sjW_get hk, hO]) hc j hj (F.1.2.2.2.2 _ hlink) (fun x hx => by rw [← hsame]; exact hx) hfin hd hnar hfit hll hdg (fun H1 locs1 hP1 hD1 hS1 => ?_)
  rw [sjW_setU hk] at hP1 hD1
  exact kk H1 locs1 ls hP1 hD1 hS1 hl
end NJ
/-- a constructor's start and end -/
def njA (D : va_G) (cI cZ cJ cT cC : ClassId) (av : List Value) (h0 : Nat) (e0 : va_E) (sz : Nat) : Array Value → State → Prop := va_Pc av (fun U => (U.heap.size = sz ∧ h0 < sz ∧ va_P D vwCl [(h0, e0)] U.heap) ∧ va_K D vwCl (sjT cI cZ cJ cT cC) U ∧ va_AO "SharedPage$Text" U ∧ va_AO "SharedPage$Copy" U)
def njB (h0 sz : Nat) : Nat → Prop := fun q => q = h0 ∨ sz ≤ q
def njZ (D : va_G) (n h0 sz : Nat) (ct : (Nat → Nat) → Nat → va_E) : Array Value → State → Outcome → State → Prop := fun _ u o t => o = .returned none ∧ ∃ ad : Nat → Nat, ad 0 = h0 ∧ va_P D vwCl (sjW n ad (ct ad)) t.heap ∧ va_D (njB h0 sz) (sjW n ad (ct ad)) ∧ u.heap.size ≤ t.heap.size ∧ ∀ q : Nat, q < u.heap.size → ¬ njB h0 sz q → t.heap[q]? = u.heap[q]?
theorem njA_blind (D : va_G) (cI cZ cJ cT cC : ClassId) (av : List Value) (h0 : Nat) (e0 : va_E) (sz : Nat) : FrameBlind (njA D cI cZ cJ cT cC av h0 e0 sz) := fun a U g mk q => ⟨q.1, q.2.1, va_K.moved (u := U) (U := U.calling g mk a) (Vm.Alike.refl U.vm) q.2.2.1, va_AO.moved (u := U) (U := U.calling g mk a) (Vm.Alike.refl U.vm) q.2.2.2.1, va_AO.moved (u := U) (U := U.calling g mk a) (Vm.Alike.refl U.vm) q.2.2.2.2⟩
theorem nj_met {l : Launch} {D : va_G} {cI cZ cJ cT cC : ClassId} {cc : ByteArray} {y : MethodName} {ws ws' : List Cond} {rm : Room} {maxL mc ms n h0 sz : Nat} {e0 : va_E} {av : List Value} {lv : List (Option Value)} {ct : (Nat → Nat) → Nat → va_E} (hy : plainName y.cls = true) (hyn : y.name = "<init>") (hw : ws = Cond.code y cc maxL none :: ws')
    (hav : ∀ v ∈ av, v.category = 1) (hlen : (lg_sl av).length ≤ maxL) (hlv : av.map some ++ List.replicate (maxL - av.length) none = lv)
    (body : ∀ (p : Program) (e : Env) (s : State) (m : MethodId) (args : Array Value) (below : List Frame) (meth : Method) (c : Code), s.heap.size = sz → njF p s m args meth c cc maxL ws y.cls D cI cZ cJ cT cC (njB h0 sz) s.heap → meth.sig.returnType = none → meth.locks = false → nj p l e (headSpec ws rm).room s m args below meth c D (njB h0 sz) s.heap maxL (MQ below (njZ D n h0 sz ct) args s mc ms (njB h0 sz)) 0 1 (fun _ => h0) (fun _ => e0) 0 0 lv []) : Met l y ws rm (njA D cI cZ cJ cT cC av h0 e0 sz) (njZ D n h0 sz ct) mc ms (njB h0 sz) := by
  refine Met.ofW (cc := cc) (maxL := maxL) (ret := none) hy hw ?_
  intro p e s m args below meth c s₁ B hml hv
  obtain ⟨rfl, ⟨hsz, hlt, hP⟩, hK, hO1, hO2⟩ := hv
  have hin : meth.name = "<init>" := (name_of_methodNamed B.named B.method).1.trans hyn
  have hl := lv_entry av (n := maxL) hlen
  rw [lg_entry_eq]
  refine body p e s m _ below meth c hsz ⟨⟨B.exec, B.bytes, hml, findClass_of_methodNamed B.named, atoms_spec (ws := ws) B.pre⟩, hK, fun q hq => Or.inr (by omega), ⟨hO1, hO2⟩, hin⟩ B.returns B.notSynchronized s.heap [] _ hP ⟨fun i j a b hi hj _ => ?_, fun k q hk => ?_⟩ va_S.rf ⟨hl.1, hl.2.1, fun i v hi => ?_⟩
  · have h1 := (List.getElem?_eq_some_iff.mp hi).1
    have h2 := (List.getElem?_eq_some_iff.mp hj).1
    simp [sjW] at h1 h2
    omega
  · have h1 := (List.getElem?_eq_some_iff.mp hk).1
    simp [sjW] at h1
    subst h1
    have h2 : q = (h0, e0) := by
      have h3 : (sjW 1 (fun _ => h0) (fun _ => e0))[0]? = some (h0, e0) := rfl
      rw [h3] at hk
      exact (Option.some.inj hk).symm
    rw [h2]
    exact Or.inl rfl
  · rw [← hlv] at hi
    by_cases hlt2 : i < av.length
    · rw [List.getElem?_append_left (by simpa using hlt2), List.getElem?_map] at hi
      have hi2 : av[i]? = some v := by
        cases hq : av[i]? with
        | none => rw [hq] at hi; cases hi
        | some w => rw [hq] at hi; cases hi; rfl
      have h9 := lv_args1 av 0 hav i v hi2
      rw [Nat.zero_add] at h9
      exact hl.2.2 (i, v) h9
    · rw [List.getElem?_append_right (by simp; omega), List.getElem?_replicate] at hi
      split at hi <;> cases hi
theorem nj_vret {p : Program} {l : Launch} {e : Env} {R : Room} {s : State} {m : MethodId} {args : Array Value} {below : List Frame} {meth : Method} {c : Code} {cc : ByteArray} {nL : Nat} {Ts : List Cond} {own : String} {D : va_G} {cI cZ cJ cT cC : ClassId} {pc N n h0 sz cells slots : Nat} {ad : Nat → Nat} {ct : Nat → va_E} {lv : List (Option Value)} {cf : (Nat → Nat) → Nat → va_E} (F : njF p s m args meth c cc nL Ts own D cI cZ cJ cT cC (njB h0 sz) s.heap) (hr : meth.sig.returnType = none) (hlocks : meth.locks = false) (hdg : decode cc pc = .ok (.return_, 1)) (h0a : ad 0 = h0) (hn : N = n) (hct : ∀ k, k < n → ct k = cf ad k) : nj p l e R s m args below meth c D (njB h0 sz) s.heap nL (MQ below (njZ D n h0 sz cf) args s cells slots (njB h0 sz)) pc N ad ct cells slots lv [] := by
  intro H locs ls hP hD hS hl
  have hw : sjW N ad ct = sjW n ad (cf ad) := by
    rw [hn]
    unfold sjW
    refine List.map_congr_left (fun k hk => ?_)
    rw [hct k (List.mem_range.mp hk)]
  rw [hw] at hP hD
  exact W.vret F.1.1 F.1.2.1 hr (fun t ht hW => ⟨rfl, ad, h0a, by rw [ht]; exact hP, hD, by rw [ht]; exact hS.1, fun q h1 h2 => by rw [ht]; exact hS.2.1 q h1 h2⟩) hS.2.2 hdg hlocks
