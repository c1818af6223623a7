/-! objects and rows of objects; constructors called -/
def njG (p : Program) (s : State) (m : MethodId) (args : Array Value) (c : Code) (cc : ByteArray) (nL : Nat) (Ts : List Cond) (own : String) (D : va_G) (cI cZ cJ cT cC : ClassId) (A : Nat → Prop) (H0 : Heap) : Prop :=
  CallFix p m c cc nL s args Ts own ∧ va_K D vwCl (sjT cI cZ cJ cT cC) s ∧ (∀ q, H0.size ≤ q → A q) ∧ (va_AO "SharedPage$Text" s ∧ va_AO "SharedPage$Copy" s)
def adM (ad : Nat → Nat) (N : Nat) (ac : Nat → Nat) : Nat → Nat := fun k => if k < N then ad k else ac (k - N)
def ctM (ct : Nat → va_E) (N : Nat) (g : Nat → va_E) : Nat → va_E := fun k => if k < N then ct k else g (k - N)
theorem sjW_app (N n : Nat) (ad ac : Nat → Nat) (ct g : Nat → va_E) : sjW N ad ct ++ sjW n ac g = sjW (N + n) (adM ad N ac) (ctM ct N g) := by
  apply List.ext_getElem?
  intro k
  have hlen : (sjW N ad ct).length = N := by simp [sjW]
  by_cases h1 : k < N
  · rw [List.getElem?_append_left (by omega), sjW_get h1, sjW_get (by omega)]
    unfold adM ctM
    rw [if_pos h1, if_pos h1]
  · rw [List.getElem?_append_right (by omega), hlen]
    by_cases h2 : k - N < n
    · rw [sjW_get h2, sjW_get (by omega)]
      unfold adM ctM
      rw [if_neg h1, if_neg h1]
    · rw [sjW_out h2, sjW_out (by omega)]
theorem sjW_in {N k : Nat} {ad : Nat → Nat} {ct : Nat → va_E} {q : Nat × va_E} (h : (sjW N ad ct)[k]? = some q) : k < N ∧ q = (ad k, ct k) := by
  by_cases hn : k < N
  · rw [sjW_get hn] at h; exact ⟨hn, (Option.some.inj h).symm⟩
  · rw [sjW_out hn] at h; cases h
theorem P_less {D : va_G} {N n : Nat} {ad : Nat → Nat} {ct : Nat → va_E} {H : Heap} (h : va_P D vwCl (sjW N ad ct) H) (hn : n ≤ N) : va_P D vwCl (sjW n ad ct) H := by
  intro k q hk
  obtain ⟨k1, rfl⟩ := sjW_in hk
  exact h k _ (sjW_get (by omega))
section NG
variable {p : Program} {l : Launch} {e : Env} {R : Room} {s : State} {m : MethodId} {args : Array Value} {below : List Frame} {meth : Method} {c : Code} {cc : ByteArray} {nL : Nat} {Ts : List Cond} {own : String} {D : va_G} {cI cZ cJ cT cC : ClassId} {A : Nat → Prop} {H0 : Heap} {Q : State → Prop} {pc N : Nat} {ad : Nat → Nat} {ct : Nat → va_E} {cells slots : Nat} {lv lv' : List (Option Value)} {st : List Value}
theorem njF_g (F : njF p s m args meth c cc nL Ts own D cI cZ cJ cT cC A H0) : njG p s m args c cc nL Ts own D cI cZ cJ cT cC A H0 := ⟨F.1, F.2.1, F.2.2.1, F.2.2.2.1⟩
theorem nj_dup (F : njG p s m args c cc nL Ts own D cI cZ cJ cT cC A H0) {v : Value} (hdg : decode cc pc = .ok (.dup, 1)) (hv : v.category = 1) (k : nj p l e R s m args below meth c D A H0 nL Q (pc + 1) N ad ct cells slots lv (v :: v :: st)) : nj p l e R s m args below meth c D A H0 nL Q pc N ad ct cells slots lv (v :: st) :=
  fun H locs ls hP hD hS hl => lv_dup F.1.1 F.1.2.1 hdg hv (k H locs ls hP hD hS hl)
theorem nj_iconstG (F : njG p s m args c cc nL Ts own D cI cZ cJ cT cC A H0) {n : Int} (hdg : decode cc pc = .ok (.iconst n, 1)) (k : nj p l e R s m args below meth c D A H0 nL Q (pc + 1) N ad ct cells slots lv (.int (iI n) :: st)) : nj p l e R s m args below meth c D A H0 nL Q pc N ad ct cells slots lv st :=
  fun H locs ls hP hD hS hl => lv_iconst F.1.1 F.1.2.1 hdg rfl (k H locs ls hP hD hS hl)
theorem nj_istore_n (F : njG p s m args c cc nL Ts own D cI cZ cJ cT cC A H0) {i : Fin 4} {x : Int32} (hdg : decode cc pc = .ok (.istore_n i, 1)) (hn : (i : Nat) < nL) (hv : sjS1 lv i (.int x) = lv') (k : nj p l e R s m args below meth c D A H0 nL Q (pc + 1) N ad ct cells slots lv' st) : nj p l e R s m args below meth c D A H0 nL Q pc N ad ct cells slots lv (.int x :: st) :=
  fun H locs ls hP hD hS hl => lv_istore_n F.1.1 F.1.2.1 hdg rfl (sjH_has hl) hn rfl (fun ls' hl' => k H locs ls' hP hD hS (hv ▸ sjH_of1 hl'))
theorem nj_astore_n (F : njG p s m args c cc nL Ts own D cI cZ cJ cT cC A H0) {i : Fin 4} {x : Nat} (hdg : decode cc pc = .ok (.astore_n i, 1)) (hn : (i : Nat) < nL) (hv : sjS1 lv i (.ref x) = lv') (k : nj p l e R s m args below meth c D A H0 nL Q (pc + 1) N ad ct cells slots lv' st) : nj p l e R s m args below meth c D A H0 nL Q pc N ad ct cells slots lv (.ref x :: st) :=
  fun H locs ls hP hD hS hl => lv_astore_n F.1.1 F.1.2.1 hdg rfl (sjH_has hl) hn rfl (fun ls' hl' => k H locs ls' hP hD hS (hv ▸ sjH_of1 hl'))
theorem nj_iinc (F : njG p s m args c cc nL Ts own D cI cZ cJ cT cC A H0) {i : Nat} {n a : Int} (hdg : decode cc pc = .ok (.iinc i n, 3)) (hn : i < nL) (hg : lv[i]? = some (some (.int (iI a)))) (hv : sjS1 lv i (.int (iI (a + n))) = lv') (k : nj p l e R s m args below meth c D A H0 nL Q (pc + 3) N ad ct cells slots lv' st) : nj p l e R s m args below meth c D A H0 nL Q pc N ad ct cells slots lv st := by
  intro H locs ls hP hD hS hl
  obtain ⟨q, hq⟩ := List.getElem?_of_mem (sjPr_mem.mpr hg)
  exact lv_iinc F.1.1 F.1.2.1 hdg (sjH_has hl) hq (iI_add a n) hn rfl (fun ls' hl' => k H locs ls' hP hD hS (hv ▸ sjH_of1 hl'))
theorem nj_goto (F : njG p s m args c cc nL Ts own D cI cZ cJ cT cC A H0) {off : Int} (tgt : Nat) (hdg : decode cc pc = .ok (.goto off, 3)) (ht : (pc : Int) + off = (tgt : Int)) (k : nj p l e R s m args below meth c D A H0 nL Q tgt N ad ct cells slots lv st) : nj p l e R s m args below meth c D A H0 nL Q pc N ad ct cells slots lv st :=
  fun H locs ls hP hD hS hl => lv_goto F.1.1 F.1.2.1 hdg ht (k H locs ls hP hD hS hl)
theorem nj_iadd (F : njG p s m args c cc nL Ts own D cI cZ cJ cT cC A H0) {a b : Int} (hdg : decode cc pc = .ok (.iadd, 1)) (k : nj p l e R s m args below meth c D A H0 nL Q (pc + 1) N ad ct cells slots lv (.int (iI (a + b)) :: st)) : nj p l e R s m args below meth c D A H0 nL Q pc N ad ct cells slots lv (.int (iI b) :: .int (iI a) :: st) := by
  rw [← iI_add] at k
  exact fun H locs ls hP hD hS hl => lv_iadd F.1.1 F.1.2.1 hdg (k H locs ls hP hD hS hl)
theorem nj_imul (F : njG p s m args c cc nL Ts own D cI cZ cJ cT cC A H0) {a b : Int} (hdg : decode cc pc = .ok (.imul, 1)) (k : nj p l e R s m args below meth c D A H0 nL Q (pc + 1) N ad ct cells slots lv (.int (iI (a * b)) :: st)) : nj p l e R s m args below meth c D A H0 nL Q pc N ad ct cells slots lv (.int (iI b) :: .int (iI a) :: st) := by
  rw [← iI_mul] at k
  exact fun H locs ls hP hD hS hl => lv_imul F.1.1 F.1.2.1 hdg (k H locs ls hP hD hS hl)
theorem nj_icmp_ge (F : njG p s m args c cc nL Ts own D cI cZ cJ cT cC A H0) {a b : Int} (ha : rng a) (hb : rng b) {off : Int} (tgt : Nat) (hdg : decode cc pc = .ok (.if_icmp .ge off, 3)) (ht : (pc : Int) + off = (tgt : Int)) (kt : b ≤ a → nj p l e R s m args below meth c D A H0 nL Q tgt N ad ct cells slots lv st) (kf : a < b → nj p l e R s m args below meth c D A H0 nL Q (pc + 3) N ad ct cells slots lv st) : nj p l e R s m args below meth c D A H0 nL Q pc N ad ct cells slots lv (.int (iI b) :: .int (iI a) :: st) :=
  fun H locs ls hP hD hS hl => lv_icmp_ge F.1.1 F.1.2.1 hdg ht (fun q => kt ((iI_le hb ha).mp q) H locs ls hP hD hS hl) (fun q => kf (Int.not_le.mp (fun z => q ((iI_le hb ha).mpr z))) H locs ls hP hD hS hl)
theorem nj_if_ne (F : njG p s m args c cc nL Ts own D cI cZ cJ cT cC A H0) {a : Int} (ha : rng a) {off : Int} (tgt : Nat) (hdg : decode cc pc = .ok (.ifCond .ne off, 3)) (ht : (pc : Int) + off = (tgt : Int)) (kt : ¬ a = 0 → nj p l e R s m args below meth c D A H0 nL Q tgt N ad ct cells slots lv st) (kf : a = 0 → nj p l e R s m args below meth c D A H0 nL Q (pc + 3) N ad ct cells slots lv st) : nj p l e R s m args below meth c D A H0 nL Q pc N ad ct cells slots lv (.int (iI a) :: st) :=
  fun H locs ls hP hD hS hl => lv_if_ne F.1.1 F.1.2.1 hdg ht (fun q => kt (fun z => q ((iI_eq ha sjz).mpr z)) H locs ls hP hD hS hl) (fun q => kf ((iI_eq ha sjz).mp q) H locs ls hP hD hS hl)
/-- a field that holds a cell -/
theorem nj_getR (F : njG p s m args c cc nL Ts own D cI cZ cJ cT cC A H0) {k ci n index a : Nat} {C ref : String} {T : u_T} {fs : List Value} (hin : ∀ w ∈ u_ws C T n, w ∈ Ts) (hk : k < N) (hO : ct k = .inr (ci, fs)) (hc : vwCl[ci]? = some (C, T, n)) (j : Nat) (hj : j < n) (hlink : Cond.fieldLink own index ref (T j).2.1 (T j).2.2.1 ∈ Ts) (hsame : (T j).1 = ref) (hv : fs[j]? = some (.ref a)) (hdg : decode cc pc = .ok (.getfield index, 3)) (kk : nj p l e R s m args below meth c D A H0 nL Q (pc + 3) N ad ct cells slots lv (.ref a :: st)) : nj p l e R s m args below meth c D A H0 nL Q pc N ad ct cells slots lv (.ref (ad k) :: st) :=
  fun H locs ls hP hD hS hl => va_get F.1.1 F.1.2.1 F.1.2.2.2.2 hin F.1.2.2.2.1 F.2.1 hP k (by rw [sjW_get hk, hO]) hc j hj (F.1.2.2.2.2 _ hlink) (fun x hx => by rw [← hsame]; exact hx) hv hdg (kk H locs ls hP hD hS hl)
/-- a new object -/
theorem nj_new (F : njG p s m args c cc nL Ts own D cI cZ cJ cT cC A H0) {ci n index : Nat} {C : String} {T : u_T} {fs : List Value} (hin : ∀ w ∈ u_ws C T n, w ∈ Ts) (ty : Nat → FieldType) (hty : ∀ k, k < n → parseFieldDescriptor (T k).2.2.1 = some (ty k)) (hcl : Cond.classLink own index C ∈ Ts) (hinst : Cond.instantiable C n ∈ Ts) (hini : Cond.initialized C ∈ Ts) (hc : vwCl[ci]? = some (C, T, n)) (hfs : ∀ j, j < n → defaultValue (ty j) = vp_V fs j) (hcells : cells + 1 ≤ R.cells) (hslots : slots + n ≤ R.slots) (hdg : decode cc pc = .ok (.new index, 3))
    (kk : ∀ q : Nat, nj p l e R s m args below meth c D A H0 nL Q (pc + 3) (N + 1) (adU ad N q) (ctU ct N (.inr (ci, fs))) (cells + 1) (slots + n) lv (.ref q :: st)) : nj p l e R s m args below meth c D A H0 nL Q pc N ad ct cells slots lv st := by
  intro H locs ls hP hD hS hl
  refine va_new F.1.1 F.1.2.1 F.1.2.2.2.2 hin ty hty F.1.2.2.2.1 (F.1.2.2.2.2 _ hcl) (F.1.2.2.2.2 _ hinst) (F.1.2.2.2.2 _ hini) F.2.1 hP hD hS F.2.2.1 hc hfs hcells hslots hdg (fun q H1 hP1 hD1 hS1 => ?_)
  rw [sjW_push] at hP1 hD1
  exact kk q H1 locs ls hP1 hD1 hS1 hl
/-- a row of objects -/
theorem nj_newq (F : njG p s m args c cc nL Ts own D cI cZ cJ cT cC A H0) {t0 index : Nat} {C : String} {cX : ClassId} (n : Nat) (ht : (sjT cI cZ cJ cT cC)[t0]? = some (cX, .object C)) (hcl : Cond.classLink own index C ∈ Ts) (hover : va_AO C s) (hn : n ≤ 5000) (hcells : cells + 1 ≤ R.cells) (hslots : slots + n ≤ R.slots) (hdg : decode cc pc = .ok (.anewarray index, 3))
    (kk : ∀ q : Nat, nj p l e R s m args below meth c D A H0 nL Q (pc + 3) (N + 1) (adU ad N q) (ctU ct N (.inl (cX, n, .inr (.inr (.inr (.inr (fun _ => none))))))) (cells + 1) (slots + n) lv (.ref q :: st)) : nj p l e R s m args below meth c D A H0 nL Q pc N ad ct cells slots lv (.int (iI (n : Int)) :: st) := by
  intro H locs ls hP hD hS hl
  have hcl2 : (iI (n : Int)).toNatClampNeg = n := by have := iI_cl (z := (n : Int)) (by omega) (by omega); omega
  have hnn : ¬ iI (n : Int) < 0 := by rw [iI_0, iI_lt ⟨by omega, by omega⟩ ⟨by omega, by omega⟩]; omega
  refine va_newq (N' := n) F.1.1 F.1.2.1 F.1.2.2.2.1 (F.1.2.2.2.2 _ hcl) hover F.2.1 hP hD hS F.2.2.1 hnn hcl2 (by omega) hcells hslots hdg (fun q cA H1 hK1 hP1 hD1 hS1 => ?_)
  obtain ⟨_, _, _, _, _, h1⟩ := (hK1.2 5 (cA, .object C) rfl).2
  obtain ⟨_, _, _, _, _, h2⟩ := (F.2.1.2 t0 _ ht).2
  have he : cA = cX := Option.some.inj (h1.symm.trans h2)
  subst he
  rw [sjW_push] at hP1 hD1
  exact kk q H1 locs ls hP1 hD1 hS1 hl
/-- an object goes into a row -/
theorem nj_astq (F : njG p s m args c cc nL Ts own D cI cZ cJ cT cC A H0) {k t0 kv ci n i : Nat} {z : Int} {cX : ClassId} {r : vw_C} {vs : List Value} {f : Nat → Option Nat} (hk : k < N) (hkv : kv < N) (hO : ct k = .inl (cX, n, .inr (.inr (.inr (.inr f))))) (ht : (sjT cI cZ cJ cT cC)[t0]? = some (cX, .object r.1)) (hV : ct kv = .inr (ci, vs)) (hc : vwCl[ci]? = some r) (hz : z = (i : Int)) (hi : i < n) (hn : n ≤ 5000) (hdg : decode cc pc = .ok (.aastore, 1))
    (kk : nj p l e R s m args below meth c D A H0 nL Q (pc + 1) N ad (ctU ct k (.inl (cX, n, .inr (.inr (.inr (.inr (va_up f i (some (ad kv))))))))) cells slots lv st) : nj p l e R s m args below meth c D A H0 nL Q pc N ad ct cells slots lv (.ref (ad kv) :: .int (iI z) :: .ref (ad k) :: st) := by
  intro H locs ls hP hD hS hl
  have hcl : (iI z).toNatClampNeg = i := by have := iI_cl (z := z) (by omega) (by omega); omega
  refine va_astq F.1.1 F.1.2.1 F.2.1 hP hD hS k t0 kv ci (by rw [sjW_get hk, hO]) ht (by rw [sjW_get hkv, hV]) hc (iI_in (by omega) (by omega) hn) hdg (fun H1 locs1 hP1 hD1 hS1 => ?_)
  rw [hcl, sjW_setU hk] at hP1 hD1
  exact kk H1 locs1 ls hP1 hD1 hS1 hl
/-- a row of objects by what is in it -/
theorem nj_eqA {k n : Nat} {cX : ClassId} {f g : Nat → Option Nat} (hk : k < N) (hO : ct k = .inl (cX, n, .inr (.inr (.inr (.inr f))))) (h : ∀ j, j < n → f j = g j) (kk : nj p l e R s m args below meth c D A H0 nL Q pc N ad (ctU ct k (.inl (cX, n, .inr (.inr (.inr (.inr g)))))) cells slots lv st) : nj p l e R s m args below meth c D A H0 nL Q pc N ad ct cells slots lv st := by
  intro H locs ls hP hD hS hl
  refine kk H locs ls (fun j q hj => ?_) (D_any hD) hS hl
  obtain ⟨j1, rfl⟩ := sjW_in hj
  by_cases he : j = k
  · have h1 := hP k _ (sjW_get hk)
    rw [hO] at h1
    have h2 : H[ad k]? = some (vp_cell cX (n, .inr (.inr (.inr (.inr f))))) := h1
    rw [he]
    show va_at D vwCl (ad k, ctU ct k _ k) H
    unfold ctU
    rw [if_pos rfl]
    show H[ad k]? = some (vp_cell cX (n, .inr (.inr (.inr (.inr g)))))
    rw [h2, vp_cell_q, vp_cell_q]
    unfold arrV
    congr 3
    funext x
    show va_rf (f x.val) = va_rf (g x.val)
    rw [h x.val x.isLt]
  · have h1 := hP j _ (sjW_get j1)
    show va_at D vwCl (ad j, ctU ct k _ j) H
    unfold ctU
    rw [if_neg he]
    exact h1
/-- a constructor is called on the newest cell -/
theorem nj_callI (F : njG p s m args c cc nL Ts own D cI cZ cJ cT cC A H0) {y : MethodName} {bytes : ByteArray} {maxL n index nn mc ms h0 : Nat} {ws ws' : List Cond} {rm : Room} {As rest : List Value} {e0 : va_E} {cf : (Nat → Nat) → Nat → va_E}
    (hM : ∀ sz : Nat, Met l y ws rm (njA D cI cZ cJ cT cC (.ref h0 :: As) h0 e0 sz) (njZ D nn h0 sz cf) mc ms (njB h0 sz)) (h0a : ad N = h0) (he : ct N = e0) (hT : GoodIn Ts ws) (hw : ws = Cond.code y bytes maxL none :: ws') (hini : Cond.initialized y.cls ∈ Ts) (hlink : Cond.methodLink own index y ∈ Ts) (hinst : Cond.instanceMethod y ∈ Ts) (hyn : y.name = "<init>") (hd : y.cls ≠ "java/lang/invoke/MethodHandle" ∧ y.cls ≠ "java/lang/invoke/VarHandle" ∧ (parseMethodDescriptor y.desc).map (fun d => d.parameters.length) = some n) (hrc : rm.cells = mc) (hrs : rm.slots = ms) (hR : rm.frames + 1 ≤ R.frames ∧ 8 + (maxL + 11) + rm.locals ≤ R.locals) (hcs : cells + mc ≤ R.cells ∧ slots + ms ≤ R.slots) (hn : As.length = n) (hst : st = As.reverse ++ .ref h0 :: rest) (hW : (rest.map fun v => v.category).sum ≤ 8) (hdg : decode cc pc = .ok (.invokespecial index, 3))
    (kk : ∀ ac : Nat → Nat, ac 0 = h0 → nj p l e R s m args below meth c D A H0 nL Q (pc + 3) (N + nn) (adM ad N ac) (ctM ct N (cf ac)) (cells + mc) (slots + ms) lv rest) : nj p l e R s m args below meth c D A H0 nL Q pc (N + 1) ad ct cells slots lv st := by
  intro H locs ls hP hD hS hl T0 hT0 X
  have hcell := hP N _ (sjW_get (show N < N + 1 by omega))
  have hlt : h0 < H.size := by have := hcell.lt; rw [← h0a]; exact this
  have hP1 : va_P D vwCl [(h0, e0)] H := by
    intro k q hk
    have hk1 := (List.getElem?_eq_some_iff.mp hk).1
    simp at hk1
    subst hk1
    have hq : q = (h0, e0) := (Option.some.inj hk).symm
    rw [hq, ← h0a, ← he]
    exact hcell
  obtain ⟨v, u0, t, T', L2, g0, X', hL, e1, e2, ⟨hv, ac, ha0, hPc, hDc, hz, hkc⟩, steps⟩ := va_runI (g := F0 m pc ls st) (cells := cells) (slots := slots) (locs := locs) (As := As) (rest := rest) (below := below) (meth := meth) F.1 (hM H.size) (cwI n F.1.2.2.2.2 hT hw hrc hrs (F.1.2.2.2.2 _ hini) (F.1.2.2.2.2 _ hlink) (F.1.2.2.2.2 _ hinst) hyn hd hR) ⟨njA_blind D cI cZ cJ cT cC _ h0 e0 H.size, fun U hU hW => ⟨rfl, ⟨by rw [hU], hlt, by rw [hU]; exact hP1⟩, va_K.moved hW.alike F.2.1, va_AO.moved hW.alike F.2.2.2.1, va_AO.moved hW.alike F.2.2.2.2⟩⟩ rfl hn hl.1 hst (lv_room hW) hdg hcs T0 hT0 X
  cases hv
  rw [g0] at hz hkc
  have hold : ∀ k, k < N → ad k < H.size ∧ ¬ njB h0 H.size (ad k) := by
    intro k hk
    have h1 := (hP k _ (sjW_get (show k < N + 1 by omega))).lt
    refine ⟨h1, ?_⟩
    rintro (w | w)
    · have := hD.1 k N _ _ (sjW_get (show k < N + 1 by omega)) (sjW_get (show N < N + 1 by omega)) (by show ad k = ad N; rw [w, h0a])
      omega
    · have h2 : ad k < H.size := h1
      omega
  have hA : ∀ q, njB h0 H.size q → A q := by
    rintro q (w | w)
    · rw [w, ← h0a]; exact hD.2 N _ (sjW_get (show N < N + 1 by omega))
    · exact F.2.2.1 q (Nat.le_trans hS.1 w)
  have hP2 : va_P D vwCl (sjW N ad ct) T'.heap := by
    refine (P_less hP (by omega)).kept (fun k q hk => ?_)
    obtain ⟨k1, rfl⟩ := sjW_in hk
    rw [e1]
    exact hkc _ (hold k k1).1 (hold k k1).2
  have hP3 : va_P D vwCl (sjW (N + nn) (adM ad N ac) (ctM ct N (cf ac))) T'.heap := by
    rw [← sjW_app]
    exact hP2.app (by rw [e1]; exact hPc)
  have hD3 : va_D A (sjW (N + nn) (adM ad N ac) (ctM ct N (cf ac))) := by
    refine ⟨fun i j a b hi hj hab => ?_, fun k q hk => ?_⟩
    · obtain ⟨i1, rfl⟩ := sjW_in hi
      obtain ⟨j1, rfl⟩ := sjW_in hj
      have hab2 : adM ad N ac i = adM ad N ac j := hab
      unfold adM at hab2
      by_cases hi2 : i < N
      · rw [if_pos hi2] at hab2
        by_cases hj2 : j < N
        · rw [if_pos hj2] at hab2
          exact hD.1 i j _ _ (sjW_get (show i < N + 1 by omega)) (sjW_get (show j < N + 1 by omega)) hab2
        · rw [if_neg hj2] at hab2
          exfalso
          apply (hold i hi2).2
          rw [hab2]
          exact hDc.2 (j - N) _ (sjW_get (show j - N < nn by omega))
      · rw [if_neg hi2] at hab2
        by_cases hj2 : j < N
        · rw [if_pos hj2] at hab2
          exfalso
          apply (hold j hj2).2
          rw [← hab2]
          exact hDc.2 (i - N) _ (sjW_get (show i - N < nn by omega))
        · rw [if_neg hj2] at hab2
          have := hDc.1 (i - N) (j - N) _ _ (sjW_get (show i - N < nn by omega)) (sjW_get (show j - N < nn by omega)) hab2
          omega
    · obtain ⟨k1, rfl⟩ := sjW_in hk
      show A (adM ad N ac k)
      unfold adM
      by_cases hk2 : k < N
      · rw [if_pos hk2]; exact hD.2 k _ (sjW_get (show k < N + 1 by omega))
      · rw [if_neg hk2]; exact hA _ (hDc.2 (k - N) _ (sjW_get (show k - N < nn by omega)))
  obtain ⟨t2, a1, b1⟩ := kk ac ha0 T'.heap (locs ++ L2) ls hP3 hD3 ⟨by rw [e1]; exact Nat.le_trans hS.1 hz, fun q h1 h2 => by rw [e1, hkc q (Nat.lt_of_lt_of_le h1 hS.1) (fun w => h2 (hA q w))]; exact hS.2.1 q h1 h2, fun q hq => by
      rcases List.mem_append.mp hq with h | h
      · exact hS.2.2 q h
      · exact hA _ (hL q h)⟩ hl T' rfl X'
  exact ⟨t2, steps t2 a1, b1⟩
end NG
