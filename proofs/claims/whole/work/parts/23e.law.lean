def R_law : String := "SharedPageLaw"
def lw_P (b : Addr) (xs : List Int32) (args : Array Value) (s : State) : Prop := args = #[.ref b] ∧ s.IntsAt b xs ∧ xs.length ≤ 2560 ∧ (Jvm.Cond.and given_1 narrow_1).before args s = true
def lw_Q (_ : Array Value) (s : State) (o : Outcome) (t : State) : Prop := o = .returned (some (.int 1)) ∧ Framed s o t [] 600000 7302250
def lw_Z (below : List Frame) (a : Array Value) (s : State) : State → Prop := fun t => ∃ o, t.status = .running ∧ Ended t below o ∧ lw_Q a s o t
/-- the law's own end, with 1 on the stack, nothing written that was there before, its room as the claim has it -/
theorem lw_ret {p : Program} {l : Launch} {e : Env} {s : State} {m : MethodId} {below : List Frame} {meth : Method} {c : Code} {b : Nat} (hx : p.tables.exec = Jvm.exec) (hb : c.code = code) (hr : meth.sig.returnType = ret) (hlocks : meth.locks = false) {pc : Nat} {H : Heap} {ls : Array Slot} (hdg : decode code pc = .ok (.ireturn, 1)) : W p l e room_1 s m #[Value.ref b] below meth c H [] 600000 7302250 (lw_Z below #[Value.ref b] s) (F0 m pc ls [.int 1]) := by
  intro T hT X
  obtain ⟨fs, hret, hrun, hended, hW, hframe⟩ := X.leave (v := some (.int 1)) (hlocks := hlocks) (fun h => by rw [hr] at h; cases h)
  have hmeth' : T.vm.method? m = some meth := X.method'
  refine ⟨T.setFrames fs, ?_, .returned (some (.int 1)), hrun, hended, rfl, ⟨_, rfl⟩, hW, hframe⟩
  jvm_step X.here [X.here.top, hx, hb, hdg, hmeth', hr, ret, narrow_b1]
  (try refine ⟨rfl, ?_⟩); (try refine ⟨rfl, ?_⟩)
  first | (intro acts; rw [hret _ acts rfl rfl rfl]) | rw [hret _ _ rfl rfl rfl]
  exact Steps.refl _
/-- what holds at the law's entry: the machine, the code, the tables' words (any of lw_tbl by 'hts w (by decide +kernel)'), the script of L ints xs at the cell b, what the Statement gives of the start (any of its parts by flat_of_before) -/
def lw_At (p : Program) (s : State) (m : MethodId) (meth : Method) (c : Code) (b L : Nat) (xs : Nat → Int32) : Prop :=
  p.tables.exec = Jvm.exec ∧ c.code = code ∧ meth.sig.returnType = ret ∧ c.maxLocals = 4 ∧ s.vm.findClass R_law = some m.cls ∧ (∀ w ∈ lw_tbl, w.before #[Value.ref b] s = true) ∧ va_X b L xs s s.heap ∧ b < s.heap.size ∧ meth.locks = false ∧ (Jvm.Cond.and given_1 narrow_1).before #[Value.ref b] s = true
/-! the law: both worlds side by side -/
def inA (n : Nat) (a : Nat → Nat) : Nat → Prop := fun q => ∃ k, k < n ∧ q = a k
def bjF (p : Program) (s : State) (m : MethodId) (args : Array Value) (c : Code) (D : va_G) (cI cZ cJ cT cC : ClassId) (a1 a2 : Nat → Nat) (A : Nat → Prop) : Prop :=
  CallFix p m c cL_law 4 s args wsL_law RL ∧ va_K D vwCl (sjT cI cZ cJ cT cC) s ∧ (∀ g : Nat → va_E, va_D (inA 89 a1) (sjW 89 a1 g)) ∧ (∀ g : Nat → va_E, va_D (inA 26 a2) (sjW 26 a2 g)) ∧ (∀ i j, i < 89 → j < 26 → a1 i ≠ a2 j) ∧ (∀ i, i < 89 → A (a1 i)) ∧ ∀ j, j < 26 → A (a2 j)
def bj (p : Program) (l : Launch) (e : Env) (s : State) (m : MethodId) (b : Nat) (below : List Frame) (meth : Method) (c : Code) (D : va_G) (cI cZ cJ cT cC : ClassId) (a1 a2 : Nat → Nat) (cells slots : Nat) (pc : Nat) (MC : sjM) (LC : sjL) (MR : sjM) (LR : sjL) (lv : List (Option Value)) (st : List Value) : Prop :=
  ∀ (H : Heap) (locs : List Loc) (ls : Array Slot), va_P D vwCl (sjW 89 a1 (kC cI cZ cJ cT cC a1 MC LC)) H → va_P D vwCl (sjW 26 a2 (kR cI cZ cJ a2 MR LR)) H → va_S (fun q => s.heap.size ≤ q) s.heap H locs → sjH ls 4 lv → W p l e room_1 s m #[Value.ref b] below meth c H locs cells slots (lw_Z below #[Value.ref b] s) (F0 m pc ls st)
def bjG (J : Nat → sjM → sjL → sjM → sjL → List (Option Value) → List Value → Prop) (l : Launch) (D : va_G) (cI cZ cJ cT cC : ClassId) (a1 a2 : Nat → Nat) (b L : Nat) (xs : Nat → Int32) : Prop :=
  ∃ (p : Program) (e : Env) (s : State) (m : MethodId) (below : List Frame) (meth : Method) (c : Code) (cells slots : Nat), lw_At p s m meth c b L xs ∧ bjF p s m #[Value.ref b] c D cI cZ cJ cT cC a1 a2 (fun q => s.heap.size ≤ q) ∧ (cells ≤ 600000 ∧ slots ≤ 7302250) ∧ J = bj p l e s m b below meth c D cI cZ cJ cT cC a1 a2 cells slots
section BJ
variable {J : Nat → sjM → sjL → sjM → sjL → List (Option Value) → List Value → Prop} {l : Launch} {D : va_G} {cI cZ cJ cT cC : ClassId} {a1 a2 : Nat → Nat} {b N : Nat} {xs : Nat → Int32} {pc : Nat} {MC : sjM} {LC : sjL} {MR : sjM} {LR : sjL} {lv lv' : List (Option Value)} {st : List Value}
theorem h_iconst (G : bjG J l D cI cZ cJ cT cC a1 a2 b N xs) {n : Int} (hdg : decode cL_law pc = .ok (.iconst n, 1)) (k : J (pc + 1) MC LC MR LR lv (.int (iI n) :: st)) : J pc MC LC MR LR lv st := by
  obtain ⟨p, e, s, m, below, meth, c, cells, slots, C0, F, hcs, rfl⟩ := G
  exact fun H locs ls hP hR hS hl => lv_iconst F.1.1 F.1.2.1 hdg rfl (k H locs ls hP hR hS hl)
theorem h_bipush (G : bjG J l D cI cZ cJ cT cC a1 a2 b N xs) {n : Int} (hdg : decode cL_law pc = .ok (.bipush n, 2)) (hv : (Int8.ofInt n).toInt32 = iI n) (k : J (pc + 2) MC LC MR LR lv (.int (iI n) :: st)) : J pc MC LC MR LR lv st := by
  obtain ⟨p, e, s, m, below, meth, c, cells, slots, C0, F, hcs, rfl⟩ := G
  exact fun H locs ls hP hR hS hl => lv_bipush F.1.1 F.1.2.1 hdg hv (k H locs ls hP hR hS hl)
theorem h_iload_n (G : bjG J l D cI cZ cJ cT cC a1 a2 b N xs) {i : Fin 4} {x : Int32} (hdg : decode cL_law pc = .ok (.iload_n i, 1)) (hv : lv[(i : Nat)]? = some (some (.int x))) (k : J (pc + 1) MC LC MR LR lv (.int x :: st)) : J pc MC LC MR LR lv st := by
  obtain ⟨p, e, s, m, below, meth, c, cells, slots, C0, F, hcs, rfl⟩ := G
  exact fun H locs ls hP hR hS hl => lv_iload_n F.1.1 F.1.2.1 hdg rfl (hl.2.2 _ _ hv) (k H locs ls hP hR hS hl)
theorem h_aload_n (G : bjG J l D cI cZ cJ cT cC a1 a2 b N xs) {i : Fin 4} {x : Nat} (hdg : decode cL_law pc = .ok (.aload_n i, 1)) (hv : lv[(i : Nat)]? = some (some (.ref x))) (k : J (pc + 1) MC LC MR LR lv (.ref x :: st)) : J pc MC LC MR LR lv st := by
  obtain ⟨p, e, s, m, below, meth, c, cells, slots, C0, F, hcs, rfl⟩ := G
  exact fun H locs ls hP hR hS hl => lv_aload_n F.1.1 F.1.2.1 hdg rfl (hl.2.2 _ _ hv) (k H locs ls hP hR hS hl)
theorem h_iadd (G : bjG J l D cI cZ cJ cT cC a1 a2 b N xs) {x y : Int} (hdg : decode cL_law pc = .ok (.iadd, 1)) (k : J (pc + 1) MC LC MR LR lv (.int (iI (x + y)) :: st)) : J pc MC LC MR LR lv (.int (iI y) :: .int (iI x) :: st) := by
  rw [← iI_add] at k
  obtain ⟨p, e, s, m, below, meth, c, cells, slots, C0, F, hcs, rfl⟩ := G
  exact fun H locs ls hP hR hS hl => lv_iadd F.1.1 F.1.2.1 hdg (k H locs ls hP hR hS hl)
theorem h_isub (G : bjG J l D cI cZ cJ cT cC a1 a2 b N xs) {x y : Int} (hdg : decode cL_law pc = .ok (.isub, 1)) (k : J (pc + 1) MC LC MR LR lv (.int (iI (x - y)) :: st)) : J pc MC LC MR LR lv (.int (iI y) :: .int (iI x) :: st) := by
  rw [← iI_sub] at k
  obtain ⟨p, e, s, m, below, meth, c, cells, slots, C0, F, hcs, rfl⟩ := G
  exact fun H locs ls hP hR hS hl => lv_isub F.1.1 F.1.2.1 hdg (k H locs ls hP hR hS hl)
theorem h_iand (G : bjG J l D cI cZ cJ cT cC a1 a2 b N xs) {x y : Int32} (hdg : decode cL_law pc = .ok (.iand, 1)) (k : J (pc + 1) MC LC MR LR lv (.int (x &&& y) :: st)) : J pc MC LC MR LR lv (.int y :: .int x :: st) := by
  obtain ⟨p, e, s, m, below, meth, c, cells, slots, C0, F, hcs, rfl⟩ := G
  exact fun H locs ls hP hR hS hl => lv_iand F.1.1 F.1.2.1 hdg (k H locs ls hP hR hS hl)
theorem h_goto (G : bjG J l D cI cZ cJ cT cC a1 a2 b N xs) {off : Int} (tgt : Nat) (hdg : decode cL_law pc = .ok (.goto off, 3)) (ht : (pc : Int) + off = (tgt : Int)) (k : J tgt MC LC MR LR lv st) : J pc MC LC MR LR lv st := by
  obtain ⟨p, e, s, m, below, meth, c, cells, slots, C0, F, hcs, rfl⟩ := G
  exact fun H locs ls hP hR hS hl => lv_goto F.1.1 F.1.2.1 hdg ht (k H locs ls hP hR hS hl)
theorem h_lcmp (G : bjG J l D cI cZ cJ cT cC a1 a2 b N xs) {x y : Int64} (hdg : decode cL_law pc = .ok (.lcmp, 1)) (k : J (pc + 1) MC LC MR LR lv (.int (lg_cmp x y) :: st)) : J pc MC LC MR LR lv (.long y :: .long x :: st) := by
  obtain ⟨p, e, s, m, below, meth, c, cells, slots, C0, F, hcs, rfl⟩ := G
  exact fun H locs ls hP hR hS hl => W.lcmp F.1.1 F.1.2.1 hdg (k H locs ls hP hR hS hl)
theorem h_iinc (G : bjG J l D cI cZ cJ cT cC a1 a2 b N xs) {i : Nat} {n a : Int} (hdg : decode cL_law pc = .ok (.iinc i n, 3)) (hn : i < 4) (hg : lv[i]? = some (some (.int (iI a)))) (hv : sjS1 lv i (.int (iI (a + n))) = lv') (k : J (pc + 3) MC LC MR LR lv' st) : J pc MC LC MR LR lv st := by
  obtain ⟨p, e, s, m, below, meth, c, cells, slots, C0, F, hcs, rfl⟩ := G
  intro H locs ls hP hR hS hl
  obtain ⟨q, hq⟩ := List.getElem?_of_mem (sjPr_mem.mpr hg)
  exact lv_iinc F.1.1 F.1.2.1 hdg (sjH_has hl) hq (iI_add a n) hn rfl (fun ls' hl' => k H locs ls' hP hR hS (hv ▸ sjH_of1 hl'))
theorem h_icmp_gt (G : bjG J l D cI cZ cJ cT cC a1 a2 b N xs) {x y : Int} (hx : rng x) (hy : rng y) {off : Int} (tgt : Nat) (hdg : decode cL_law pc = .ok (.if_icmp .gt off, 3)) (ht : (pc : Int) + off = (tgt : Int)) (kt : y < x → J tgt MC LC MR LR lv st) (kf : x ≤ y → J (pc + 3) MC LC MR LR lv st) : J pc MC LC MR LR lv (.int (iI y) :: .int (iI x) :: st) := by
  obtain ⟨p, e, s, m, below, meth, c, cells, slots, C0, F, hcs, rfl⟩ := G
  exact fun H locs ls hP hR hS hl => lv_icmp_gt F.1.1 F.1.2.1 hdg ht (fun q => kt ((iI_lt hy hx).mp q) H locs ls hP hR hS hl) (fun q => kf (Int.not_lt.mp (fun z => q ((iI_lt hy hx).mpr z))) H locs ls hP hR hS hl)
theorem h_if_eq (G : bjG J l D cI cZ cJ cT cC a1 a2 b N xs) {x : Int} (hx : rng x) {off : Int} (tgt : Nat) (hdg : decode cL_law pc = .ok (.ifCond .eq off, 3)) (ht : (pc : Int) + off = (tgt : Int)) (kt : x = 0 → J tgt MC LC MR LR lv st) (kf : ¬ x = 0 → J (pc + 3) MC LC MR LR lv st) : J pc MC LC MR LR lv (.int (iI x) :: st) := by
  obtain ⟨p, e, s, m, below, meth, c, cells, slots, C0, F, hcs, rfl⟩ := G
  exact fun H locs ls hP hR hS hl => lv_if_eq F.1.1 F.1.2.1 hdg ht (fun q => kt ((iI_eq hx sjz).mp q) H locs ls hP hR hS hl) (fun q => kf (fun z => q ((iI_eq hx sjz).mpr z)) H locs ls hP hR hS hl)
/-- the same answer: on to the next call -/
theorem h_same (G : bjG J l D cI cZ cJ cT cC a1 a2 b N xs) {x : Int32} {off : Int} (tgt : Nat) (hdg : decode cL_law pc = .ok (.if_icmp .eq off, 3)) (ht : (pc : Int) + off = (tgt : Int)) (k : J tgt MC LC MR LR lv st) : J pc MC LC MR LR lv (.int x :: .int x :: st) := by
  obtain ⟨p, e, s, m, below, meth, c, cells, slots, C0, F, hcs, rfl⟩ := G
  exact fun H locs ls hP hR hS hl => lv_icmp_eq F.1.1 F.1.2.1 hdg ht (fun _ => k H locs ls hP hR hS hl) (fun q => absurd rfl q)
theorem h_sameL (G : bjG J l D cI cZ cJ cT cC a1 a2 b N xs) {x : Int64} {off : Int} (tgt : Nat) (hdg : decode cL_law pc = .ok (.ifCond .eq off, 3)) (ht : (pc : Int) + off = (tgt : Int)) (k : J tgt MC LC MR LR lv st) : J pc MC LC MR LR lv (.int (lg_cmp x x) :: st) := by
  obtain ⟨p, e, s, m, below, meth, c, cells, slots, C0, F, hcs, rfl⟩ := G
  exact fun H locs ls hP hR hS hl => lv_if_eq F.1.1 F.1.2.1 hdg ht (fun _ => k H locs ls hP hR hS hl) (fun q => absurd ((lg_cmp_eq x x).mpr rfl) q)
theorem h_tabIn (G : bjG J l D cI cZ cJ cT cC a1 a2 b N xs) {a : Int} (ha : rng a) {dflt lo hi off : Int} {offs : Array Int} {len : Nat} (tgt : Nat) (hdg : decode cL_law pc = .ok (.tableswitch dflt lo hi offs, len)) (h1 : ¬ a < lo) (h2 : ¬ hi < a) (ho : offs[(a - lo).toNat]? = some off) (ht : (pc : Int) + off = (tgt : Int)) (k : J tgt MC LC MR LR lv st) : J pc MC LC MR LR lv (.int (iI a) :: st) := by
  obtain ⟨p, e, s, m, below, meth, c, cells, slots, C0, F, hcs, rfl⟩ := G
  exact fun H locs ls hP hR hS hl => lv_tableIn F.1.1 F.1.2.1 hdg (by rw [iI_toInt ha]; exact h1) (by rw [iI_toInt ha]; exact h2) (by rw [iI_toInt ha]; exact ho) ht (k H locs ls hP hR hS hl)
theorem h_tabOut (G : bjG J l D cI cZ cJ cT cC a1 a2 b N xs) {a : Int} (ha : rng a) {dflt lo hi : Int} {offs : Array Int} {len : Nat} (tgt : Nat) (hdg : decode cL_law pc = .ok (.tableswitch dflt lo hi offs, len)) (h : a < lo ∨ hi < a) (ht : (pc : Int) + dflt = (tgt : Int)) (k : J tgt MC LC MR LR lv st) : J pc MC LC MR LR lv (.int (iI a) :: st) := by
  obtain ⟨p, e, s, m, below, meth, c, cells, slots, C0, F, hcs, rfl⟩ := G
  exact fun H locs ls hP hR hS hl => lv_tableOut F.1.1 F.1.2.1 hdg (by rw [iI_toInt ha]; exact h) ht (k H locs ls hP hR hS hl)
theorem h_top {x y : Int32} (h : x = y) (k : J pc MC LC MR LR lv (.int y :: st)) : J pc MC LC MR LR lv (.int x :: st) := by rw [h]; exact k
/-- the script's own numbers -/
theorem h_sld (G : bjG J l D cI cZ cJ cT cC a1 a2 b N xs) {z : Int} (hz : 0 ≤ z ∧ z < N) (hN : N ≤ 2560) (hdg : decode cL_law pc = .ok (.iaload, 1)) (k : J (pc + 1) MC LC MR LR lv (.int (iI (xs z.toNat).toInt) :: st)) : J pc MC LC MR LR lv (.int (iI z) :: .ref b :: st) := by
  obtain ⟨p, e, s, m, below, meth, c, cells, slots, C0, F, hcs, rfl⟩ := G
  obtain ⟨hx, hb, hr, hml, hown, hts, hX, hbl, hlocks, hgv⟩ := id C0
  intro H locs ls hP hR hS hl
  rw [iI_of] at k
  have hcl : (iI z).toNatClampNeg = z.toNat := by have := iI_cl hz.1 (show z ≤ 5000 by omega); omega
  refine va_sld F.1.1 F.1.2.1 hX hbl (Nat.not_le.mpr hbl) hS (iI_in hz.1 hz.2 (by omega)) hdg ?_
  rw [hcl]
  exact k H locs ls hP hR hS hl
theorem h_slen (G : bjG J l D cI cZ cJ cT cC a1 a2 b N xs) (hdg : decode cL_law pc = .ok (.arraylength, 1)) (k : J (pc + 1) MC LC MR LR lv (.int (iI (N : Int)) :: st)) : J pc MC LC MR LR lv (.ref b :: st) := by
  obtain ⟨p, e, s, m, below, meth, c, cells, slots, C0, F, hcs, rfl⟩ := G
  obtain ⟨hx, hb, hr, hml, hown, hts, hX, hbl, hlocks, hgv⟩ := id C0
  intro H locs ls hP hR hS hl
  refine va_slen F.1.1 F.1.2.1 hX hbl (Nat.not_le.mpr hbl) hS hdg ?_
  have h9 : Int32.ofNat N = iI (N : Int) := (Int32.ofInt_eq_ofNat).symm
  rw [h9]
  exact k H locs ls hP hR hS hl
/-- the end: true -/
theorem h_ret (G : bjG J l D cI cZ cJ cT cC a1 a2 b N xs) (hdg : decode cL_law pc = .ok (.ireturn, 1)) : J pc MC LC MR LR lv [.int (iI 1)] := by
  obtain ⟨p, e, s, m, below, meth, c, cells, slots, C0, F, hcs, rfl⟩ := G
  obtain ⟨hx, hb, hr, hml, hown, hts, hX, hbl, hlocks, hgv⟩ := id C0
  intro H locs ls hP hR hS hl
  refine va_forget (fun q hq => hS.2.2 q hq) ?_
  refine W.widen (k := 600000) (n := 7302250) hcs.1 hcs.2 ?_
  exact lw_ret hx hb hr hlocks hdg
theorem h_callC (G : bjG J l D cI cZ cJ cT cC a1 a2 b N xs) {y : MethodName} {bytes : ByteArray} {maxL n index : Nat} {ret : Option FieldType} {ws ws' : List Cond} {rm : Room} {As rest : List Value} {post : Option Value → sjM → sjL → Prop}
    (hM : (∀ g : Nat → va_E, va_D (inA 89 a1) (sjW 89 a1 g)) → Met l y ws rm (sjA D cI cZ cJ cT cC 89 a1 (kC cI cZ cJ cT cC a1) (.ref (a1 0) :: As) MC LC) (sjZ D 89 a1 (kC cI cZ cJ cT cC a1) (inA 89 a1) post) 0 0 (inA 89 a1)) (hT : GoodIn wsL_law (wsV RL index RX3 y ws)) (hw : ws = Cond.code y bytes maxL ret :: ws') (hd : y.cls = RX3 ∧ y.cls ≠ "java/lang/invoke/MethodHandle" ∧ y.cls ≠ "java/lang/invoke/VarHandle" ∧ (parseMethodDescriptor y.desc).map (fun d => d.parameters.length) = some n) (hrc : rm.cells = 0) (hrs : rm.slots = 0) (hRm : rm.frames + 1 ≤ 9 ∧ 8 + (maxL + 11) + rm.locals ≤ 340) (hn : As.length = n) (hst : st = As.reverse ++ .ref (a1 0) :: rest) (hW : (rest.map fun v => v.category).sum ≤ 8) (hdg : decode cL_law pc = .ok (.invokevirtual index, 3))
    (kk : ∀ (v : Option Value) (M1 : sjM) (L1 : sjL), post v M1 L1 → J (pc + 3) M1 L1 MR LR lv (v.toList ++ rest)) : J pc MC LC MR LR lv st := by
  obtain ⟨p, e, s, m, below, meth, c, cells, slots, C0, F, hcs, rfl⟩ := G
  obtain ⟨f1, f2, f3, f4, f5, f6, f7⟩ := F
  intro H locs ls hP hR hS hl T0 hT0 X
  have hcell : (sjW 89 a1 ((kC cI cZ cJ cT cC a1) MC LC))[0]? = some (a1 0, .inr (3, fPage a1 MC)) := by rw [sjW_get (by omega), (oPage (cI := cI) (cZ := cZ) (cJ := cJ) (cT := cT) (cC := cC) (ad := a1)).2]
  obtain ⟨v, u0, t, T', L2, h0, X', hL, e1, e2, ⟨v', M', L', hv, hpost, hP', hz', hk'⟩, steps⟩ := va_runV (g := F0 m pc ls st) (cells := cells) (slots := slots) (locs := locs) (As := As) (rest := rest) (below := below) (meth := meth) f1 (hM f3) (cwV n f1.2.2.2.2 hT hw hrc hrs hd hRm) ⟨sjA_blind D cI cZ cJ cT cC 89 a1 (kC cI cZ cJ cT cC a1) _ MC LC, va_recv f2 hP (ci := 3) rfl hcell, fun U hU hW => ⟨rfl, by rw [hU]; exact hP, va_K.moved hW.alike f2⟩⟩ rfl hn hl.1 hst (lv_room hW) hdg ⟨hcs.1, hcs.2⟩ T0 hT0 X
  cases hv
  rw [h0] at hz' hk'
  have hAA : ∀ q, inA 89 a1 q → s.heap.size ≤ q := by
    rintro q ⟨k, k1, rfl⟩
    exact f6 k k1
  have hoth : va_P D vwCl (sjW 26 a2 (kR cI cZ cJ a2 MR LR)) T'.heap := by
    refine hR.kept (fun k q hk => ?_)
    obtain ⟨k1, rfl⟩ := sjW_in hk
    rw [e1]
    refine hk' _ ((hR k _ (sjW_get k1)).lt) ?_
    rintro ⟨i, i1, hi⟩
    exact f5 i k i1 k1 hi.symm
  obtain ⟨t2, b1, b2⟩ := kk v M' L' hpost T'.heap (locs ++ L2) ls (by rw [e1]; exact hP') hoth ⟨by rw [e1, hz']; exact hS.1, fun q h1 h2 => by rw [e1, hk' q (Nat.lt_of_lt_of_le h1 hS.1) (fun w => h2 (hAA q w))]; exact hS.2.1 q h1 h2, fun q hq => by
      rcases List.mem_append.mp hq with h | h
      · exact hS.2.2 q h
      · exact hAA _ (hL q h)⟩ hl T' rfl X'
  exact ⟨t2, steps t2 b1, b2⟩
theorem h_callR (G : bjG J l D cI cZ cJ cT cC a1 a2 b N xs) {y : MethodName} {bytes : ByteArray} {maxL n index : Nat} {ret : Option FieldType} {ws ws' : List Cond} {rm : Room} {As rest : List Value} {post : Option Value → sjM → sjL → Prop}
    (hM : (∀ g : Nat → va_E, va_D (inA 26 a2) (sjW 26 a2 g)) → Met l y ws rm (sjA D cI cZ cJ cT cC 26 a2 (kR cI cZ cJ a2) (.ref (a2 0) :: As) MR LR) (sjZ D 26 a2 (kR cI cZ cJ a2) (inA 26 a2) post) 0 0 (inA 26 a2)) (hT : GoodIn wsL_law (wsV RL index RX4 y ws)) (hw : ws = Cond.code y bytes maxL ret :: ws') (hd : y.cls = RX4 ∧ y.cls ≠ "java/lang/invoke/MethodHandle" ∧ y.cls ≠ "java/lang/invoke/VarHandle" ∧ (parseMethodDescriptor y.desc).map (fun d => d.parameters.length) = some n) (hrc : rm.cells = 0) (hrs : rm.slots = 0) (hRm : rm.frames + 1 ≤ 9 ∧ 8 + (maxL + 11) + rm.locals ≤ 340) (hn : As.length = n) (hst : st = As.reverse ++ .ref (a2 0) :: rest) (hW : (rest.map fun v => v.category).sum ≤ 8) (hdg : decode cL_law pc = .ok (.invokevirtual index, 3))
    (kk : ∀ (v : Option Value) (M1 : sjM) (L1 : sjL), post v M1 L1 → J (pc + 3) MC LC M1 L1 lv (v.toList ++ rest)) : J pc MC LC MR LR lv st := by
  obtain ⟨p, e, s, m, below, meth, c, cells, slots, C0, F, hcs, rfl⟩ := G
  obtain ⟨f1, f2, f3, f4, f5, f6, f7⟩ := F
  intro H locs ls hP hR hS hl T0 hT0 X
  have hcell : (sjW 26 a2 ((kR cI cZ cJ a2) MR LR))[0]? = some (a2 0, .inr (4, fModel a2 MR)) := by rw [sjW_get (by omega), (oModel (cI := cI) (cZ := cZ) (cJ := cJ) (ad := a2)).2]
  obtain ⟨v, u0, t, T', L2, h0, X', hL, e1, e2, ⟨v', M', L', hv, hpost, hP', hz', hk'⟩, steps⟩ := va_runV (g := F0 m pc ls st) (cells := cells) (slots := slots) (locs := locs) (As := As) (rest := rest) (below := below) (meth := meth) f1 (hM f4) (cwV n f1.2.2.2.2 hT hw hrc hrs hd hRm) ⟨sjA_blind D cI cZ cJ cT cC 26 a2 (kR cI cZ cJ a2) _ MR LR, va_recv f2 hR (ci := 4) rfl hcell, fun U hU hW => ⟨rfl, by rw [hU]; exact hR, va_K.moved hW.alike f2⟩⟩ rfl hn hl.1 hst (lv_room hW) hdg ⟨hcs.1, hcs.2⟩ T0 hT0 X
  cases hv
  rw [h0] at hz' hk'
  have hAA : ∀ q, inA 26 a2 q → s.heap.size ≤ q := by
    rintro q ⟨k, k1, rfl⟩
    exact f7 k k1
  have hoth : va_P D vwCl (sjW 89 a1 (kC cI cZ cJ cT cC a1 MC LC)) T'.heap := by
    refine hP.kept (fun k q hk => ?_)
    obtain ⟨k1, rfl⟩ := sjW_in hk
    rw [e1]
    refine hk' _ ((hP k _ (sjW_get k1)).lt) ?_
    rintro ⟨i, i1, hi⟩
    exact f5 k i k1 i1 hi
  obtain ⟨t2, b1, b2⟩ := kk v M' L' hpost T'.heap (locs ++ L2) ls hoth (by rw [e1]; exact hP') ⟨by rw [e1, hz']; exact hS.1, fun q h1 h2 => by rw [e1, hk' q (Nat.lt_of_lt_of_le h1 hS.1) (fun w => h2 (hAA q w))]; exact hS.2.1 q h1 h2, fun q hq => by
      rcases List.mem_append.mp hq with h | h
      · exact hS.2.2 q h
      · exact hAA _ (hL q h)⟩ hl T' rfl X'
  exact ⟨t2, steps t2 b1, b2⟩
end BJ
