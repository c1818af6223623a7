/-- J is the judgement of one run of a method: its code cc, its words Ts, its room R, its answer's type ret, its end post -/
def sjG (J : Nat → sjM → sjL → List (Option Value) → List Value → Prop) (l : Launch) (cc : ByteArray) (nL : Nat) (Ts : List Cond) (own : String) (R : Room) (ret : Option FieldType) (D : va_G) (cI cZ cJ cT cC : ClassId) (N : Nat) (ad : Nat → Nat) (ct : sjM → sjL → Nat → va_E) (A : Nat → Prop) (post : Option Value → sjM → sjL → Prop) : Prop :=
  ∃ (p : Program) (e : Env) (s : State) (m : MethodId) (args : Array Value) (below : List Frame) (meth : Method) (c : Code), sjF p s m args c cc nL Ts own D cI cZ cJ cT cC N ad ct A ∧ meth.sig.returnType = ret ∧ meth.locks = false ∧ J = sj p l e R s m args below meth c D N ad ct A s.heap nL (MQ below (sjZ D N ad ct A post) args s 0 0 A)
section SJG
variable {J : Nat → sjM → sjL → List (Option Value) → List Value → Prop} {l : Launch} {R : Room} {ret : Option FieldType} {cc : ByteArray} {nL : Nat} {Ts : List Cond} {own : String} {D : va_G} {cI cZ cJ cT cC : ClassId} {N : Nat} {ad : Nat → Nat} {ct : sjM → sjL → Nat → va_E} {A : Nat → Prop} {post : Option Value → sjM → sjL → Prop} {pc : Nat} {M : sjM} {L : sjL} {lv lv' : List (Option Value)} {st : List Value}
theorem g_iconst (G : sjG J l cc nL Ts own R ret D cI cZ cJ cT cC N ad ct A post) {n : Int} (hdg : decode cc pc = .ok (.iconst n, 1)) (k : J (pc + 1) M L lv (.int (iI n) :: st)) : J pc M L lv st := by
  obtain ⟨p, e, s, m, args, below, meth, c, F, hr, hlocks, rfl⟩ := G
  exact sj_iconst F hdg k
theorem g_bipush (G : sjG J l cc nL Ts own R ret D cI cZ cJ cT cC N ad ct A post) {n : Int} (hdg : decode cc pc = .ok (.bipush n, 2)) (hv : (Int8.ofInt n).toInt32 = iI n) (k : J (pc + 2) M L lv (.int (iI n) :: st)) : J pc M L lv st := by
  obtain ⟨p, e, s, m, args, below, meth, c, F, hr, hlocks, rfl⟩ := G
  exact sj_bipush F hdg hv k
theorem g_sipush (G : sjG J l cc nL Ts own R ret D cI cZ cJ cT cC N ad ct A post) {n : Int} (hdg : decode cc pc = .ok (.sipush n, 3)) (hv : (Int16.ofInt n).toInt32 = iI n) (k : J (pc + 3) M L lv (.int (iI n) :: st)) : J pc M L lv st := by
  obtain ⟨p, e, s, m, args, below, meth, c, F, hr, hlocks, rfl⟩ := G
  exact sj_sipush F hdg hv k
theorem g_ldc (G : sjG J l cc nL Ts own R ret D cI cZ cJ cT cC N ad ct A post) {index : Nat} {v : Int32} (hconst : Jvm.Cond.constant own index v ∈ Ts) (hdg : decode cc pc = .ok (.ldc index, 2)) (k : J (pc + 2) M L lv (.int (iI v.toInt) :: st)) : J pc M L lv st := by
  obtain ⟨p, e, s, m, args, below, meth, c, F, hr, hlocks, rfl⟩ := G
  exact sj_ldc F hconst hdg k
theorem g_lconst (G : sjG J l cc nL Ts own R ret D cI cZ cJ cT cC N ad ct A post) {n : Fin 2} {v : Int64} (hdg : decode cc pc = .ok (.lconst n, 1)) (hv : Int64.ofNat (n : Nat) = v) (k : J (pc + 1) M L lv (.long v :: st)) : J pc M L lv st := by
  obtain ⟨p, e, s, m, args, below, meth, c, F, hr, hlocks, rfl⟩ := G
  exact sj_lconst F hdg hv k
theorem g_ldc2 (G : sjG J l cc nL Ts own R ret D cI cZ cJ cT cC N ad ct A post) {index : Nat} {v : Int64} (hconst : Jvm.Cond.constantLong own index v ∈ Ts) (hdg : decode cc pc = .ok (.ldc2_w index, 3)) (k : J (pc + 3) M L lv (.long v :: st)) : J pc M L lv st := by
  obtain ⟨p, e, s, m, args, below, meth, c, F, hr, hlocks, rfl⟩ := G
  exact sj_ldc2 F hconst hdg k
theorem g_iload_n (G : sjG J l cc nL Ts own R ret D cI cZ cJ cT cC N ad ct A post) {i : Fin 4} {x : Int32} (hdg : decode cc pc = .ok (.iload_n i, 1)) (hv : lv[(i : Nat)]? = some (some (.int x))) (k : J (pc + 1) M L lv (.int x :: st)) : J pc M L lv st := by
  obtain ⟨p, e, s, m, args, below, meth, c, F, hr, hlocks, rfl⟩ := G
  exact sj_iload_n F hdg hv k
theorem g_iload (G : sjG J l cc nL Ts own R ret D cI cZ cJ cT cC N ad ct A post) {i : Nat} {x : Int32} (hdg : decode cc pc = .ok (.iload i, 2)) (hv : lv[i]? = some (some (.int x))) (k : J (pc + 2) M L lv (.int x :: st)) : J pc M L lv st := by
  obtain ⟨p, e, s, m, args, below, meth, c, F, hr, hlocks, rfl⟩ := G
  exact sj_iload F hdg hv k
theorem g_lload_n (G : sjG J l cc nL Ts own R ret D cI cZ cJ cT cC N ad ct A post) {i : Fin 4} {x : Int64} (hdg : decode cc pc = .ok (.lload_n i, 1)) (hv : lv[(i : Nat)]? = some (some (.long x))) (k : J (pc + 1) M L lv (.long x :: st)) : J pc M L lv st := by
  obtain ⟨p, e, s, m, args, below, meth, c, F, hr, hlocks, rfl⟩ := G
  exact sj_lload_n F hdg hv k
theorem g_lload (G : sjG J l cc nL Ts own R ret D cI cZ cJ cT cC N ad ct A post) {i : Nat} {x : Int64} (hdg : decode cc pc = .ok (.lload i, 2)) (hv : lv[i]? = some (some (.long x))) (k : J (pc + 2) M L lv (.long x :: st)) : J pc M L lv st := by
  obtain ⟨p, e, s, m, args, below, meth, c, F, hr, hlocks, rfl⟩ := G
  exact sj_lload F hdg hv k
theorem g_aload_n (G : sjG J l cc nL Ts own R ret D cI cZ cJ cT cC N ad ct A post) {i : Fin 4} {x : Nat} (hdg : decode cc pc = .ok (.aload_n i, 1)) (hv : lv[(i : Nat)]? = some (some (.ref x))) (k : J (pc + 1) M L lv (.ref x :: st)) : J pc M L lv st := by
  obtain ⟨p, e, s, m, args, below, meth, c, F, hr, hlocks, rfl⟩ := G
  exact sj_aload_n F hdg hv k
theorem g_aload (G : sjG J l cc nL Ts own R ret D cI cZ cJ cT cC N ad ct A post) {i : Nat} {x : Nat} (hdg : decode cc pc = .ok (.aload i, 2)) (hv : lv[i]? = some (some (.ref x))) (k : J (pc + 2) M L lv (.ref x :: st)) : J pc M L lv st := by
  obtain ⟨p, e, s, m, args, below, meth, c, F, hr, hlocks, rfl⟩ := G
  exact sj_aload F hdg hv k
theorem g_aload_nN (G : sjG J l cc nL Ts own R ret D cI cZ cJ cT cC N ad ct A post) {i : Fin 4} (hdg : decode cc pc = .ok (.aload_n i, 1)) (hv : lv[(i : Nat)]? = some (some .null)) (k : J (pc + 1) M L lv (.null :: st)) : J pc M L lv st := by
  obtain ⟨p, e, s, m, args, below, meth, c, F, hr, hlocks, rfl⟩ := G
  exact sj_aload_nN F hdg hv k
theorem g_aloadN (G : sjG J l cc nL Ts own R ret D cI cZ cJ cT cC N ad ct A post) {i : Nat} (hdg : decode cc pc = .ok (.aload i, 2)) (hv : lv[i]? = some (some .null)) (k : J (pc + 2) M L lv (.null :: st)) : J pc M L lv st := by
  obtain ⟨p, e, s, m, args, below, meth, c, F, hr, hlocks, rfl⟩ := G
  exact sj_aloadN F hdg hv k
theorem g_istore_n (G : sjG J l cc nL Ts own R ret D cI cZ cJ cT cC N ad ct A post) {i : Fin 4} {x : Int32} (hdg : decode cc pc = .ok (.istore_n i, 1)) (hn : (i : Nat) < nL) (hv : sjS1 lv i (.int x) = lv') (k : J (pc + 1) M L lv' st) : J pc M L lv (.int x :: st) := by
  obtain ⟨p, e, s, m, args, below, meth, c, F, hr, hlocks, rfl⟩ := G
  exact sj_istore_n F hdg hn hv k
theorem g_istore (G : sjG J l cc nL Ts own R ret D cI cZ cJ cT cC N ad ct A post) {i : Nat} {x : Int32} (hdg : decode cc pc = .ok (.istore i, 2)) (hn : i < nL) (hv : sjS1 lv i (.int x) = lv') (k : J (pc + 2) M L lv' st) : J pc M L lv (.int x :: st) := by
  obtain ⟨p, e, s, m, args, below, meth, c, F, hr, hlocks, rfl⟩ := G
  exact sj_istore F hdg hn hv k
theorem g_astore_n (G : sjG J l cc nL Ts own R ret D cI cZ cJ cT cC N ad ct A post) {i : Fin 4} {x : Nat} (hdg : decode cc pc = .ok (.astore_n i, 1)) (hn : (i : Nat) < nL) (hv : sjS1 lv i (.ref x) = lv') (k : J (pc + 1) M L lv' st) : J pc M L lv (.ref x :: st) := by
  obtain ⟨p, e, s, m, args, below, meth, c, F, hr, hlocks, rfl⟩ := G
  exact sj_astore_n F hdg hn hv k
theorem g_astore (G : sjG J l cc nL Ts own R ret D cI cZ cJ cT cC N ad ct A post) {i : Nat} {x : Nat} (hdg : decode cc pc = .ok (.astore i, 2)) (hn : i < nL) (hv : sjS1 lv i (.ref x) = lv') (k : J (pc + 2) M L lv' st) : J pc M L lv (.ref x :: st) := by
  obtain ⟨p, e, s, m, args, below, meth, c, F, hr, hlocks, rfl⟩ := G
  exact sj_astore F hdg hn hv k
theorem g_astore_nN (G : sjG J l cc nL Ts own R ret D cI cZ cJ cT cC N ad ct A post) {i : Fin 4} (hdg : decode cc pc = .ok (.astore_n i, 1)) (hn : (i : Nat) < nL) (hv : sjS1 lv i .null = lv') (k : J (pc + 1) M L lv' st) : J pc M L lv (.null :: st) := by
  obtain ⟨p, e, s, m, args, below, meth, c, F, hr, hlocks, rfl⟩ := G
  exact sj_astore_nN F hdg hn hv k
theorem g_astoreN (G : sjG J l cc nL Ts own R ret D cI cZ cJ cT cC N ad ct A post) {i : Nat} (hdg : decode cc pc = .ok (.astore i, 2)) (hn : i < nL) (hv : sjS1 lv i .null = lv') (k : J (pc + 2) M L lv' st) : J pc M L lv (.null :: st) := by
  obtain ⟨p, e, s, m, args, below, meth, c, F, hr, hlocks, rfl⟩ := G
  exact sj_astoreN F hdg hn hv k
theorem g_lstore_n (G : sjG J l cc nL Ts own R ret D cI cZ cJ cT cC N ad ct A post) {i : Fin 4} {x : Int64} (hdg : decode cc pc = .ok (.lstore_n i, 1)) (hn : (i : Nat) + 1 < nL) (hv : sjS2 lv i (.long x) = lv') (k : J (pc + 1) M L lv' st) : J pc M L lv (.long x :: st) := by
  obtain ⟨p, e, s, m, args, below, meth, c, F, hr, hlocks, rfl⟩ := G
  exact sj_lstore_n F hdg hn hv k
theorem g_lstore (G : sjG J l cc nL Ts own R ret D cI cZ cJ cT cC N ad ct A post) {i : Nat} {x : Int64} (hdg : decode cc pc = .ok (.lstore i, 2)) (hn : i + 1 < nL) (hv : sjS2 lv i (.long x) = lv') (k : J (pc + 2) M L lv' st) : J pc M L lv (.long x :: st) := by
  obtain ⟨p, e, s, m, args, below, meth, c, F, hr, hlocks, rfl⟩ := G
  exact sj_lstore F hdg hn hv k
theorem g_iinc (G : sjG J l cc nL Ts own R ret D cI cZ cJ cT cC N ad ct A post) {i : Nat} {n a : Int} (hdg : decode cc pc = .ok (.iinc i n, 3)) (hn : i < nL) (hg : lv[i]? = some (some (.int (iI a)))) (hv : sjS1 lv i (.int (iI (a + n))) = lv') (k : J (pc + 3) M L lv' st) : J pc M L lv st := by
  obtain ⟨p, e, s, m, args, below, meth, c, F, hr, hlocks, rfl⟩ := G
  exact sj_iinc F hdg hn hg hv k
theorem g_iadd (G : sjG J l cc nL Ts own R ret D cI cZ cJ cT cC N ad ct A post) {a b : Int} (hdg : decode cc pc = .ok (.iadd, 1)) (k : J (pc + 1) M L lv (.int (iI (a + b)) :: st)) : J pc M L lv (.int (iI b) :: .int (iI a) :: st) := by
  obtain ⟨p, e, s, m, args, below, meth, c, F, hr, hlocks, rfl⟩ := G
  exact sj_iadd F hdg k
theorem g_isub (G : sjG J l cc nL Ts own R ret D cI cZ cJ cT cC N ad ct A post) {a b : Int} (hdg : decode cc pc = .ok (.isub, 1)) (k : J (pc + 1) M L lv (.int (iI (a - b)) :: st)) : J pc M L lv (.int (iI b) :: .int (iI a) :: st) := by
  obtain ⟨p, e, s, m, args, below, meth, c, F, hr, hlocks, rfl⟩ := G
  exact sj_isub F hdg k
theorem g_imul (G : sjG J l cc nL Ts own R ret D cI cZ cJ cT cC N ad ct A post) {a b : Int} (hdg : decode cc pc = .ok (.imul, 1)) (k : J (pc + 1) M L lv (.int (iI (a * b)) :: st)) : J pc M L lv (.int (iI b) :: .int (iI a) :: st) := by
  obtain ⟨p, e, s, m, args, below, meth, c, F, hr, hlocks, rfl⟩ := G
  exact sj_imul F hdg k
theorem g_iand (G : sjG J l cc nL Ts own R ret D cI cZ cJ cT cC N ad ct A post) {x y : Int32} (hdg : decode cc pc = .ok (.iand, 1)) (k : J (pc + 1) M L lv (.int (x &&& y) :: st)) : J pc M L lv (.int y :: .int x :: st) := by
  obtain ⟨p, e, s, m, args, below, meth, c, F, hr, hlocks, rfl⟩ := G
  exact sj_iand F hdg k
theorem g_ior (G : sjG J l cc nL Ts own R ret D cI cZ cJ cT cC N ad ct A post) {x y : Int32} (hdg : decode cc pc = .ok (.ior, 1)) (k : J (pc + 1) M L lv (.int (x ||| y) :: st)) : J pc M L lv (.int y :: .int x :: st) := by
  obtain ⟨p, e, s, m, args, below, meth, c, F, hr, hlocks, rfl⟩ := G
  exact sj_ior F hdg k
theorem g_ixor (G : sjG J l cc nL Ts own R ret D cI cZ cJ cT cC N ad ct A post) {x y : Int32} (hdg : decode cc pc = .ok (.ixor, 1)) (k : J (pc + 1) M L lv (.int (x ^^^ y) :: st)) : J pc M L lv (.int y :: .int x :: st) := by
  obtain ⟨p, e, s, m, args, below, meth, c, F, hr, hlocks, rfl⟩ := G
  exact sj_ixor F hdg k
theorem g_ishl (G : sjG J l cc nL Ts own R ret D cI cZ cJ cT cC N ad ct A post) {x y : Int32} (hdg : decode cc pc = .ok (.ishl, 1)) (k : J (pc + 1) M L lv (.int (x <<< (y &&& 31)) :: st)) : J pc M L lv (.int y :: .int x :: st) := by
  obtain ⟨p, e, s, m, args, below, meth, c, F, hr, hlocks, rfl⟩ := G
  exact sj_ishl F hdg k
theorem g_ishr (G : sjG J l cc nL Ts own R ret D cI cZ cJ cT cC N ad ct A post) {x y : Int32} (hdg : decode cc pc = .ok (.ishr, 1)) (k : J (pc + 1) M L lv (.int (x >>> (y &&& 31)) :: st)) : J pc M L lv (.int y :: .int x :: st) := by
  obtain ⟨p, e, s, m, args, below, meth, c, F, hr, hlocks, rfl⟩ := G
  exact sj_ishr F hdg k
theorem g_iushr (G : sjG J l cc nL Ts own R ret D cI cZ cJ cT cC N ad ct A post) {x y : Int32} (hdg : decode cc pc = .ok (.iushr, 1)) (k : J (pc + 1) M L lv (.int (x.toUInt32 >>> (y.toUInt32 &&& Int32.toUInt32 31)).toInt32 :: st)) : J pc M L lv (.int y :: .int x :: st) := by
  obtain ⟨p, e, s, m, args, below, meth, c, F, hr, hlocks, rfl⟩ := G
  exact sj_iushr F hdg k
theorem g_irem (G : sjG J l cc nL Ts own R ret D cI cZ cJ cT cC N ad ct A post) {x y : Int32} (hdg : decode cc pc = .ok (.irem, 1)) (hne : ¬ y = 0) (k : J (pc + 1) M L lv (.int (x - x / y * y) :: st)) : J pc M L lv (.int y :: .int x :: st) := by
  obtain ⟨p, e, s, m, args, below, meth, c, F, hr, hlocks, rfl⟩ := G
  exact sj_irem F hdg hne k
theorem g_lcmp (G : sjG J l cc nL Ts own R ret D cI cZ cJ cT cC N ad ct A post) {x y : Int64} (hdg : decode cc pc = .ok (.lcmp, 1)) (k : J (pc + 1) M L lv (.int (lg_cmp x y) :: st)) : J pc M L lv (.long y :: .long x :: st) := by
  obtain ⟨p, e, s, m, args, below, meth, c, F, hr, hlocks, rfl⟩ := G
  exact sj_lcmp F hdg k
theorem g_i2l (G : sjG J l cc nL Ts own R ret D cI cZ cJ cT cC N ad ct A post) {x : Int32} (hdg : decode cc pc = .ok (.i2l, 1)) (k : J (pc + 1) M L lv (.long x.toInt64 :: st)) : J pc M L lv (.int x :: st) := by
  obtain ⟨p, e, s, m, args, below, meth, c, F, hr, hlocks, rfl⟩ := G
  exact sj_i2l F hdg k
theorem g_dup (G : sjG J l cc nL Ts own R ret D cI cZ cJ cT cC N ad ct A post) {v : Value} (hdg : decode cc pc = .ok (.dup, 1)) (hv : v.category = 1) (k : J (pc + 1) M L lv (v :: v :: st)) : J pc M L lv (v :: st) := by
  obtain ⟨p, e, s, m, args, below, meth, c, F, hr, hlocks, rfl⟩ := G
  exact sj_dup F hdg hv k
theorem g_dup2 (G : sjG J l cc nL Ts own R ret D cI cZ cJ cT cC N ad ct A post) {v w : Value} (hdg : decode cc pc = .ok (.dup2, 1)) (hv : v.category = 1) (hw : w.category = 1) (k : J (pc + 1) M L lv (v :: w :: v :: w :: st)) : J pc M L lv (v :: w :: st) := by
  obtain ⟨p, e, s, m, args, below, meth, c, F, hr, hlocks, rfl⟩ := G
  exact sj_dup2 F hdg hv hw k
theorem g_pop (G : sjG J l cc nL Ts own R ret D cI cZ cJ cT cC N ad ct A post) {v : Value} (hdg : decode cc pc = .ok (.pop, 1)) (hv : v.category = 1) (k : J (pc + 1) M L lv st) : J pc M L lv (v :: st) := by
  obtain ⟨p, e, s, m, args, below, meth, c, F, hr, hlocks, rfl⟩ := G
  exact sj_pop F hdg hv k
theorem g_null (G : sjG J l cc nL Ts own R ret D cI cZ cJ cT cC N ad ct A post) (hdg : decode cc pc = .ok (.aconst_null, 1)) (k : J (pc + 1) M L lv (.null :: st)) : J pc M L lv st := by
  obtain ⟨p, e, s, m, args, below, meth, c, F, hr, hlocks, rfl⟩ := G
  exact sj_null F hdg k
theorem g_goto (G : sjG J l cc nL Ts own R ret D cI cZ cJ cT cC N ad ct A post) {off : Int} (tgt : Nat) (hdg : decode cc pc = .ok (.goto off, 3)) (ht : (pc : Int) + off = (tgt : Int)) (k : J tgt M L lv st) : J pc M L lv st := by
  obtain ⟨p, e, s, m, args, below, meth, c, F, hr, hlocks, rfl⟩ := G
  exact sj_goto F tgt hdg ht k
theorem g_ifnullN (G : sjG J l cc nL Ts own R ret D cI cZ cJ cT cC N ad ct A post) {off : Int} (tgt : Nat) (hdg : decode cc pc = .ok (.ifnull off, 3)) (ht : (pc : Int) + off = (tgt : Int)) (k : J tgt M L lv st) : J pc M L lv (.null :: st) := by
  obtain ⟨p, e, s, m, args, below, meth, c, F, hr, hlocks, rfl⟩ := G
  exact sj_ifnullN F tgt hdg ht k
theorem g_ifnull (G : sjG J l cc nL Ts own R ret D cI cZ cJ cT cC N ad ct A post) {x : Nat} {off : Int} (hdg : decode cc pc = .ok (.ifnull off, 3)) (k : J (pc + 3) M L lv st) : J pc M L lv (.ref x :: st) := by
  obtain ⟨p, e, s, m, args, below, meth, c, F, hr, hlocks, rfl⟩ := G
  exact sj_ifnull F hdg k
theorem g_ifnonnullN (G : sjG J l cc nL Ts own R ret D cI cZ cJ cT cC N ad ct A post) {off : Int} (hdg : decode cc pc = .ok (.ifnonnull off, 3)) (k : J (pc + 3) M L lv st) : J pc M L lv (.null :: st) := by
  obtain ⟨p, e, s, m, args, below, meth, c, F, hr, hlocks, rfl⟩ := G
  exact sj_ifnonnullN F hdg k
theorem g_ifnonnull (G : sjG J l cc nL Ts own R ret D cI cZ cJ cT cC N ad ct A post) {x : Nat} {off : Int} (tgt : Nat) (hdg : decode cc pc = .ok (.ifnonnull off, 3)) (ht : (pc : Int) + off = (tgt : Int)) (k : J tgt M L lv st) : J pc M L lv (.ref x :: st) := by
  obtain ⟨p, e, s, m, args, below, meth, c, F, hr, hlocks, rfl⟩ := G
  exact sj_ifnonnull F tgt hdg ht k
theorem g_icmp_eq (G : sjG J l cc nL Ts own R ret D cI cZ cJ cT cC N ad ct A post) {a b : Int} (ha : rng a) (hb : rng b) {off : Int} (tgt : Nat) (hdg : decode cc pc = .ok (.if_icmp .eq off, 3)) (ht : (pc : Int) + off = (tgt : Int)) (kt : a = b → J (tgt) M L lv st) (kf : ¬ a = b → J (pc + 3) M L lv st) : J (pc) M L lv (.int (iI b) :: .int (iI a) :: st) := by
  obtain ⟨p, e, s, m, args, below, meth, c, F, hr, hlocks, rfl⟩ := G
  exact sj_icmp_eq F ha hb tgt hdg ht kt kf
theorem g_if_eq (G : sjG J l cc nL Ts own R ret D cI cZ cJ cT cC N ad ct A post) {a : Int} (ha : rng a) {off : Int} (tgt : Nat) (hdg : decode cc pc = .ok (.ifCond .eq off, 3)) (ht : (pc : Int) + off = (tgt : Int)) (kt : a = 0 → J (tgt) M L lv st) (kf : ¬ a = 0 → J (pc + 3) M L lv st) : J (pc) M L lv (.int (iI a) :: st) := by
  obtain ⟨p, e, s, m, args, below, meth, c, F, hr, hlocks, rfl⟩ := G
  exact sj_if_eq F ha tgt hdg ht kt kf
theorem g_icmp_ne (G : sjG J l cc nL Ts own R ret D cI cZ cJ cT cC N ad ct A post) {a b : Int} (ha : rng a) (hb : rng b) {off : Int} (tgt : Nat) (hdg : decode cc pc = .ok (.if_icmp .ne off, 3)) (ht : (pc : Int) + off = (tgt : Int)) (kt : ¬ a = b → J (tgt) M L lv st) (kf : a = b → J (pc + 3) M L lv st) : J (pc) M L lv (.int (iI b) :: .int (iI a) :: st) := by
  obtain ⟨p, e, s, m, args, below, meth, c, F, hr, hlocks, rfl⟩ := G
  exact sj_icmp_ne F ha hb tgt hdg ht kt kf
theorem g_if_ne (G : sjG J l cc nL Ts own R ret D cI cZ cJ cT cC N ad ct A post) {a : Int} (ha : rng a) {off : Int} (tgt : Nat) (hdg : decode cc pc = .ok (.ifCond .ne off, 3)) (ht : (pc : Int) + off = (tgt : Int)) (kt : ¬ a = 0 → J (tgt) M L lv st) (kf : a = 0 → J (pc + 3) M L lv st) : J (pc) M L lv (.int (iI a) :: st) := by
  obtain ⟨p, e, s, m, args, below, meth, c, F, hr, hlocks, rfl⟩ := G
  exact sj_if_ne F ha tgt hdg ht kt kf
theorem g_icmp_lt (G : sjG J l cc nL Ts own R ret D cI cZ cJ cT cC N ad ct A post) {a b : Int} (ha : rng a) (hb : rng b) {off : Int} (tgt : Nat) (hdg : decode cc pc = .ok (.if_icmp .lt off, 3)) (ht : (pc : Int) + off = (tgt : Int)) (kt : a < b → J (tgt) M L lv st) (kf : b ≤ a → J (pc + 3) M L lv st) : J (pc) M L lv (.int (iI b) :: .int (iI a) :: st) := by
  obtain ⟨p, e, s, m, args, below, meth, c, F, hr, hlocks, rfl⟩ := G
  exact sj_icmp_lt F ha hb tgt hdg ht kt kf
theorem g_if_lt (G : sjG J l cc nL Ts own R ret D cI cZ cJ cT cC N ad ct A post) {a : Int} (ha : rng a) {off : Int} (tgt : Nat) (hdg : decode cc pc = .ok (.ifCond .lt off, 3)) (ht : (pc : Int) + off = (tgt : Int)) (kt : a < 0 → J (tgt) M L lv st) (kf : 0 ≤ a → J (pc + 3) M L lv st) : J (pc) M L lv (.int (iI a) :: st) := by
  obtain ⟨p, e, s, m, args, below, meth, c, F, hr, hlocks, rfl⟩ := G
  exact sj_if_lt F ha tgt hdg ht kt kf
theorem g_icmp_ge (G : sjG J l cc nL Ts own R ret D cI cZ cJ cT cC N ad ct A post) {a b : Int} (ha : rng a) (hb : rng b) {off : Int} (tgt : Nat) (hdg : decode cc pc = .ok (.if_icmp .ge off, 3)) (ht : (pc : Int) + off = (tgt : Int)) (kt : b ≤ a → J (tgt) M L lv st) (kf : a < b → J (pc + 3) M L lv st) : J (pc) M L lv (.int (iI b) :: .int (iI a) :: st) := by
  obtain ⟨p, e, s, m, args, below, meth, c, F, hr, hlocks, rfl⟩ := G
  exact sj_icmp_ge F ha hb tgt hdg ht kt kf
theorem g_if_ge (G : sjG J l cc nL Ts own R ret D cI cZ cJ cT cC N ad ct A post) {a : Int} (ha : rng a) {off : Int} (tgt : Nat) (hdg : decode cc pc = .ok (.ifCond .ge off, 3)) (ht : (pc : Int) + off = (tgt : Int)) (kt : 0 ≤ a → J (tgt) M L lv st) (kf : a < 0 → J (pc + 3) M L lv st) : J (pc) M L lv (.int (iI a) :: st) := by
  obtain ⟨p, e, s, m, args, below, meth, c, F, hr, hlocks, rfl⟩ := G
  exact sj_if_ge F ha tgt hdg ht kt kf
theorem g_icmp_gt (G : sjG J l cc nL Ts own R ret D cI cZ cJ cT cC N ad ct A post) {a b : Int} (ha : rng a) (hb : rng b) {off : Int} (tgt : Nat) (hdg : decode cc pc = .ok (.if_icmp .gt off, 3)) (ht : (pc : Int) + off = (tgt : Int)) (kt : b < a → J (tgt) M L lv st) (kf : a ≤ b → J (pc + 3) M L lv st) : J (pc) M L lv (.int (iI b) :: .int (iI a) :: st) := by
  obtain ⟨p, e, s, m, args, below, meth, c, F, hr, hlocks, rfl⟩ := G
  exact sj_icmp_gt F ha hb tgt hdg ht kt kf
theorem g_if_gt (G : sjG J l cc nL Ts own R ret D cI cZ cJ cT cC N ad ct A post) {a : Int} (ha : rng a) {off : Int} (tgt : Nat) (hdg : decode cc pc = .ok (.ifCond .gt off, 3)) (ht : (pc : Int) + off = (tgt : Int)) (kt : 0 < a → J (tgt) M L lv st) (kf : a ≤ 0 → J (pc + 3) M L lv st) : J (pc) M L lv (.int (iI a) :: st) := by
  obtain ⟨p, e, s, m, args, below, meth, c, F, hr, hlocks, rfl⟩ := G
  exact sj_if_gt F ha tgt hdg ht kt kf
theorem g_icmp_le (G : sjG J l cc nL Ts own R ret D cI cZ cJ cT cC N ad ct A post) {a b : Int} (ha : rng a) (hb : rng b) {off : Int} (tgt : Nat) (hdg : decode cc pc = .ok (.if_icmp .le off, 3)) (ht : (pc : Int) + off = (tgt : Int)) (kt : a ≤ b → J (tgt) M L lv st) (kf : b < a → J (pc + 3) M L lv st) : J (pc) M L lv (.int (iI b) :: .int (iI a) :: st) := by
  obtain ⟨p, e, s, m, args, below, meth, c, F, hr, hlocks, rfl⟩ := G
  exact sj_icmp_le F ha hb tgt hdg ht kt kf
theorem g_if_le (G : sjG J l cc nL Ts own R ret D cI cZ cJ cT cC N ad ct A post) {a : Int} (ha : rng a) {off : Int} (tgt : Nat) (hdg : decode cc pc = .ok (.ifCond .le off, 3)) (ht : (pc : Int) + off = (tgt : Int)) (kt : a ≤ 0 → J (tgt) M L lv st) (kf : 0 < a → J (pc + 3) M L lv st) : J (pc) M L lv (.int (iI a) :: st) := by
  obtain ⟨p, e, s, m, args, below, meth, c, F, hr, hlocks, rfl⟩ := G
  exact sj_if_le F ha tgt hdg ht kt kf
theorem g_iald (G : sjG J l cc nL Ts own R ret D cI cZ cJ cT cC N ad ct A post) {k n : Nat} {z : Int} (hI : sjI N ct cI k n) (hz : 0 ≤ z ∧ z < n) (hdg : decode cc pc = .ok (.iaload, 1)) (kk : J (pc + 1) M L lv (.int (iI (M k z).toInt) :: st)) : J pc M L lv (.int (iI z) :: .ref (ad k) :: st) := by
  obtain ⟨p, e, s, m, args, below, meth, c, F, hr, hlocks, rfl⟩ := G
  exact sj_iald F hI hz hdg kk
theorem g_zald (G : sjG J l cc nL Ts own R ret D cI cZ cJ cT cC N ad ct A post) {k n : Nat} {z : Int} (hI : sjI N ct cZ k n) (hz : 0 ≤ z ∧ z < n) (hdg : decode cc pc = .ok (.baload, 1)) (kk : J (pc + 1) M L lv (.int (iI (M k z).toInt) :: st)) : J pc M L lv (.int (iI z) :: .ref (ad k) :: st) := by
  obtain ⟨p, e, s, m, args, below, meth, c, F, hr, hlocks, rfl⟩ := G
  exact sj_zald F hI hz hdg kk
theorem g_lald (G : sjG J l cc nL Ts own R ret D cI cZ cJ cT cC N ad ct A post) {k n : Nat} {z : Int} (hI : sjJ N ct cJ k n) (hz : 0 ≤ z ∧ z < n) (hdg : decode cc pc = .ok (.laload, 1)) (kk : J (pc + 1) M L lv (.long (L k z) :: st)) : J pc M L lv (.int (iI z) :: .ref (ad k) :: st) := by
  obtain ⟨p, e, s, m, args, below, meth, c, F, hr, hlocks, rfl⟩ := G
  exact sj_lald F hI hz hdg kk
theorem g_aald (G : sjG J l cc nL Ts own R ret D cI cZ cJ cT cC N ad ct A post) {k n : Nat} {z : Int} {cR : ClassId} {g : Int → Nat} (t0 : Nat) {C : String} (ht : (sjT cI cZ cJ cT cC)[t0]? = some (cR, .object C)) (hI : sjR N ct cR k n g) (hz : 0 ≤ z ∧ z < n) (hdg : decode cc pc = .ok (.aaload, 1)) (kk : J (pc + 1) M L lv (.ref (g z) :: st)) : J pc M L lv (.int (iI z) :: .ref (ad k) :: st) := by
  obtain ⟨p, e, s, m, args, below, meth, c, F, hr, hlocks, rfl⟩ := G
  exact sj_aald F t0 ht hI hz hdg kk
theorem g_alenI (G : sjG J l cc nL Ts own R ret D cI cZ cJ cT cC N ad ct A post) {k n : Nat} (hI : sjI N ct cI k n) (hdg : decode cc pc = .ok (.arraylength, 1)) (kk : J (pc + 1) M L lv (.int (iI n) :: st)) : J pc M L lv (.ref (ad k) :: st) := by
  obtain ⟨p, e, s, m, args, below, meth, c, F, hr, hlocks, rfl⟩ := G
  exact sj_alenI F hI hdg kk
theorem g_alenJ (G : sjG J l cc nL Ts own R ret D cI cZ cJ cT cC N ad ct A post) {k n : Nat} (hI : sjJ N ct cJ k n) (hdg : decode cc pc = .ok (.arraylength, 1)) (kk : J (pc + 1) M L lv (.int (iI n) :: st)) : J pc M L lv (.ref (ad k) :: st) := by
  obtain ⟨p, e, s, m, args, below, meth, c, F, hr, hlocks, rfl⟩ := G
  exact sj_alenJ F hI hdg kk
theorem g_alenR (G : sjG J l cc nL Ts own R ret D cI cZ cJ cT cC N ad ct A post) {k n : Nat} {cR : ClassId} {g : Int → Nat} (t0 : Nat) {C : String} (ht : (sjT cI cZ cJ cT cC)[t0]? = some (cR, .object C)) (hI : sjR N ct cR k n g) (hdg : decode cc pc = .ok (.arraylength, 1)) (kk : J (pc + 1) M L lv (.int (iI n) :: st)) : J pc M L lv (.ref (ad k) :: st) := by
  obtain ⟨p, e, s, m, args, below, meth, c, F, hr, hlocks, rfl⟩ := G
  exact sj_alenR F t0 ht hI hdg kk
theorem g_iast (G : sjG J l cc nL Ts own R ret D cI cZ cJ cT cC N ad ct A post) {k n : Nat} {z : Int} {x : Int32} (hI : sjI N ct cI k n) (hz : 0 ≤ z ∧ z < n) (hdg : decode cc pc = .ok (.iastore, 1)) (kk : J (pc + 1) (sjU M k z x) L lv st) : J pc M L lv (.int x :: .int (iI z) :: .ref (ad k) :: st) := by
  obtain ⟨p, e, s, m, args, below, meth, c, F, hr, hlocks, rfl⟩ := G
  exact sj_iast F hI hz hdg kk
theorem g_last (G : sjG J l cc nL Ts own R ret D cI cZ cJ cT cC N ad ct A post) {k n : Nat} {z : Int} {x : Int64} (hI : sjJ N ct cJ k n) (hz : 0 ≤ z ∧ z < n) (hdg : decode cc pc = .ok (.lastore, 1)) (kk : J (pc + 1) M (sjV L k z x) lv st) : J pc M L lv (.long x :: .int (iI z) :: .ref (ad k) :: st) := by
  obtain ⟨p, e, s, m, args, below, meth, c, F, hr, hlocks, rfl⟩ := G
  exact sj_last F hI hz hdg kk
theorem g_zast (G : sjG J l cc nL Ts own R ret D cI cZ cJ cT cC N ad ct A post) {k n : Nat} {z : Int} {x : Int32} (hI : sjI N ct cZ k n) (hz : 0 ≤ z ∧ z < n) (hx : vp_nar .boolean x = x) (hdg : decode cc pc = .ok (.bastore, 1)) (kk : J (pc + 1) (sjU M k z x) L lv st) : J pc M L lv (.int x :: .int (iI z) :: .ref (ad k) :: st) := by
  obtain ⟨p, e, s, m, args, below, meth, c, F, hr, hlocks, rfl⟩ := G
  exact sj_zast F hI hz hx hdg kk
theorem g_getR (G : sjG J l cc nL Ts own R ret D cI cZ cJ cT cC N ad ct A post) {k ci n index a : Nat} {C ref : String} {T : u_T} {fs : sjM → List Value} (hin : ∀ w ∈ u_ws C T n, w ∈ Ts) (hO : sjO N ct ci k fs) (hc : vwCl[ci]? = some (C, T, n)) (j : Nat) (hj : j < n) (hlink : Cond.fieldLink own index ref (T j).2.1 (T j).2.2.1 ∈ Ts) (hsame : (T j).1 = ref) (hv : (fs M)[j]? = some (.ref a)) (hdg : decode cc pc = .ok (.getfield index, 3)) (kk : J (pc + 3) M L lv (.ref a :: st)) : J pc M L lv (.ref (ad k) :: st) := by
  obtain ⟨p, e, s, m, args, below, meth, c, F, hr, hlocks, rfl⟩ := G
  exact sj_getR F hin hO hc j hj hlink hsame hv hdg kk
theorem g_getI (G : sjG J l cc nL Ts own R ret D cI cZ cJ cT cC N ad ct A post) {k ci n index : Nat} {x : Int32} {C ref : String} {T : u_T} {fs : sjM → List Value} (hin : ∀ w ∈ u_ws C T n, w ∈ Ts) (hO : sjO N ct ci k fs) (hc : vwCl[ci]? = some (C, T, n)) (j : Nat) (hj : j < n) (hlink : Cond.fieldLink own index ref (T j).2.1 (T j).2.2.1 ∈ Ts) (hsame : (T j).1 = ref) (hv : (fs M)[j]? = some (.int x)) (hdg : decode cc pc = .ok (.getfield index, 3)) (kk : J (pc + 3) M L lv (.int (iI x.toInt) :: st)) : J pc M L lv (.ref (ad k) :: st) := by
  obtain ⟨p, e, s, m, args, below, meth, c, F, hr, hlocks, rfl⟩ := G
  exact sj_getI F hin hO hc j hj hlink hsame hv hdg kk
theorem g_put (G : sjG J l cc nL Ts own R ret D cI cZ cJ cT cC N ad ct A post) {k ci n index : Nat} {z : Int} {x : Int32} {C ref : String} {T : u_T} {fs : sjM → List Value} (ty0 : Nat → FieldType) (hty : ∀ k, k < n → parseFieldDescriptor (T k).2.2.1 = some (ty0 k)) (hnm : ∀ a, a < n → ∀ b, b < n → a ≠ b → (T a).2.1 ≠ (T b).2.1) (hin : ∀ w ∈ u_ws C T n, w ∈ Ts) (hO : sjO N ct ci k fs) (hc : vwCl[ci]? = some (C, T, n)) (j : Nat) (hj : j < n) (hp : sjP k fs j z) (hlink : Cond.fieldLink own index ref (T j).2.1 (T j).2.2.1 ∈ Ts) (hsame : (T j).1 = ref) (hfin : (T j).2.2.2 = false) (hd : parseFieldDescriptor (T j).2.2.1 = some .int) (hdg : decode cc pc = .ok (.putfield index, 3)) (kk : J (pc + 3) (sjU M k z x) L lv st) : J pc M L lv (.int x :: .ref (ad k) :: st) := by
  obtain ⟨p, e, s, m, args, below, meth, c, F, hr, hlocks, rfl⟩ := G
  exact sj_put F ty0 hty hnm hin hO hc j hj hp hlink hsame hfin hd hdg kk
theorem g_call (G : sjG J l cc nL Ts own R ret D cI cZ cJ cT cC N ad ct A post) {y : MethodName} {bytes : ByteArray} {maxL n index k ci nn : Nat} {ret : Option FieldType} {ws ws' : List Cond} {rm : Room} {C : String} {T : u_T} {As rest : List Value} {pq : Option Value → sjM → sjL → Prop}  {fs : sjM → List Value}     (hM : Met l y ws rm (sjA D cI cZ cJ cT cC N ad ct (.ref (ad k) :: As) M L) (sjZ D N ad ct A pq) 0 0 A) (hT : GoodIn Ts (wsV own index C y ws)) (hO : sjO N ct ci k fs) (hc : vwCl[ci]? = some (C, T, nn)) (hw : ws = Cond.code y bytes maxL ret :: ws') (hd : y.cls = C ∧ y.cls ≠ "java/lang/invoke/MethodHandle" ∧ y.cls ≠ "java/lang/invoke/VarHandle" ∧ (parseMethodDescriptor y.desc).map (fun d => d.parameters.length) = some n) (hrc : rm.cells = 0) (hrs : rm.slots = 0) (hR : rm.frames + 1 ≤ R.frames ∧ 8 + (maxL + 11) + rm.locals ≤ R.locals) (hn : As.length = n) (hst : st = As.reverse ++ .ref (ad k) :: rest) (hW : (rest.map fun v => v.category).sum ≤ 8) (hdg : decode cc pc = .ok (.invokevirtual index, 3))     (kk : ∀ (v : Option Value) (M1 : sjM) (L1 : sjL), pq v M1 L1 → J (pc + 3) M1 L1 lv (v.toList ++ rest)) : J pc M L lv st := by
  obtain ⟨p, e, s, m, args, below, meth, c, F, hr, hlocks, rfl⟩ := G
  exact sj_call F hM hT hO hc hw hd hrc hrs hR hn hst hW hdg kk
theorem g_min (G : sjG J l cc nL Ts own R ret D cI cZ cJ cT cC N ad ct A post) {index : Nat} {a b : Int} (ha : rng a) (hb : rng b) (hlink : Cond.methodLink own index Lib.Math.min.name ∈ Ts) (hstat : Cond.static Lib.Math.min.name ∈ Ts) (hini : Cond.initialized "java/lang/Math" ∈ Ts) (hcode : Cond.code Lib.Math.min.name Lib.Math.min.code 2 (some .int) ∈ Ts) (hframes : 1 ≤ R.frames) (hlocals : (st.map fun v => v.category).sum + 13 ≤ R.locals) (hdg : decode cc pc = .ok (.invokestatic index, 3))     (kk : J (pc + 3) M L lv (.int (iI (if b < a then b else a)) :: st)) : J pc M L lv (.int (iI b) :: .int (iI a) :: st) := by
  obtain ⟨p, e, s, m, args, below, meth, c, F, hr, hlocks, rfl⟩ := G
  exact sj_min F ha hb hlink hstat hini hcode hframes hlocals hdg kk
theorem g_iret (G : sjG J l cc nL Ts own R (some .int) D cI cZ cJ cT cC N ad ct A post) {x : Int32}  (hdg : decode cc pc = .ok (.ireturn, 1)) (h : post (some (.int x)) M L) : J pc M L lv [.int x] := by
  obtain ⟨p, e, s, m, args, below, meth, c, F, hr, hlocks, rfl⟩ := G
  exact sj_iret F hr hlocks hdg h
theorem g_zret (G : sjG J l cc nL Ts own R (some .boolean) D cI cZ cJ cT cC N ad ct A post) {x : Int32}  (hx : vp_nar .boolean x = x) (hdg : decode cc pc = .ok (.ireturn, 1)) (h : post (some (.int x)) M L) : J pc M L lv [.int x] := by
  obtain ⟨p, e, s, m, args, below, meth, c, F, hr, hlocks, rfl⟩ := G
  exact sj_zret F hr hx hlocks hdg h
theorem g_lret (G : sjG J l cc nL Ts own R (some .long) D cI cZ cJ cT cC N ad ct A post) {x : Int64}  (hdg : decode cc pc = .ok (.lreturn, 1)) (h : post (some (.long x)) M L) : J pc M L lv [.long x] := by
  obtain ⟨p, e, s, m, args, below, meth, c, F, hr, hlocks, rfl⟩ := G
  exact sj_lret F hr hlocks hdg h
theorem g_vret (G : sjG J l cc nL Ts own R (none) D cI cZ cJ cT cC N ad ct A post)  (hdg : decode cc pc = .ok (.return_, 1)) (h : post none M L) : J pc M L lv [] := by
  obtain ⟨p, e, s, m, args, below, meth, c, F, hr, hlocks, rfl⟩ := G
  exact sj_vret F hr hlocks hdg h
theorem g_aret {rt : FieldType} (G : sjG J l cc nL Ts own R (some rt) D cI cZ cJ cT cC N ad ct A post) {v : Value}   (hrt : (∃ n, rt = .object n) ∨ ∃ t, rt = .array t) (hv : v = .null ∨ ∃ a, v = .ref a) (hdg : decode cc pc = .ok (.areturn, 1)) (h : post (some v) M L) : J pc M L lv [v] := by
  obtain ⟨p, e, s, m, args, below, meth, c, F, hr, hlocks, rfl⟩ := G
  exact sj_aret F hr hrt hv hlocks hdg h
theorem g_top {x y : Int32} (h : x = y) (k : J pc M L lv (.int y :: st)) : J pc M L lv (.int x :: st) := by
  rw [h]; exact k
theorem g_mem (k : ∀ (M1 : sjM) (L1 : sjL), M1 = M → L1 = L → J pc M1 L1 lv st) : J pc M L lv st := k M L rfl rfl
theorem g_met {y : MethodName} {ws ws' : List Cond} {rm : Room} {maxL : Nat} {av : List Value} (hy : plainName y.cls = true) (hw : ws = Cond.code y cc maxL ret :: ws') (hD : ∀ g : Nat → va_E, va_D A (sjW N ad g)) (hloc : ∀ (M M' : sjM) (L L' : sjL) (k : Nat), M k = M' k → L k = L' k → ct M L k = ct M' L' k)
    (hav : ∀ v ∈ av, v.category = 1) (hlen : (lg_sl av).length ≤ maxL) (hlv : av.map some ++ List.replicate (maxL - av.length) none = lv)
    (body : ∀ J : Nat → sjM → sjL → List (Option Value) → List Value → Prop, sjG J l cc maxL ws y.cls (headSpec ws rm).room ret D cI cZ cJ cT cC N ad ct A post → J 0 M L lv []) : Met l y ws rm (sjA D cI cZ cJ cT cC N ad ct av M L) (sjZ D N ad ct A post) 0 0 A :=
  sj_met hy hw hD hloc hav hlen hlv (fun p e s m args below meth c F hr hlk => body _ ⟨p, e, s, m, args, below, meth, c, F, hr, hlk, rfl⟩)
end SJG
