/-! the flat memory: cells 0 .. N-1 at addresses ad, ints M, longs L; the judgement sj hides the heap and the locals' array -/
abbrev sjM : Type := Nat → Int → Int32
abbrev sjL : Type := Nat → Int → Int64
abbrev rng (z : Int) : Prop := -2147483648 ≤ z ∧ z ≤ 2147483647
def iI (z : Int) : Int32 := Int32.ofInt z
theorem iI_of (x : Int32) : iI x.toInt = x := Int32.ofInt_toInt x
theorem rg (x : Int32) : rng x.toInt := ⟨Int32.le_toInt x, by have := Int32.toInt_lt x; omega⟩
theorem iI_toInt {z : Int} (h : rng z) : (iI z).toInt = z := by
  obtain ⟨h1, h2⟩ := h
  show (Int32.ofInt z).toInt = z
  exact Int32.toInt_ofInt_of_le (by omega) (by omega)
theorem iI_add (a b : Int) : iI a + iI b = iI (a + b) := (Int32.ofInt_add a b).symm
theorem iI_sub (a b : Int) : iI a - iI b = iI (a - b) := (Int32.ofInt_sub a b).symm
theorem iI_mul (a b : Int) : iI a * iI b = iI (a * b) := (Int32.ofInt_mul a b).symm
theorem iI_lt {a b : Int} (ha : rng a) (hb : rng b) : iI a < iI b ↔ a < b := by
  rw [Int32.lt_iff_toInt_lt, iI_toInt ha, iI_toInt hb]
theorem iI_le {a b : Int} (ha : rng a) (hb : rng b) : iI a ≤ iI b ↔ a ≤ b := by
  rw [Int32.le_iff_toInt_le, iI_toInt ha, iI_toInt hb]
theorem iI_eq {a b : Int} (ha : rng a) (hb : rng b) : iI a = iI b ↔ a = b := by
  rw [← Int32.toInt_inj, iI_toInt ha, iI_toInt hb]
theorem iI_0 : (0 : Int32) = iI 0 := rfl
theorem iI_in {z : Int} {n : Nat} (h0 : 0 ≤ z) (h1 : z < n) (hn : n ≤ 5000) : vp_in (iI z) n := by
  rw [vp_in_iff, iI_toInt ⟨by omega, by omega⟩]
  exact ⟨h0, h1⟩
theorem iI_cl {z : Int} (h0 : 0 ≤ z) (h1 : z ≤ 5000) : (((iI z).toNatClampNeg : Nat) : Int) = z := by
  have h : (iI z).toInt = z := iI_toInt ⟨by omega, by omega⟩
  show (((iI z).toInt.toNat : Nat) : Int) = z
  rw [h]
  exact Int.toNat_of_nonneg h0
def sjW (N : Nat) (ad : Nat → Nat) (ct : Nat → va_E) : va_W := (List.range N).map (fun k => (ad k, ct k))
theorem sjW_get {N : Nat} {ad : Nat → Nat} {ct : Nat → va_E} {k : Nat} (h : k < N) : (sjW N ad ct)[k]? = some (ad k, ct k) := by
  simp [sjW, h]
theorem sjW_out {N : Nat} {ad : Nat → Nat} {ct : Nat → va_E} {k : Nat} (h : ¬ k < N) : (sjW N ad ct)[k]? = none := by
  simp [sjW]; omega
theorem sjW_set {N : Nat} {ad : Nat → Nat} {ct ct' : Nat → va_E} {k : Nat} {e : va_E} (hk : k < N) (he : ct' k = e) (ho : ∀ j, j ≠ k → ct' j = ct j) : (sjW N ad ct).set k (ad k, e) = sjW N ad ct' := by
  apply List.ext_getElem?
  intro j
  by_cases hj : k = j
  · subst hj
    rw [List.getElem?_set_self (by simp [sjW, hk]), sjW_get hk, he]
  · rw [List.getElem?_set_ne hj]
    by_cases hn : j < N
    · rw [sjW_get hn, sjW_get hn, ho j (Ne.symm hj)]
    · rw [sjW_out hn, sjW_out hn]
def sjU (M : sjM) (k : Nat) (z : Int) (x : Int32) : sjM := fun a b => if a = k ∧ b = z then x else M a b
def sjV (L : sjL) (k : Nat) (z : Int) (x : Int64) : sjL := fun a b => if a = k ∧ b = z then x else L a b
theorem sjU_o {M : sjM} {k a : Nat} {z : Int} {x : Int32} (h : a ≠ k) : sjU M k z x a = M a := by
  funext b; simp [sjU, h]
theorem sjV_o {M : sjL} {k a : Nat} {z : Int} {x : Int64} (h : a ≠ k) : sjV M k z x a = M a := by
  funext b; simp [sjV, h]
theorem sjU_s (M : sjM) (k : Nat) (z b : Int) (x : Int32) : sjU M k z x k b = if b = z then x else M k b := by
  simp [sjU]
theorem sjV_s (M : sjL) (k : Nat) (z b : Int) (x : Int64) : sjV M k z x k b = if b = z then x else M k b := by
  simp [sjV]
/-- the locals: by slot -/
def sjH (ls : Array Slot) (nL : Nat) (lv : List (Option Value)) : Prop := ls.size = nL ∧ lv_wf ls ∧ ∀ (i : Nat) (v : Value), lv[i]? = some (some v) → ls[i]? = some (.val v)
def sjPr (lv : List (Option Value)) : List (Nat × Value) := (List.range lv.length).filterMap (fun i => match lv[i]? with | some (some v) => some (i, v) | _ => none)
theorem sjPr_mem {lv : List (Option Value)} {i : Nat} {v : Value} : (i, v) ∈ sjPr lv ↔ lv[i]? = some (some v) := by
  unfold sjPr
  rw [List.mem_filterMap]
  constructor
  · rintro ⟨j, -, hj⟩
    split at hj
    · rename_i w hw
      cases hj
      exact hw
    · cases hj
  · intro h
    refine ⟨i, ?_, by rw [h]⟩
    rw [List.mem_range]
    exact (List.getElem?_eq_some_iff.mp h).1
theorem sjH_has {ls : Array Slot} {nL : Nat} {lv : List (Option Value)} (h : sjH ls nL lv) : lv_has ls nL (sjPr lv) := ⟨h.1, h.2.1, fun q hq => h.2.2 q.1 q.2 (sjPr_mem.mp hq)⟩
def sjKill (lv : List (Option Value)) (i : Nat) : List (Option Value) := match i with
  | 0 => lv
  | j + 1 => match lv[j]? with
    | some (some v) => if v.category = 2 then lv.set j none else lv
    | _ => lv
theorem sjKill_get {lv : List (Option Value)} {i a : Nat} {v : Value} (h : (sjKill lv i)[a]? = some (some v)) : lv[a]? = some (some v) ∧ ¬ (a + 1 = i ∧ v.category = 2) := by
  unfold sjKill at h
  cases i with
  | zero => exact ⟨h, fun q => by omega⟩
  | succ j =>
    dsimp only at h
    split at h
    · rename_i w hw
      split at h
      · by_cases ha : j = a
        · subst ha
          rw [List.getElem?_set_self (List.getElem?_eq_some_iff.mp hw).1] at h
          cases h
        · rw [List.getElem?_set_ne ha] at h
          exact ⟨h, fun q => ha (by omega)⟩
      · rename_i hc
        refine ⟨h, fun q => ?_⟩
        have ha : a = j := by omega
        subst ha
        rw [hw] at h
        cases h
        exact hc q.2
    · rename_i hn
      refine ⟨h, fun q => ?_⟩
      have ha : a = j := by omega
      subst ha
      exact hn v h
def sjS1 (lv : List (Option Value)) (i : Nat) (v : Value) : List (Option Value) := (sjKill lv i).set i (some v)
def sjS2 (lv : List (Option Value)) (i : Nat) (v : Value) : List (Option Value) := ((sjKill lv i).set i (some v)).set (i + 1) none
theorem sjH_of1 {ls : Array Slot} {nL i : Nat} {lv : List (Option Value)} {v : Value} (h : lv_has ls nL ((i, v) :: (sjPr lv).filter (fun q => !(q.1 == i) && !(q.1 + 1 == i && q.2.category == 2)))) : sjH ls nL (sjS1 lv i v) := by
  refine ⟨h.1, h.2.1, fun a w hw => ?_⟩
  unfold sjS1 at hw
  by_cases ha : i = a
  · subst ha
    rw [List.getElem?_set_self'] at hw
    cases hq : (sjKill lv i)[i]? with
    | none => rw [hq] at hw; cases hw
    | some z =>
      rw [hq] at hw
      cases hw
      exact h.2.2 (i, v) List.mem_cons_self
  · rw [List.getElem?_set_ne ha] at hw
    obtain ⟨h1, h2⟩ := sjKill_get hw
    refine h.2.2 (a, w) (List.mem_cons_of_mem _ (List.mem_filter.mpr ⟨sjPr_mem.mpr h1, ?_⟩))
    simp only [Bool.and_eq_true, Bool.not_eq_true', beq_eq_false_iff_ne, ne_eq, Bool.and_eq_false_imp, beq_iff_eq]
    exact ⟨fun q => ha q.symm, fun q1 q2 => h2 ⟨q1, q2⟩⟩
theorem sjH_of2 {ls : Array Slot} {nL i : Nat} {lv : List (Option Value)} {v : Value} (h : lv_has ls nL ((i, v) :: (sjPr lv).filter (fun q => !(q.1 == i) && (!(q.1 == i + 1) && !(q.1 + 1 == i && q.2.category == 2))))) : sjH ls nL (sjS2 lv i v) := by
  refine ⟨h.1, h.2.1, fun a w hw => ?_⟩
  unfold sjS2 at hw
  by_cases hb : i + 1 = a
  · subst hb
    rw [List.getElem?_set_self'] at hw
    cases hq : ((sjKill lv i).set i (some v))[i + 1]? with
    | none => rw [hq] at hw; cases hw
    | some z => rw [hq] at hw; cases hw
  · rw [List.getElem?_set_ne hb] at hw
    by_cases ha : i = a
    · subst ha
      rw [List.getElem?_set_self'] at hw
      cases hq : (sjKill lv i)[i]? with
      | none => rw [hq] at hw; cases hw
      | some z =>
        rw [hq] at hw
        cases hw
        exact h.2.2 (i, v) List.mem_cons_self
    · rw [List.getElem?_set_ne ha] at hw
      obtain ⟨h1, h2⟩ := sjKill_get hw
      refine h.2.2 (a, w) (List.mem_cons_of_mem _ (List.mem_filter.mpr ⟨sjPr_mem.mpr h1, ?_⟩))
      simp only [Bool.and_eq_true, Bool.not_eq_true', beq_eq_false_iff_ne, ne_eq, Bool.and_eq_false_imp, beq_iff_eq]
      exact ⟨fun q => ha q.symm, fun q => hb q.symm, fun q1 q2 => h2 ⟨q1, q2⟩⟩
