/-! the invariant of a copy, and that a message's being DONE keeps it -/
def cn (f : Int → Int) : Nat → Int
  | 0 => 0
  | n + 1 => cn f n + f n
def iq (a b : Int) : Int := if a = b then 1 else 0
theorem iq_01 (a b : Int) : 0 ≤ iq a b ∧ iq a b ≤ 1 := by unfold iq; split <;> omega
theorem cn_congr {f g : Int → Int} : ∀ n : Nat, (∀ q : Int, 0 ≤ q → q < n → f q = g q) → cn f n = cn g n
  | 0, _ => rfl
  | n + 1, h => by
    rw [cn, cn, cn_congr n (fun q h1 h2 => h q h1 (by omega)), h n (by omega) (by omega)]
theorem cn_le {f : Int → Int} : ∀ n : Nat, (∀ q : Int, 0 ≤ q → q < n → 0 ≤ f q ∧ f q ≤ 1) → 0 ≤ cn f n ∧ cn f n ≤ n
  | 0, _ => ⟨by rw [cn]; omega, by rw [cn]; omega⟩
  | n + 1, h => by
    have h1 := cn_le n (fun q h1 h2 => h q h1 (by omega))
    have h2 := h n (by omega) (by omega)
    rw [cn]
    omega
theorem cn_up {f : Int → Int} {k v : Int} : ∀ n : Nat, 0 ≤ k → k < n → cn (fun q => if q = k then v else f q) n = cn f n + v - f k
  | 0, h1, h2 => by omega
  | n + 1, h1, h2 => by
    rw [cn, cn]
    by_cases h : k = n
    · subst h
      rw [if_pos rfl, cn_congr (g := f) n (fun q h3 h4 => if_neg (by omega))]
      omega
    · rw [cn_up n h1 (by omega), if_neg (by omega)]
      omega
theorem cn_lt {f : Int → Int} {k : Int} (n : Nat) (h : ∀ q : Int, 0 ≤ q → q < n → 0 ≤ f q ∧ f q ≤ 1) (h1 : 0 ≤ k) (h2 : k < n) (h3 : f k = 0) : cn f n < n := by
  have e := cn_up (f := f) (v := 1) n h1 h2
  have e2 := cn_le (f := fun q => if q = k then 1 else f q) n (fun q q0 q1 => by
    try dsimp only
    split
    · omega
    · exact h q q0 q1)
  omega
theorem cn_pos {f : Int → Int} {k : Int} (n : Nat) (h : ∀ q : Int, 0 ≤ q → q < n → 0 ≤ f q ∧ f q ≤ 1) (h1 : 0 ≤ k) (h2 : k < n) (h3 : f k = 1) : 1 ≤ cn f n := by
  have e := cn_up (f := f) (v := 0) n h1 h2
  have e2 := cn_le (f := fun q => if q = k then 0 else f q) n (fun q q0 q1 => by
    try dsimp only
    split
    · omega
    · exact h q q0 q1)
  omega
/-- a row with one more in it, at a -/
theorem cn_ins {g : Int → Int} {s : Int → Int} {c a : Int} (ha : 0 ≤ a) : ∀ n : Nat, a ≤ n → cn (fun q => g (if q = a then c else if a < q then s (q - 1) else s q)) (n + 1) = cn (fun q => g (s q)) n + g c
  | 0, h => by
    have : a = 0 := by omega
    subst this
    simp [cn]
  | n + 1, h => by
    by_cases h1 : a = n + 1
    · subst h1
      rw [cn]
      try dsimp only
      rw [if_pos (by omega)]
      rw [cn_congr (g := fun q => g (s q)) (n + 1) (fun q h3 h4 => by
        try dsimp only
        rw [if_neg (by omega), if_neg (by omega)])]
    · rw [cn, cn_ins ha n (by omega), cn]
      try dsimp only
      rw [if_neg (by omega), if_pos (by omega)]
      have : ((n + 1 : Nat) : Int) - 1 = (n : Int) := by omega
      rw [this]
      omega
def srtL (lt : Int → Int → Prop) (X : aS) : Prop := ∀ a b, 0 ≤ a → a < b → b < X 0 0 → lt (X 1 a) (X 1 b)
/-- what is known of the messages at a copy -/
def stOK (T X : aS) : Prop := (∀ k, 0 ≤ k → k < 160 → X 4 k = 0 ∨ X 4 k = 1 ∨ X 4 k = 2) ∧ (∀ k, T 0 1 ≤ k → k < 160 → X 4 k = 0) ∧ (∀ k, aHasM T k → T 6 k = 0 → (X 4 k = 2 ↔ ¬ X 2 (T 8 k) = -2)) ∧ (∀ k, aHasM T k → T 6 k = 1 → X 4 k = 2 → ¬ X 2 (T 8 k) = -2) ∧ ∀ c, 0 ≤ c → c < 60 → X 3 c = 0 ∨ (X 3 c = 1 ∧ ¬ X 2 c = -2)
def pres (X : aS) (c : Int) : Int := if X 2 c = -2 then 0 else 1
def nSeen (X : aS) : Int := cn (fun q => iq (X 3 (X 1 q)) 0) (X 0 0).toNat
def nSt (X : aS) (v : Int) : Int := cn (fun k => iq (X 4 k) v) 160
def cntOK (X : aS) : Prop := X 0 0 = cn (pres X) 60 ∧ X 0 1 = nSeen X ∧ X 0 2 = nSt X 2 ∧ 0 ≤ X 0 6 ∧ X 0 6 ≤ X 0 0
def cInv (T : aS) (lt : Int → Int → Prop) (X : aS) : Prop := cpOK T X ∧ srtL lt X ∧ stOK T X ∧ cntOK X ∧ X 0 3 = nSt X 1
/-- what is known of a text -/
def tInv (T : aS) : Prop := 0 ≤ T 0 0 ∧ T 0 0 ≤ 60 ∧ 0 ≤ T 0 1 ∧ T 0 1 ≤ 160 ∧ tRef T ∧ (∀ k, aHasM T k → (T 6 k = 0 ∨ T 6 k = 1) ∧ aHasC T (T 8 k)) ∧ ∀ k k', aHasM T k → aHasM T k' → T 6 k = 0 → T 6 k' = 0 → T 8 k = T 8 k' → k = k'
/-- the text's rule puts a CHARACTER where the order has it -/
def oOK (T : aS) (w : Bool) (lt : Int → Int → Prop) : Prop := ∀ X c, cpOK T X → srtL lt X → aHasC T c → X 2 c = -2 → inX X (aLeft T c) → inX X (aRight T c) → 0 ≤ (aPut T w X c).1 ∧ (aPut T w X c).1 ≤ X 0 0 ∧ aPl X (aLeft T c) < (aPut T w X c).1 ∧ (aPut T w X c).1 ≤ aPl X (aRight T c) ∧ (∀ q, 0 ≤ q → q < (aPut T w X c).1 → lt (X 1 q) c) ∧ ∀ q, (aPut T w X c).1 ≤ q → q < X 0 0 → lt c (X 1 q)
theorem oOK_w {T : aS} {key : Int → List Nat} (hw : wOK T key) (hf : tRef T) : oOK T true (fun a b => wl (key a) (key b)) := fun X c h hs hc hn hl hr => woot_place hw hf h hs hc hn hl hr
theorem oOK_y {T : aS} {ρ : Int → Int} (hy : yOK T ρ) (hf : tRef T) : oOK T false (fun a b => ρ a < ρ b) := fun X c h hs hc hn hl hr => yata_place hy hf h hs hc hn hl hr
theorem aIns_1 (X : aS) (c a z : Int) : aIns X c a 1 z = if z = a then c else if a < z ∧ z ≤ X 0 0 then X 1 (z - 1) else X 1 z := by
  unfold aIns aUp aSh
  by_cases h : z = a <;> simp [h]
theorem aIns_2 (X : aS) (c a z : Int) : aIns X c a 2 z = if z = c then a else if 0 ≤ z ∧ z < 60 ∧ a ≤ X 2 z then X 2 z + 1 else X 2 z := by
  unfold aIns aUp aSh
  by_cases h : z = c <;> simp [h]
theorem aIns_3 (X : aS) (c a z : Int) : aIns X c a 3 z = X 3 z := by
  unfold aIns aUp aSh; simp
theorem aIns_4 (X : aS) (c a z : Int) : aIns X c a 4 z = X 4 z := by
  unfold aIns aUp aSh; simp
theorem aIns_0 (X : aS) (c a z : Int) : aIns X c a 0 z = if z = 6 then X 0 6 + 1 else if z = 1 then X 0 1 + 1 else if z = 0 then X 0 0 + 1 else X 0 z := by
  unfold aIns aUp aSh; simp
/-- the same cells, read by cpOK -/
theorem cpOK_of {T X Y : aS} (h : cpOK T X) (h0 : Y 0 0 = X 0 0) (h1 : Y 1 = X 1) (h2 : Y 2 = X 2) : cpOK T Y := by
  unfold cpOK inX at h ⊢
  rw [h0, h1, h2]
  exact h
theorem cpOK_seq {T X : aS} (h : cpOK T X) : seqOK X := ⟨h.1, h.2.1, fun q q0 q1 => ⟨(h.2.2.1 q q0 q1).1.1, (h.2.2.1 q q0 q1).1.2.2, (h.2.2.1 q q0 q1).2⟩, h.2.2.2.1⟩
theorem ins_pres {X : aS} {c a : Int} (h : seqOK X) (hc0 : 0 ≤ c) (hc1 : c < 60) (ha : 0 ≤ a) (z : Int) (z0 : 0 ≤ z) (z1 : z < 60) : (aIns X c a 2 z = -2 ↔ (X 2 z = -2 ∧ ¬ z = c)) := by
  rw [aIns_2]
  by_cases hz : z = c
  · rw [if_pos hz]
    constructor
    · intro w; omega
    · intro w; exact absurd hz w.2
  · rw [if_neg hz]
    rcases h.2.2.2 z z0 z1 with q | q
    · rw [if_neg (by omega)]
      exact ⟨fun w => ⟨w, hz⟩, fun w => w.1⟩
    · split
      · constructor
        · intro w; omega
        · intro w; omega
      · constructor
        · intro w; omega
        · intro w; omega
theorem ins_cp {T X : aS} {c a : Int} (h : cpOK T X) (hf : tRef T) (hc : aHasC T c) (hn : X 2 c = -2) (hl : inX X (aLeft T c)) (hr : inX X (aRight T c)) (ha : 0 ≤ a) (ha1 : a ≤ X 0 0) (h60 : X 0 0 < 60) : cpOK T (aIns X c a) := by
  have hs := cpOK_seq h
  have hp := ins_pres (a := a) hs hc.1 hc.2.2 ha
  obtain ⟨p0, p1, p2, p3, p4⟩ := h
  have e0 : aIns X c a 0 0 = X 0 0 + 1 := by rw [aIns_0]; simp
  have hin : ∀ x, inX X x → inX (aIns X c a) x := by
    intro x hx
    rcases hx with w | w | ⟨w0, w1, w2⟩
    · exact Or.inl w
    · exact Or.inr (Or.inl w)
    · exact Or.inr (Or.inr ⟨w0, w1, fun v => w2 ((hp x w0 w1).mp v).1⟩)
  refine ⟨by omega, by omega, fun q q0 q1 => ?_, fun z z0 z1 => ?_, fun z z0 z1 zp => ?_⟩
  · rw [e0] at q1
    rw [aIns_1]
    by_cases hq : q = a
    · rw [if_pos hq]
      exact ⟨hc, by rw [aIns_2, if_pos rfl, hq]⟩
    · rw [if_neg hq]
      by_cases hq2 : a < q ∧ q ≤ X 0 0
      · rw [if_pos hq2]
        obtain ⟨w1, w2⟩ := p2 (q - 1) (by omega) (by omega)
        refine ⟨w1, ?_⟩
        rw [aIns_2, if_neg (fun v => by rw [v, hn] at w2; omega), if_pos ⟨w1.1, w1.2.2, by omega⟩]
        omega
      · rw [if_neg hq2]
        obtain ⟨w1, w2⟩ := p2 q (by omega) (by omega)
        refine ⟨w1, ?_⟩
        rw [aIns_2, if_neg (fun v => by rw [v, hn] at w2; omega), if_neg (by omega)]
        exact w2
  · by_cases hz : z = c
    · subst hz
      rw [aIns_2, if_pos rfl, aIns_1, if_pos rfl]
      exact Or.inr ⟨ha, by omega, rfl⟩
    · rw [aIns_2, if_neg hz]
      rcases p3 z z0 z1 with w | w
      · rw [if_neg (by omega)]; exact Or.inl w
      · by_cases hq : a ≤ X 2 z
        · rw [if_pos ⟨z0, z1, hq⟩, aIns_1, if_neg (by omega), if_pos (by omega)]
          refine Or.inr ⟨by omega, by omega, ?_⟩
          rw [show X 2 z + 1 - 1 = X 2 z by omega]
          exact w.2.2
        · rw [if_neg (by omega), aIns_1, if_neg (by omega), if_neg (by omega)]
          exact Or.inr ⟨by omega, by omega, w.2.2⟩
  · by_cases hz : z = c
    · subst hz
      exact ⟨hin _ hl, hin _ hr⟩
    · obtain ⟨w1, w2⟩ := p4 z z0 z1 (fun v => zp ((hp z z0 z1).mpr ⟨v, hz⟩))
      exact ⟨hin _ w1, hin _ w2⟩
theorem ins_srt {lt : Int → Int → Prop} {X : aS} {c a : Int} (h0 : 0 ≤ X 0 0) (hs : srtL lt X) (ha : 0 ≤ a) (ha1 : a ≤ X 0 0) (h1 : ∀ q, 0 ≤ q → q < a → lt (X 1 q) c) (h2 : ∀ q, a ≤ q → q < X 0 0 → lt c (X 1 q)) : srtL lt (aIns X c a) := by
  have e0 : aIns X c a 0 0 = X 0 0 + 1 := by rw [aIns_0]; simp
  intro u v u0 uv v1
  rw [e0] at v1
  rw [aIns_1, aIns_1]
  by_cases hu : u = a
  · rw [if_pos hu, if_neg (by omega), if_pos (by omega)]
    exact h2 _ (by omega) (by omega)
  · rw [if_neg hu]
    by_cases hv : v = a
    · rw [if_pos hv, if_neg (by omega)]
      exact h1 _ u0 (by omega)
    · rw [if_neg hv]
      by_cases hu2 : a < u ∧ u ≤ X 0 0
      · rw [if_pos hu2, if_pos (by omega)]
        exact hs _ _ (by omega) (by omega) (by omega)
      · rw [if_neg hu2]
        by_cases hv2 : a < v ∧ v ≤ X 0 0
        · rw [if_pos hv2]
          exact hs _ _ (by omega) (by omega) (by omega)
        · rw [if_neg hv2]
          exact hs _ _ (by omega) (by omega) (by omega)
theorem pres_01 (X : aS) (c : Int) : 0 ≤ pres X c ∧ pres X c ≤ 1 := by unfold pres; split <;> omega
theorem len_lt {T X : aS} {c : Int} (h : cntOK X) (hc : aHasC T c) (hn : X 2 c = -2) : X 0 0 < 60 := by
  rw [h.1]
  exact cn_lt 60 (fun q _ _ => pres_01 X q) hc.1 hc.2.2 (by unfold pres; rw [if_pos hn])
theorem nSt_up (X : aS) {k v u : Int} (h0 : 0 ≤ k) (h1 : k < 160) : nSt (aUp X 4 k v) u = nSt X u + iq v u - iq (X 4 k) u := by
  unfold nSt
  rw [← cn_up (f := fun q => iq (X 4 q) u) (v := iq v u) 160 h0 (by omega)]
  refine cn_congr 160 (fun q _ _ => ?_)
  try dsimp only
  unfold aUp
  by_cases h : q = k <;> simp [h]
theorem nSt_of {X Y : aS} (h : Y 4 = X 4) (u : Int) : nSt Y u = nSt X u := by unfold nSt; rw [h]
theorem kind_in {T : aS} {k : Int} (h : aHasM T k) : aKind T k = T 6 k := by unfold aKind; rw [if_pos h]
theorem subj_in {T : aS} {k : Int} (h : aHasM T k) : aSubj T k = T 8 k := by unfold aSubj; rw [if_pos h]
theorem aPl_of {X Y : aS} (h0 : Y 0 0 = X 0 0) (h2 : Y 2 = X 2) (c : Int) : aPl Y c = aPl X c := by unfold aPl; rw [h0, h2]
theorem pl_in {T X : aS} (h : cpOK T X) {a : Int} (ha : isR T a) (hp : ¬ aPl X a = -2) : inX X a := by
  rcases ha with w | w | w
  · exact Or.inl w
  · exact Or.inr (Or.inl w)
  · rw [pl_char w.1 w.2.2] at hp
    exact Or.inr (Or.inr ⟨w.1, w.2.2, hp⟩)
/-- the cells of aMk -/
theorem aMk_1 (X : aS) (k : Int) : aMk X k 1 = X 1 := by funext z; unfold aMk aUp; simp
theorem aMk_2 (X : aS) (k : Int) : aMk X k 2 = X 2 := by funext z; unfold aMk aUp; simp
theorem aMk_3 (X : aS) (k : Int) : aMk X k 3 = X 3 := by funext z; unfold aMk aUp; simp
theorem aMk_4 (X : aS) (k : Int) : aMk X k 4 = aUp X 4 k 2 4 := by funext z; unfold aMk aUp; simp
theorem aMk_0 (X : aS) (k z : Int) : aMk X k 0 z = if z = 2 then X 0 2 + 1 else X 0 z := by unfold aMk aUp; simp
theorem st_up (X : aS) (k z : Int) : aUp X 4 k 2 4 z = if z = k then 2 else X 4 z := by unfold aUp; simp
theorem do_erase {T : aS} {lt : Int → Int → Prop} {w : Bool} {X : aS} {k : Int} (ht : tInv T) (hcp : cpOK T X) (hs : srtL lt X) (hst : stOK T X) (hcnt : cntOK X) (h3 : X 0 3 = nSt X 1 - iq (X 4 k) 1) (hk : aHasM T k) (hcan : aCan T X k) (hnd : ¬ X 4 k = 2) (hke : T 6 k = 1) : cInv T lt (aDo T w X k) := by
  obtain ⟨t0, t1, t2, t3, t4, t5, t6⟩ := ht
  obtain ⟨s1, s2, s3, s4, s5⟩ := hst
  obtain ⟨n1, n2, n3, n4, n5⟩ := hcnt
  have hc := (t5 k hk).2
  have hpres : ¬ X 2 (T 8 k) = -2 := by
    rcases hcan with q | q
    · rw [subj_in hk, pl_char hc.1 hc.2.2] at q; exact q.2
    · rw [kind_in hk] at q; exact absurd hke q.1
  unfold aDo
  rw [kind_in hk, if_pos hke, subj_in hk]
  have hY4 := aMk_4 X k
  unfold aStrike
  have stY : ∀ Y : aS, Y 2 = X 2 → Y 4 = aUp X 4 k 2 4 → (∀ c, 0 ≤ c → c < 60 → Y 3 c = 0 ∨ (Y 3 c = 1 ∧ ¬ Y 2 c = -2)) → stOK T Y := by
    intro Y y2 y4 y3
    refine ⟨fun j j0 j1 => ?_, fun j j0 j1 => ?_, fun j j0 j1 => ?_, fun j j0 j1 => ?_, y3⟩
    · rw [y4, st_up]; split
      · exact Or.inr (Or.inr rfl)
      · exact s1 j j0 j1
    · rw [y4, st_up, if_neg (by have := hk.2.1; omega)]; exact s2 j j0 j1
    · rw [y4, y2, st_up, if_neg (fun q => by rw [q] at j1; omega)]; exact s3 j j0 j1
    · rw [y4, y2, st_up]
      split
      · rename_i q; rw [q]; exact fun _ => hpres
      · exact s4 j j0 j1
  have nst2 : ∀ Y : aS, Y 4 = aUp X 4 k 2 4 → nSt Y 2 = nSt X 2 + 1 ∧ nSt Y 1 = nSt X 1 - iq (X 4 k) 1 := by
    intro Y y4
    rw [nSt_of (X := aUp X 4 k 2) y4 2, nSt_of (X := aUp X 4 k 2) y4 1, nSt_up X hk.1 hk.2.2, nSt_up X hk.1 hk.2.2]
    have e1 : iq 2 2 = 1 := rfl
    have e2 : iq 2 1 = 0 := rfl
    have e3 : iq (X 4 k) 2 = 0 := by unfold iq; rw [if_neg hnd]
    omega
  by_cases hsn : aSeen (aMk X k) (T 8 k)
  · rw [if_pos hsn]
    have he0 : X 3 (T 8 k) = 0 := by have := hsn.2.2.2; rw [aMk_3] at this; exact this
    generalize hY : aUp (aUp (aMk X k) 3 (T 8 k) 1) 0 1 (aMk X k 0 1 - 1) = Y
    have y1 : Y 1 = X 1 := by rw [← hY, ← aMk_1 X k]; funext z; unfold aUp; simp
    have y2 : Y 2 = X 2 := by rw [← hY, ← aMk_2 X k]; funext z; unfold aUp; simp
    have y4 : Y 4 = aUp X 4 k 2 4 := by rw [← hY, ← aMk_4 X k]; funext z; unfold aUp; simp
    have y3 : ∀ z, Y 3 z = if z = T 8 k then 1 else X 3 z := by intro z; rw [← hY, ← aMk_3 X k]; unfold aUp; simp
    have y0 : ∀ z, Y 0 z = if z = 1 then X 0 1 - 1 else if z = 2 then X 0 2 + 1 else X 0 z := by
      intro z
      have := aMk_0 X k z
      have h1 := aMk_0 X k 1
      rw [← hY]
      unfold aUp
      by_cases hz : z = 1
      · simp [hz, h1]
      · simp [hz, this]
    have y00 : Y 0 0 = X 0 0 := by rw [y0]; simp
    refine ⟨cpOK_of hcp y00 y1 y2, ?_, stY Y y2 y4 (fun c c0 c1 => ?_), ⟨?_, ?_, ?_, ?_, ?_⟩, ?_⟩
    · unfold srtL; rw [y00, y1]; exact hs
    · rw [y3, y2]; split
      · rename_i q; rw [q]; exact Or.inr ⟨rfl, hpres⟩
      · exact s5 c c0 c1
    · rw [y00, n1]; refine cn_congr 60 (fun q _ _ => ?_); unfold pres; rw [y2]
    · rw [y0, if_pos rfl, n2]
      unfold nSeen
      rw [y00, y1]
      obtain ⟨c1, c2, c3, c4⟩ := cp_has hcp hc.1 hc.2.2 hpres
      have e := cn_up (f := fun q => iq (X 3 (X 1 q)) 0) (v := 0) (k := X 2 (T 8 k)) (X 0 0).toNat c2 (by omega)
      have e1 : iq (X 3 (X 1 (X 2 (T 8 k)))) 0 = 1 := by rw [c4, he0]; rfl
      have e2 : cn (fun q => iq (Y 3 (X 1 q)) 0) (X 0 0).toNat = cn (fun q => if q = X 2 (T 8 k) then 0 else iq (X 3 (X 1 q)) 0) (X 0 0).toNat := by
        refine cn_congr _ (fun q q0 q1 => ?_)
        try dsimp only
        rw [y3]
        by_cases hq : q = X 2 (T 8 k)
        · rw [if_pos hq, hq, c4, if_pos rfl]; rfl
        · rw [if_neg hq, if_neg (fun v => hq (by have := (hcp.2.2.1 q q0 (by omega)).2; rw [v] at this; omega))]
      rw [e2, e]
      omega
    · rw [y0, if_neg (by omega), if_pos rfl, (nst2 Y y4).1, n3]
    · rw [y0]; simp; exact n4
    · rw [y00, y0]; simp; exact n5
    · rw [y0]; simp; rw [(nst2 Y y4).2]; exact h3
  · rw [if_neg hsn]
    have y00 : aMk X k 0 0 = X 0 0 := by rw [aMk_0]; simp
    refine ⟨cpOK_of hcp y00 (aMk_1 X k) (aMk_2 X k), ?_, stY _ (aMk_2 X k) hY4 (fun c c0 c1 => ?_), ⟨?_, ?_, ?_, ?_, ?_⟩, ?_⟩
    · unfold srtL; rw [y00, aMk_1]; exact hs
    · rw [aMk_3, aMk_2]; exact s5 c c0 c1
    · rw [y00, n1]; refine cn_congr 60 (fun q _ _ => ?_); unfold pres; rw [aMk_2]
    · rw [aMk_0]; simp; rw [n2]; unfold nSeen; rw [y00, aMk_1, aMk_3]
    · rw [aMk_0, if_pos rfl, (nst2 _ hY4).1, n3]
    · rw [aMk_0]; simp; exact n4
    · rw [y00, aMk_0]; simp; exact n5
    · rw [aMk_0]; simp; rw [(nst2 _ hY4).2]; exact h3
theorem do_insert {T : aS} {lt : Int → Int → Prop} {w : Bool} {X : aS} {k : Int} (ht : tInv T) (ho : oOK T w lt) (hcp : cpOK T X) (hs : srtL lt X) (hst : stOK T X) (hcnt : cntOK X) (h3 : X 0 3 = nSt X 1 - iq (X 4 k) 1) (hk : aHasM T k) (hcan : aCan T X k) (hnd : ¬ X 4 k = 2) (hke : ¬ T 6 k = 1) : cInv T lt (aDo T w X k) ∧ X 2 (T 8 k) = -2 ∧ X 0 0 < 60 ∧ inX X (aLeft T (T 8 k)) ∧ inX X (aRight T (T 8 k)) ∧ 0 ≤ (aPut T w (aMk X k) (T 8 k)).1 ∧ (aPut T w (aMk X k) (T 8 k)).1 ≤ X 0 0 := by
  have ht' := ht
  obtain ⟨t0, t1, t2, t3, t4, t5, t6⟩ := ht
  obtain ⟨s1, s2, s3, s4, s5⟩ := hst
  have hcnt' := hcnt
  obtain ⟨n1, n2, n3, n4, n5⟩ := hcnt
  have hc := (t5 k hk).2
  have hk0 : T 6 k = 0 := by rcases (t5 k hk).1 with q | q; exact q; exact absurd q hke
  have hn : X 2 (T 8 k) = -2 := Decidable.byContradiction (fun q => hnd ((s3 k hk hk0).mpr q))
  have hin : inX X (aLeft T (T 8 k)) ∧ inX X (aRight T (T 8 k)) := by
    rcases hcan with q | q
    · rw [kind_in hk] at q; exact absurd q.1 hke
    · rw [subj_in hk] at q
      exact ⟨pl_in hcp (tRef_l t4 hc) q.2.1, pl_in hcp (tRef_r t4 hc) q.2.2⟩
  have h60 := len_lt hcnt' hc hn
  have y00 : aMk X k 0 0 = X 0 0 := by rw [aMk_0]; simp
  have cpM : cpOK T (aMk X k) := cpOK_of hcp y00 (aMk_1 X k) (aMk_2 X k)
  have srM : srtL lt (aMk X k) := by unfold srtL; rw [y00, aMk_1]; exact hs
  have hinM : ∀ a, inX X a → inX (aMk X k) a := by intro a q; unfold inX; rw [aMk_2]; exact q
  obtain ⟨p1, p2, p3, p4, p5, p6⟩ := ho (aMk X k) (T 8 k) cpM srM hc (by rw [aMk_2]; exact hn) (hinM _ hin.1) (hinM _ hin.2)
  rw [y00] at p2 p6
  rw [aMk_1] at p5 p6
  refine ⟨?_, hn, h60, hin.1, hin.2, p1, p2⟩
  unfold aDo
  rw [kind_in hk, if_neg hke, subj_in hk]
  generalize (aPut T w (aMk X k) (T 8 k)).1 = a at p1 p2 p3 p4 p5 p6 ⊢
  generalize wr (X 0 5 + (aPut T w (aMk X k) (T 8 k)).2) = lk
  generalize hZ : aUp (aMk X k) 0 5 lk = Z
  have z1 : Z 1 = X 1 := by rw [← hZ, ← aMk_1 X k]; funext z; unfold aUp; simp
  have z2 : Z 2 = X 2 := by rw [← hZ, ← aMk_2 X k]; funext z; unfold aUp; simp
  have z3 : Z 3 = X 3 := by rw [← hZ, ← aMk_3 X k]; funext z; unfold aUp; simp
  have z4 : Z 4 = aUp X 4 k 2 4 := by rw [← hZ, ← aMk_4 X k]; funext z; unfold aUp; simp
  have z0 : ∀ z, ¬ z = 5 → Z 0 z = if z = 2 then X 0 2 + 1 else X 0 z := by
    intro z hz
    rw [← hZ, ← aMk_0 X k z]
    unfold aUp
    simp [hz]
  have z00 : Z 0 0 = X 0 0 := by rw [z0 0 (by omega)]; simp
  have cpZ : cpOK T Z := cpOK_of hcp z00 z1 z2
  have hsZ := cpOK_seq cpZ
  have hinZ : ∀ x, inX X x → inX Z x := by intro x q; unfold inX; rw [z2]; exact q
  have hpr := ins_pres (a := a) hsZ hc.1 hc.2.2 p1
  have e0 : aIns Z (T 8 k) a 0 0 = X 0 0 + 1 := by rw [aIns_0, z00]; simp
  have y4 : (aIns Z (T 8 k) a) 4 = aUp X 4 k 2 4 := by rw [← z4]; funext z; exact aIns_4 Z _ _ z
  refine ⟨ins_cp cpZ t4 hc (by rw [z2]; exact hn) (hinZ _ hin.1) (hinZ _ hin.2) p1 (by rw [z00]; exact p2) (by rw [z00]; exact h60), ?_, ⟨fun j j0 j1 => ?_, fun j j0 j1 => ?_, fun j j0 j1 => ?_, fun j j0 j1 => ?_, fun c c0 c1 => ?_⟩, ⟨?_, ?_, ?_, ?_, ?_⟩, ?_⟩
  · refine ins_srt (by rw [z00]; exact hcp.1) ?_ p1 (by rw [z00]; exact p2) (by rw [z1]; exact p5) (by rw [z1, z00]; exact p6)
    unfold srtL; rw [z00, z1]; exact hs
  · rw [y4, st_up]; split
    · exact Or.inr (Or.inr rfl)
    · exact s1 j j0 j1
  · rw [y4, st_up, if_neg (by have := hk.2.1; omega)]; exact s2 j j0 j1
  · have hj := (t5 j j0).2
    have hq := hpr (T 8 j) hj.1 hj.2.2
    rw [z2] at hq
    rw [y4, st_up]
    by_cases hjk : j = k
    · rw [if_pos hjk, hq, hjk]
      exact ⟨fun _ v => v.2 rfl, fun _ => rfl⟩
    · rw [if_neg hjk, s3 j j0 j1, hq]
      have hne : ¬ T 8 j = T 8 k := fun v => hjk (t6 j k j0 hk j1 hk0 v)
      exact ⟨fun u v => u v.1, fun u v => u ⟨v, hne⟩⟩
  · have hj := (t5 j j0).2
    have hq := hpr (T 8 j) hj.1 hj.2.2
    rw [z2] at hq
    rw [y4, st_up, if_neg (fun v => by rw [v] at j1; omega)]
    intro v u
    exact s4 j j0 j1 v (hq.mp u).1
  · have hq := hpr c c0 c1
    rw [z2] at hq
    rw [aIns_3, z3]
    rcases s5 c c0 c1 with v | v
    · exact Or.inl v
    · exact Or.inr ⟨v.1, fun u => v.2 (hq.mp u).1⟩
  · rw [e0, n1]
    have e := cn_up (f := pres X) (v := 1) (k := T 8 k) 60 hc.1 hc.2.2
    have e1 : pres X (T 8 k) = 0 := by unfold pres; rw [if_pos hn]
    have e2 : cn (pres (aIns Z (T 8 k) a)) 60 = cn (fun q => if q = T 8 k then 1 else pres X q) 60 := by
      refine cn_congr 60 (fun q q0 q1 => ?_)
      try dsimp only
      have hq := hpr q q0 q1
      rw [z2] at hq
      unfold pres
      by_cases hqc : q = T 8 k
      · rw [if_pos hqc, if_neg (fun u => (hq.mp u).2 hqc)]
      · rw [if_neg hqc]
        by_cases hx : X 2 q = -2
        · rw [if_pos hx, if_pos (hq.mpr ⟨hx, hqc⟩)]
        · rw [if_neg hx, if_neg (fun u => hx (hq.mp u).1)]
    rw [e2, e]
    omega
  · rw [aIns_0, if_neg (by omega), if_pos rfl, z0 1 (by omega), if_neg (by omega), n2]
    unfold nSeen
    rw [e0, show (X 0 0 + 1).toNat = (X 0 0).toNat + 1 by have := hcp.1; omega]
    have e := cn_ins (g := fun c => iq (X 3 c) 0) (s := X 1) (c := T 8 k) p1 (X 0 0).toNat (by have := hcp.1; omega)
    have he : iq (X 3 (T 8 k)) 0 = 1 := by
      rcases s5 (T 8 k) hc.1 hc.2.2 with v | v
      · rw [v]; rfl
      · exact absurd hn v.2
    have e2 : cn (fun q => iq (aIns Z (T 8 k) a 3 (aIns Z (T 8 k) a 1 q)) 0) ((X 0 0).toNat + 1) = cn (fun q => iq (X 3 (if q = a then T 8 k else if a < q then X 1 (q - 1) else X 1 q)) 0) ((X 0 0).toNat + 1) := by
      refine cn_congr _ (fun q q0 q1 => ?_)
      try dsimp only
      rw [aIns_3, z3, aIns_1, z1, z00]
      by_cases hqa : q = a
      · rw [if_pos hqa, if_pos hqa]
      · rw [if_neg hqa, if_neg hqa]
        by_cases hqb : a < q
        · rw [if_pos hqb, if_pos ⟨hqb, by have := hcp.1; omega⟩]
        · rw [if_neg hqb, if_neg (fun v => hqb v.1)]
    try dsimp only at e
    rw [e2, e, he]
  · have e1 : nSt (aIns Z (T 8 k) a) 2 = nSt X 2 + 1 := by
      rw [nSt_of (X := aUp X 4 k 2) y4 2, nSt_up X hk.1 hk.2.2]
      have e1 : iq 2 2 = 1 := rfl
      have e3 : iq (X 4 k) 2 = 0 := by unfold iq; rw [if_neg hnd]
      omega
    rw [aIns_0, z0 2 (by omega), e1, n3]
    simp
  · rw [aIns_0, if_pos rfl, z0 6 (by omega)]; simp; omega
  · rw [aIns_0, if_pos rfl, z0 6 (by omega), e0]; simp; omega
  · have e1 : nSt (aIns Z (T 8 k) a) 1 = nSt X 1 - iq (X 4 k) 1 := by
      rw [nSt_of (X := aUp X 4 k 2) y4 1, nSt_up X hk.1 hk.2.2]
      have e2 : iq 2 1 = 0 := rfl
      omega
    rw [aIns_0, z0 3 (by omega), e1]
    simp
    exact h3
theorem do_inv {T : aS} {lt : Int → Int → Prop} {w : Bool} {X : aS} {k : Int} (ht : tInv T) (ho : oOK T w lt) (hcp : cpOK T X) (hs : srtL lt X) (hst : stOK T X) (hcnt : cntOK X) (h3 : X 0 3 = nSt X 1 - iq (X 4 k) 1) (hk : aHasM T k) (hcan : aCan T X k) (hnd : ¬ X 4 k = 2) : cInv T lt (aDo T w X k) := by
  by_cases h : T 6 k = 1
  · exact do_erase ht hcp hs hst hcnt h3 hk hcan hnd h
  · exact (do_insert ht ho hcp hs hst hcnt h3 hk hcan hnd h).1
