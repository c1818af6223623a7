/-! both sides at once -/
def tF (M : sjM) (t : Int) : aS := vT M t.toNat
def xF (M : sjM) (i : Int) : aS := vX M i.toNat
def uOut (MC MR : sjM) : Prop := MR 0 3 = MC 0 0 ∧ (0 ≤ (MC 0 0).toInt ∧ (MC 0 0).toInt ≤ 60) ∧ ∀ z, 0 ≤ z → z < (MC 0 0).toInt → MR 19 z = MC 8 z
def RR (MC MR : sjM) : Prop := ∃ lts : Int → Int → Int → Prop, gAll (tF MC) (xF MC) lts ∧ rAll (tF MC) (xF MC) MR ∧ uOut MC MR
theorem tI_x {x y : Int} (h : okTS x y) : tI (x * 5 + y).toNat = x.toNat := by
  obtain ⟨h1, h2, h3, h4⟩ := h
  unfold tI
  rcases (show x = 0 ∨ x = 1 by omega) with q | q
  · subst q
    rw [if_pos (by omega)]
    rfl
  · subst q
    rw [if_neg (by omega), if_pos (by omega)]
    rfl
theorem vT_x (M : sjM) {x y : Int} (h : okTS x y) : vT M (tI (x * 5 + y).toNat) = tF M x := by rw [tI_x h]; rfl
theorem vX_x (M : sjM) (x y : Int) : vX M (x * 5 + y).toNat = xF M (5 * x + y) := by unfold xF; rw [Int.mul_comm x 5]
theorem w_x {x y : Int} (h : okTS x y) : decide (tI (x * 5 + y).toNat = 0) = decide (x = 0) := by
  rw [tI_x h]
  have := h.1
  exact decide_eq_decide.mpr (by omega)
theorem gAll_c {Tf Tf' Xf Xf' : Int → aS} {lts : Int → Int → Int → Prop} (h : gAll Tf Xf lts) (hT : ∀ t, 0 ≤ t → t < 2 → Tf' t = Tf t) (hX : ∀ i, 0 ≤ i → i < 10 → Xf' i = Xf i) : gAll Tf' Xf' lts := by
  refine ⟨fun t h0 h1 => by rw [hT t h0 h1]; exact h.1 t h0 h1, fun t s h0 h1 h2 h3 => ?_⟩
  rw [hT t h0 h1, hX (5 * t + s) (by omega) (by omega)]
  exact h.2 t s h0 h1 h2 h3
theorem rAll_c {Tf Tf' Xf Xf' : Int → aS} {M : sjM} (h : rAll Tf Xf M) (hT : ∀ t, 0 ≤ t → t < 2 → Tf' t = Tf t) (hX : ∀ i, 0 ≤ i → i < 10 → Xf' i = Xf i) : rAll Tf' Xf' M := by
  refine ⟨fun t h0 h1 => by rw [hT t h0 h1]; exact h.1 t h0 h1, fun i h0 h1 => ?_⟩
  rw [hX i h0 h1]
  exact h.2 i h0 h1
theorem pInv_of {M : sjM} {lts : Int → Int → Int → Prop} (hg : gAll (tF M) (xF M) lts) : pInv M (fun t => lts (t : Int)) := by
  intro i hi
  have key : ∀ (t : Nat), t < 2 → tI i = t → ∀ s : Int, 0 ≤ s → s < 5 → ((i : Int) = 5 * (t : Int) + s) → tInv (vT M (tI i)) ∧ oOK (vT M (tI i)) (decide (tI i = 0)) (lts ((tI i : Nat) : Int)) ∧ cInv (vT M (tI i)) (lts ((tI i : Nat) : Int)) (vX M i) := by
    intro t ht hti s s0 s1 hs
    rw [hti]
    obtain ⟨g1, g2⟩ := hg.1 (t : Int) (by omega) (by omega)
    have g3 := (hg.2 (t : Int) s (by omega) (by omega) s0 s1).1
    rw [← hs] at g3
    have e1 : tF M (t : Int) = vT M t := by unfold tF; rw [Int.toNat_natCast]
    have e2 : xF M (i : Int) = vX M i := by unfold xF; rw [Int.toNat_natCast]
    have e3 : decide ((t : Int) = 0) = decide (t = 0) := decide_eq_decide.mpr (by omega)
    rw [e1] at g1 g2 g3
    rw [e2] at g3
    rw [e3] at g2
    exact ⟨g1.1, gO_o g1.1.2.2.2.2.1 g2, g3⟩
  by_cases h5 : i < 5
  · exact key 0 (by omega) (by unfold tI; rw [if_pos h5]) i (by omega) (by omega) (by omega)
  · exact key 1 (by omega) (by unfold tI; rw [if_neg h5, if_pos hi]) (i - 5) (by omega) (by omega) (by omega)
theorem uOut_k {MC MC' MR MR' : sjM} (h : uOut MC MR) (h0 : MC' 0 0 = MC 0 0) (h8 : MC' 8 = MC 8) (hk : rKeep MR MR') : uOut MC' MR' := by
  unfold uOut at h ⊢
  rw [h0, h8, hk.1, hk.2]
  exact h
theorem RR_0 {MC MR MR' : sjM} (h : RR MC MR) (hM : MR' = sjU MR 0 0 (iI 0)) : RR MC MR' := by
  obtain ⟨lts, hg, hA, ho⟩ := h
  exact ⟨lts, hg, by rw [hM]; exact rAll_0 hA, uOut_k ho rfl rfl ⟨by rw [hM, sjU_o (by omega)], by rw [hM, sjU_s, if_neg (by omega)]⟩⟩
theorem gAll_upd {Tf Xf : Int → aS} {lts : Int → Int → Int → Prop} {x y : Int} {Y : aS} (h : gAll Tf Xf lts) (hts : okTS x y) (h1 : cInv (Tf x) (lts x) Y) (h2 : gOwn (Tf x) Y y) (h3 : gSet (Tf x) Y) : gAll Tf (updF Xf (5 * x + y) Y) lts := by
  refine ⟨h.1, fun t s h0 h4 h5 h6 => ?_⟩
  show cInv (Tf t) (lts t) (if 5 * t + s = 5 * x + y then Y else Xf (5 * t + s)) ∧ gOwn (Tf t) (if 5 * t + s = 5 * x + y then Y else Xf (5 * t + s)) s ∧ gSet (Tf t) (if 5 * t + s = 5 * x + y then Y else Xf (5 * t + s))
  by_cases he : 5 * t + s = 5 * x + y
  · have e1 : t = x := by omega
    have e2 : s = y := by omega
    rw [if_pos he, e1, e2]
    exact ⟨h1, h2, h3⟩
  · rw [if_neg he]; exact h.2 t s h0 h4 h5 h6
theorem on_xF {M M' : sjM} {x y : Int} (hts : okTS x y) (ho : onC M M' (x * 5 + y).toNat) : (∀ t, 0 ≤ t → t < 2 → tF M' t = tF M t) ∧ ∀ j, 0 ≤ j → j < 10 → xF M' j = updF (xF M) (5 * x + y) (vX M' (x * 5 + y).toNat) j := by
  refine ⟨fun t h0 h1 => onC_T ho _ (by omega), fun j h0 h1 => ?_⟩
  show xF M' j = if j = 5 * x + y then vX M' (x * 5 + y).toNat else xF M j
  by_cases hj : j = 5 * x + y
  · rw [if_pos hj, hj, vX_x]
  · rw [if_neg hj]; exact onC_X ho (by omega)
/-- a copy has changed on both sides -/
theorem RR_upd {MC MC' MR MR' : sjM} {lts : Int → Int → Int → Prop} {x y : Int} {Y : aS} (hg : gAll (tF MC) (xF MC) lts) (hout : uOut MC MR) (hts : okTS x y) (ho : onC MC MC' (x * 5 + y).toNat) (hv : vX MC' (x * 5 + y).toNat = Y) (h1 : cInv (tF MC x) (lts x) Y) (h2 : gOwn (tF MC x) Y y) (h3 : gSet (tF MC x) Y) (hA : rAll (tF MC) (updF (xF MC) (5 * x + y) Y) MR') (hk : rKeep MR MR') : RR MC' MR' := by
  obtain ⟨e1, e2⟩ := on_xF hts ho
  rw [hv] at e2
  exact ⟨lts, gAll_c (gAll_upd hg hts h1 h2 h3) e1 e2, rAll_c hA e1 e2, uOut_k hout (by rw [ho 0 (by omega)]) (ho 8 (by omega)) hk⟩
theorem own_of {T X Y : aS} {s : Int} (h : gOwn T X s) (h4 : Y 4 = X 4) : gOwn T Y s := fun k h1 h2 => by rw [h4]; exact h k h1 h2
theorem set_of {T X Y : aS} (h : gSet T X) (h0 : Y 0 0 = X 0 0) (h2 : Y 2 = X 2) (h4 : Y 4 = X 4) : gSet T Y := fun k h1 h5 hc => h k h1 (by rw [← h4]; exact h5) (aCan_of hc h0.symm h2.symm)
theorem start_r (X : aS) : aStart X 0 0 = X 0 0 ∧ aStart X 2 = X 2 ∧ aStart X 4 = X 4 := by
  unfold aStart
  refine ⟨by rw [up0_0, if_neg (by omega), up0_0, if_neg (by omega)], by rw [up0_2, up0_2], by rw [up0_4, up0_4]⟩
theorem end_r (X : aS) : aEnd X 0 0 = X 0 0 ∧ aEnd X 2 = X 2 ∧ aEnd X 4 = X 4 := by
  unfold aEnd
  split
  · exact ⟨by rw [up0_0, if_neg (by omega)], by rw [up0_2], by rw [up0_4]⟩
  · exact ⟨rfl, rfl, rfl⟩
/-- what a site keeps -/
def sK (T : aS) (lt : Int → Int → Prop) (s : Int) (X : aS) : Prop := cInv T lt X ∧ gOwn T X s ∧ gSet T X
theorem sK_start {T : aS} {lt : Int → Int → Prop} {s : Int} {X : aS} (h : sK T lt s X) : sK T lt s (aStart X) := ⟨start_inv h.1, own_of h.2.1 (start_r X).2.2, set_of h.2.2 (start_r X).1 (start_r X).2.1 (start_r X).2.2⟩
theorem sK_end {T : aS} {lt : Int → Int → Prop} {s : Int} {X : aS} (h : sK T lt s X) : sK T lt s (aEnd X) := ⟨end_inv h.1, own_of h.2.1 (end_r X).2.2, set_of h.2.2 (end_r X).1 (end_r X).2.1 (end_r X).2.2⟩
theorem sK_hear {T : aS} {lt : Int → Int → Prop} {s : Int} {w : Bool} {X : aS} {k : Int} (ht : tInv T) (ho : oOK T w lt) (h : sK T lt s X) : sK T lt s (aHear T w X k).1 := ⟨hear_inv ht ho h.1, fun j h1 h2 => hear_4 (h.2.1 j h1 h2), hear_set ht ho h.1 h.2.2⟩
theorem sK_share {T : aS} {lt : Int → Int → Prop} {s : Int} {w d b : Bool} {X : aS} (ht : tInv T) (ho : oOK T w lt) : ∀ (f : Nat) (p : Int) (Y : aS) (n : Int), sK T lt s Y → sK T lt s (aShF T w d b X f p Y n).1
  | 0, p, Y, n, h => by rw [aShF]; exact h
  | f + 1, p, Y, n, h => by
    rw [aShF]
    by_cases hc : aSt (if b = true then Y else X) (if d = true then T 0 1 - 1 - p else p) = 2
    · rw [if_pos hc]; exact sK_share ht ho f _ _ _ (sK_hear ht ho h)
    · rw [if_neg hc]; exact sK_share ht ho f _ _ _ h
