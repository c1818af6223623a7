/-! the reference's cells of a text T, number t, and of a copy X, number i -/
def rT (T : aS) (M : sjM) (t : Int) : Prop :=
  (M 1 t = iI (T 0 0) ∧ M 8 t = iI (T 0 1) ∧ M 9 t = iI (T 0 2)) ∧
  (∀ c, 0 ≤ c → c < 60 → M 2 (60 * t + c) = iI (T 1 c) ∧ M 3 (60 * t + c) = iI (T 2 c - 100 * T 1 c) ∧ M 4 (60 * t + c) = iI (T 3 c) ∧ M 5 (60 * t + c) = iI (T 4 c) ∧ M 6 (60 * t + c) = iI (T 5 c)) ∧
  (∀ s, 0 ≤ s → s < 5 → M 7 (5 * t + s) = iI (T 9 s)) ∧
  ∀ k, 0 ≤ k → k < 160 → M 10 (160 * t + k) = iI (T 6 k) ∧ M 11 (160 * t + k) = iI (T 8 k) ∧ M 12 (160 * t + k) = iI (T 7 k)
def rX (X : aS) (M : sjM) (i : Int) : Prop :=
  M 14 i = iI (X 0 0) ∧ (∀ q, 0 ≤ q → q < X 0 0 → M 13 (60 * i + q) = iI (X 1 q)) ∧
  (∀ c, 0 ≤ c → c < 60 → M 15 (60 * i + c) = iI (if X 2 c = -2 then 0 else 1) ∧ M 16 (60 * i + c) = iI (X 3 c)) ∧
  ∀ k, 0 ≤ k → k < 160 → M 17 (160 * i + k) = iI (X 4 k)
/-- what a call on copy i may change -/
def onR (M M' : sjM) (i : Int) : Prop := (∀ k, 1 ≤ k → k ≤ 12 → M' k = M k) ∧ (M' 18 = M 18 ∧ M' 19 = M 19 ∧ M' 23 = M 23 ∧ M' 24 = M 24 ∧ M' 0 0 = M 0 0 ∧ M' 0 3 = M 0 3) ∧
  (∀ z, ¬ (60 * i ≤ z ∧ z < 60 * i + 60) → M' 13 z = M 13 z ∧ M' 15 z = M 15 z ∧ M' 16 z = M 16 z) ∧ (∀ z, ¬ z = i → M' 14 z = M 14 z) ∧ ∀ z, ¬ (160 * i ≤ z ∧ z < 160 * i + 160) → M' 17 z = M 17 z
theorem onR_rf (M : sjM) (i : Int) : onR M M i := ⟨fun _ _ _ => rfl, ⟨rfl, rfl, rfl, rfl, rfl, rfl⟩, fun _ _ => ⟨rfl, rfl, rfl⟩, fun _ _ => rfl, fun _ _ => rfl⟩
theorem onR_tr {M M1 M2 : sjM} {i : Int} (h1 : onR M M1 i) (h2 : onR M1 M2 i) : onR M M2 i := by
  obtain ⟨a1, ⟨a2, a3, a4, a5, a6, a7⟩, a8, a9, a10⟩ := h1
  obtain ⟨b1, ⟨b2, b3, b4, b5, b6, b7⟩, b8, b9, b10⟩ := h2
  refine ⟨fun k h h' => (b1 k h h').trans (a1 k h h'), ⟨b2.trans a2, b3.trans a3, b4.trans a4, b5.trans a5, b6.trans a6, b7.trans a7⟩, fun z hz => ?_, fun z hz => (b9 z hz).trans (a9 z hz), fun z hz => (b10 z hz).trans (a10 z hz)⟩
  obtain ⟨c1, c2, c3⟩ := a8 z hz
  obtain ⟨d1, d2, d3⟩ := b8 z hz
  exact ⟨d1.trans c1, d2.trans c2, d3.trans c3⟩
theorem rT_of {T : aS} {M M' : sjM} {t : Int} (h : rT T M t) (hk : ∀ k, 1 ≤ k → k ≤ 12 → M' k = M k) : rT T M' t := by
  unfold rT at h ⊢
  rw [hk 1 (by omega) (by omega), hk 2 (by omega) (by omega), hk 3 (by omega) (by omega), hk 4 (by omega) (by omega), hk 5 (by omega) (by omega), hk 6 (by omega) (by omega), hk 7 (by omega) (by omega), hk 8 (by omega) (by omega), hk 9 (by omega) (by omega), hk 10 (by omega) (by omega), hk 11 (by omega) (by omega), hk 12 (by omega) (by omega)]
  exact h
theorem rX_of {X : aS} {M M' : sjM} {i : Int} (h : rX X M i) (hk : ∀ k, 13 ≤ k → k ≤ 17 → M' k = M k) : rX X M' i := by
  unfold rX at h ⊢
  rw [hk 13 (by omega) (by omega), hk 14 (by omega) (by omega), hk 15 (by omega) (by omega), hk 16 (by omega) (by omega), hk 17 (by omega) (by omega)]
  exact h
theorem rX_on {X : aS} {M M' : sjM} {i j : Int} (h : rX X M j) (ho : onR M M' i) (hj : ¬ j = i) (hl : X 0 0 ≤ 60) : rX X M' j := by
  obtain ⟨a1, a2, a3, a4⟩ := h
  obtain ⟨_, _, b8, b9, b10⟩ := ho
  refine ⟨by rw [b9 j hj]; exact a1, fun q q0 q1 => by rw [(b8 _ (by omega)).1]; exact a2 q q0 q1, fun c c0 c1 => ?_, fun k k0 k1 => by rw [b10 _ (by omega)]; exact a4 k k0 k1⟩
  obtain ⟨_, e2, e3⟩ := b8 (60 * j + c) (by omega)
  rw [e2, e3]
  exact a3 c c0 c1
/-- the same by X's cells -/
theorem rX_X {X Y : aS} {M : sjM} {i : Int} (h : rX X M i) (h0 : Y 0 0 = X 0 0) (h1 : Y 1 = X 1) (h2 : Y 2 = X 2) (h3 : Y 3 = X 3) (h4 : Y 4 = X 4) : rX Y M i := by
  unfold rX at h ⊢
  rw [h0, h1, h2, h3, h4]
  exact h
theorem ld {x : Int32} {z : Int} (h : x = iI z) : iI x.toInt = iI z := by rw [iI_of]; exact h
/-- LEFT is ahead, RIGHT is behind -/
def gFree (T X : aS) : Prop := ∀ q, 0 ≤ q → q < X 0 0 → aPl X (aLeft T (X 1 q)) < q ∧ q < aPl X (aRight T (X 1 q))
theorem gFree_of {T X : aS} {w : Bool} {lt : Int → Int → Prop} (hO : gO T w lt) (hf : tRef T) (h : cpOK T X) (hs : srtL lt X) : gFree T X := by
  intro q q0 q1
  rcases hO with ⟨rfl, key, h1, rfl⟩ | ⟨rfl, ρ, h1, rfl⟩
  · exact woot_free h1 hf h hs q0 q1
  · have hq := cp_at h q0 q1
    rw [at_in q0 q1 h.2.1] at hq
    obtain ⟨y1, y2, -⟩ := h1.2.2.1 _ hq.1
    have e1 := (pl_lt h1.1 h hs hq.2.2.2.1 hq.2.2.1).mp y1
    have e2 := (pl_lt h1.1 h hs hq.2.2.1 hq.2.2.2.2).mp y2
    omega
