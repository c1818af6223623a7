/-! the one that is seen at a place -/
def sc (X : aS) (p : Int) : Int := cn (fun q => iq (X 3 (X 1 q)) 0) p.toNat
theorem sc_s {X : aS} {p : Int} (h : 0 ≤ p) : sc X (p + 1) = sc X p + iq (X 3 (X 1 p)) 0 := by
  unfold sc
  rw [show (p + 1).toNat = p.toNat + 1 by omega, cn, show ((p.toNat : Nat) : Int) = p by omega]
theorem sc_0 (X : aS) : sc X 0 = 0 := rfl
theorem sc_mono {X : aS} {p : Int} (h : 0 ≤ p) : ∀ d : Nat, sc X p ≤ sc X (p + d)
  | 0 => by rw [show p + ((0 : Nat) : Int) = p by omega]; exact Int.le_refl _
  | d + 1 => by
    have h1 := sc_mono (X := X) h d
    rw [show p + ((d + 1 : Nat) : Int) = (p + d) + 1 by omega, sc_s (by omega)]
    have := iq_01 (X 3 (X 1 (p + d))) 0
    omega
theorem sc_le {X : aS} {p q : Int} (h : 0 ≤ p) (h1 : p ≤ q) : sc X p ≤ sc X q := by
  have := sc_mono (X := X) h (q - p).toNat
  rw [show p + ((q - p).toNat : Int) = q by omega] at this
  exact this
theorem seen_iff {T X : aS} (h : cpOK T X) {q : Int} (h0 : 0 ≤ q) (h1 : q < X 0 0) : aSeen X (X 1 q) ↔ X 3 (X 1 q) = 0 := by
  obtain ⟨a, b⟩ := h.2.2.1 q h0 h1
  constructor
  · exact fun w => w.2.2.2
  · exact fun w => ⟨a.1, a.2.2, by omega, w⟩
theorem seenAtF_spec {T X : aS} (h : cpOK T X) {i : Int} : ∀ (n : Nat) (q a : Int), 0 ≤ q → q + n = X 0 0 → a = sc X q → a ≤ i → (aSeenAtF X i n q a = 60 ∧ sc X (X 0 0) ≤ i) ∨ ∃ p, q ≤ p ∧ p < X 0 0 ∧ aSeenAtF X i n q a = X 1 p ∧ sc X p = i ∧ X 3 (X 1 p) = 0
  | 0, q, a, h0, h1, h2, h3 => by
    rw [aSeenAtF, show X 0 0 = q by omega, ← h2]
    exact Or.inl ⟨rfl, h3⟩
  | n + 1, q, a, h0, h1, h2, h3 => by
    have h60 := h.2.1
    rw [aSeenAtF, at_in h0 (by omega) h60]
    have hs := sc_s (X := X) h0
    by_cases hc : X 3 (X 1 q) = 0
    · rw [if_pos ((seen_iff h h0 (by omega)).mpr hc)]
      by_cases ha : a = i
      · rw [if_pos ha]
        exact Or.inr ⟨q, Int.le_refl _, by omega, rfl, by omega, hc⟩
      · rw [if_neg ha]
        rw [hc, show iq 0 0 = 1 from rfl] at hs
        rcases seenAtF_spec h (i := i) n (q + 1) (a + 1) (by omega) (by omega) (by omega) (by omega) with w | ⟨p, w1, w2⟩
        · exact Or.inl w
        · exact Or.inr ⟨p, by omega, w2⟩
    · rw [if_neg (fun w => hc ((seen_iff h h0 (by omega)).mp w))]
      rw [show iq (X 3 (X 1 q)) 0 = 0 by unfold iq; rw [if_neg hc]] at hs
      rcases seenAtF_spec h (i := i) n (q + 1) a (by omega) (by omega) (by omega) (by omega) with w | ⟨p, w1, w2⟩
      · exact Or.inl w
      · exact Or.inr ⟨p, by omega, w2⟩
theorem seenAt_spec {T X : aS} (h : cpOK T X) {i : Int} (hi : 0 ≤ i) : (aSeenAt X i = 60 ∧ sc X (X 0 0) ≤ i) ∨ ∃ p, 0 ≤ p ∧ p < X 0 0 ∧ aSeenAt X i = X 1 p ∧ sc X p = i ∧ X 3 (X 1 p) = 0 := by
  have h0 := h.1
  exact seenAtF_spec h _ 0 0 (by omega) (by omega) (sc_0 X).symm hi
theorem seen_len {T : aS} {lt : Int → Int → Prop} {X : aS} (h : cInv T lt X) : sc X (X 0 0) = X 0 1 := by
  obtain ⟨_, _, _, hc, _⟩ := h
  rw [hc.2.1]
  rfl
theorem seenAt_in {T : aS} {lt : Int → Int → Prop} {X : aS} (h : cInv T lt X) {i : Int} (hi : 0 ≤ i) (h1 : i < X 0 1) : ∃ p, 0 ≤ p ∧ p < X 0 0 ∧ aSeenAt X i = X 1 p ∧ sc X p = i ∧ X 3 (X 1 p) = 0 := by
  rcases seenAt_spec h.1 hi with w | w
  · have := seen_len h; omega
  · exact w
theorem seenAt_end {T : aS} {lt : Int → Int → Prop} {X : aS} (h : cInv T lt X) {i : Int} (hi : 0 ≤ i) (h1 : X 0 1 ≤ i) : aSeenAt X i = 60 := by
  rcases seenAt_spec h.1 hi with w | ⟨p, p0, p1, p2, p3, p4⟩
  · exact w.1
  · have h9 := seen_len h
    have h8 := sc_le (X := X) (show 0 ≤ p + 1 by omega) (show p + 1 ≤ X 0 0 by omega)
    rw [sc_s p0, p4, show iq 0 0 = 1 from rfl] at h8
    omega
/-- what an INSERT at place i takes: LEFT at place a of the copy (-1: BEGIN), RIGHT at place b (its length: END) -/
theorem ins_nb {T : aS} {lt : Int → Int → Prop} {X : aS} (h : cInv T lt X) {i : Int} (hi : 0 ≤ i) (h1 : i ≤ X 0 1) (w : Bool) : ∃ a b, -1 ≤ a ∧ a < b ∧ b ≤ X 0 0 ∧ (w = false → b = a + 1) ∧ aPl X (aLFP X i) = a ∧ ((a = -1 ∧ aLFP X i = -1) ∨ (0 ≤ a ∧ aLFP X i = X 1 a)) ∧ ((b = X 0 0 ∧ aRFP X w i = 60) ∨ (b < X 0 0 ∧ aRFP X w i = X 1 b)) := by
  have hcp := h.1
  have h60 := hcp.2.1
  have hlen := hcp.1
  have hL : ∃ a, -1 ≤ a ∧ a < X 0 0 ∧ sc X (a + 1) = i ∧ aPl X (aLFP X i) = a ∧ ((a = -1 ∧ aLFP X i = -1) ∨ (0 ≤ a ∧ aLFP X i = X 1 a)) := by
    unfold aLFP
    by_cases h0 : i ≤ 0
    · rw [if_pos h0]
      exact ⟨-1, by omega, by omega, by rw [show (-1 : Int) + 1 = 0 from rfl, sc_0]; omega, pl_beg, Or.inl ⟨rfl, rfl⟩⟩
    · rw [if_neg h0]
      obtain ⟨p, p0, p1, p2, p3, p4⟩ := seenAt_in h (i := i - 1) (by omega) (by omega)
      obtain ⟨c1, c2⟩ := hcp.2.2.1 p p0 p1
      refine ⟨p, by omega, p1, ?_, ?_, Or.inr ⟨p0, p2⟩⟩
      · rw [sc_s p0, p4, p3, show iq 0 0 = 1 from rfl]; omega
      · rw [p2, pl_char c1.1 c1.2.2, c2]
  obtain ⟨a, a0, a1, a2, a3, a4⟩ := hL
  cases w with
  | false =>
    refine ⟨a, a + 1, a0, by omega, by omega, fun _ => rfl, a3, a4, ?_⟩
    unfold aRFP
    rw [if_neg (by decide), a3]
    by_cases he : a + 1 < X 0 0
    · exact Or.inr ⟨he, at_in (by omega) he h60⟩
    · refine Or.inl ⟨by omega, ?_⟩
      unfold aAt
      rw [if_neg (by omega)]
  | true =>
    have hr : aRFP X true i = aSeenAt X i := by unfold aRFP; rw [if_pos rfl]
    rcases Int.lt_or_le i (X 0 1) with w | w
    · obtain ⟨p, p0, p1, p2, p3, p4⟩ := seenAt_in h hi w
      refine ⟨a, p, a0, ?_, by omega, (fun q => by cases q), a3, a4, Or.inr ⟨p1, by rw [hr, p2]⟩⟩
      rcases sj_lg a p with v | v
      · exact v
      · have h8 := sc_le (X := X) (show 0 ≤ p + 1 by omega) (show p + 1 ≤ a + 1 by omega)
        rw [sc_s p0, p4, p3, show iq 0 0 = 1 from rfl] at h8
        omega
    · exact ⟨a, X 0 0, a0, by omega, by omega, (fun q => by cases q), a3, a4, Or.inl ⟨rfl, by rw [hr]; exact seenAt_end h hi w⟩⟩
