/-! a text that has grown -/
theorem fin_max (f : Int → Int) (P : Int → Prop) : ∀ n : Nat, (∃ x, 0 ≤ x ∧ x < (n : Int) ∧ P x) → ∃ x, 0 ≤ x ∧ x < (n : Int) ∧ P x ∧ ∀ y, 0 ≤ y → y < (n : Int) → P y → f y ≤ f x
  | 0, ⟨x, h0, h1, _⟩ => by omega
  | n + 1, ⟨x, h0, h1, h2⟩ => by
    by_cases hn : ∃ x, 0 ≤ x ∧ x < (n : Int) ∧ P x
    · obtain ⟨m, m0, m1, m2, m3⟩ := fin_max f P n hn
      by_cases hp : P (n : Int) ∧ f m < f n
      · refine ⟨n, by omega, by omega, hp.1, fun y y0 y1 y2 => ?_⟩
        rcases Int.lt_or_eq_of_le (show y ≤ n by omega) with w | w
        · have := m3 y y0 w y2; omega
        · rw [w]; exact Int.le_refl _
      · refine ⟨m, m0, by omega, m2, fun y y0 y1 y2 => ?_⟩
        rcases Int.lt_or_eq_of_le (show y ≤ n by omega) with w | w
        · exact m3 y y0 w y2
        · rw [w] at y2 ⊢
          have : ¬ f m < f n := fun q => hp ⟨y2, q⟩
          omega
    · have hx : x = n := by
        rcases Int.lt_or_eq_of_le (show x ≤ n by omega) with w | w
        · exact absurd ⟨x, h0, w, h2⟩ hn
        · exact w
      refine ⟨x, h0, h1, h2, fun y y0 y1 y2 => ?_⟩
      rcases Int.lt_or_eq_of_le (show y ≤ n by omega) with w | w
      · exact absurd ⟨y, y0, w, y2⟩ hn
      · rw [w, hx]; exact Int.le_refl _
def tExt (T T' : aS) : Prop := (∀ c, aHasC T c → aHasC T' c ∧ T' 1 c = T 1 c ∧ T' 2 c = T 2 c ∧ T' 3 c = T 3 c ∧ T' 4 c = T 4 c ∧ T' 5 c = T 5 c) ∧ (∀ k, aHasM T k → aHasM T' k ∧ T' 6 k = T 6 k ∧ T' 7 k = T 7 k ∧ T' 8 k = T 8 k)
theorem ext_left {T T' : aS} (h : tExt T T') {c : Int} (hc : aHasC T c) : aLeft T' c = aLeft T c := by
  obtain ⟨h1, _, _, _, h4, _⟩ := h.1 c hc
  unfold aLeft
  rw [if_pos h1, if_pos hc, h4]
theorem ext_right {T T' : aS} (h : tExt T T') {c : Int} (hc : aHasC T c) : aRight T' c = aRight T c := by
  obtain ⟨h1, _, _, _, _, h5⟩ := h.1 c hc
  unfold aRight
  rw [if_pos h1, if_pos hc, h5]
theorem ext_mark {T T' : aS} (h : tExt T T') {c : Int} (hc : aHasC T c) : aMark T' c = aMark T c := by
  obtain ⟨h1, _, h2, _⟩ := h.1 c hc
  unfold aMark
  rw [if_pos h1, if_pos hc, h2]
theorem ext_site {T T' : aS} (h : tExt T T') {c : Int} (hc : aHasC T c) : aSite T' c = aSite T c := by
  obtain ⟨h1, h2, _⟩ := h.1 c hc
  unfold aSite
  rw [if_pos h1, if_pos hc, h2]
theorem ext_kind {T T' : aS} (h : tExt T T') {k : Int} (hk : aHasM T k) : aKind T' k = aKind T k := by
  obtain ⟨h1, h2, _⟩ := h.2 k hk
  unfold aKind
  rw [if_pos h1, if_pos hk, h2]
theorem ext_subj {T T' : aS} (h : tExt T T') {k : Int} (hk : aHasM T k) : aSubj T' k = aSubj T k := by
  obtain ⟨h1, _, _, h2⟩ := h.2 k hk
  unfold aSubj
  rw [if_pos h1, if_pos hk, h2]
theorem ext_can {T T' : aS} (ht : tInv T) (h : tExt T T') {X : aS} {k : Int} (hk : aHasM T k) : aCan T' X k ↔ aCan T X k := by
  have hc := (ht.2.2.2.2.2.1 k hk).2
  have e : aSubj T k = T 8 k := subj_in hk
  unfold aCan
  rw [ext_kind h hk, ext_subj h hk, e, ext_left h hc, ext_right h hc]
theorem ext_cp {T T' : aS} (h : tExt T T') {X : aS} (hX : cpOK T X) : cpOK T' X := by
  obtain ⟨a, b, c, d, e⟩ := hX
  refine ⟨a, b, fun q q0 q1 => ⟨(h.1 _ (c q q0 q1).1).1, (c q q0 q1).2⟩, d, fun z z0 z1 z2 => ?_⟩
  have hz : aHasC T z := (cp_has ⟨a, b, c, d, e⟩ z0 z1 z2).1
  rw [ext_left h hz, ext_right h hz]
  exact e z z0 z1 z2
theorem ext_inv {T T' : aS} (h : tExt T T') {lt lt' : Int → Int → Prop} (hlt : ∀ a b, aHasC T a → aHasC T b → lt a b → lt' a b) {X : aS} (hX : cInv T lt X)
    (h1 : 0 ≤ T 0 1 ∧ T 0 1 ≤ T' 0 1) (hn : ∀ k, aHasM T' k → ¬ aHasM T k → T' 6 k = 0 → 0 ≤ T' 8 k ∧ T' 8 k < 60 ∧ ¬ aHasC T (T' 8 k)) : cInv T' lt' X := by
  obtain ⟨hcp, hs, ⟨s1, s2, s3, s4, s5⟩, hcnt, h3⟩ := hX
  have hnew : ∀ k, aHasM T' k → ¬ aHasM T k → X 4 k = 0 := fun k hk hk2 => s2 k (by
    rcases Int.lt_or_le k (T 0 1) with w | w
    · exact absurd ⟨hk.1, w, hk.2.2⟩ hk2
    · exact w) hk.2.2
  refine ⟨ext_cp h hcp, fun a b h0 h1 h2 => hlt _ _ (hcp.2.2.1 a h0 (by omega)).1 (hcp.2.2.1 b (by omega) h2).1 (hs a b h0 h1 h2), ⟨s1, fun k k0 k1 => s2 k (by omega) k1, fun k hk hk6 => ?_, fun k hk hk6 hk4 => ?_, s5⟩, hcnt, h3⟩
  · by_cases hm : aHasM T k
    · obtain ⟨_, e6, _, e8⟩ := h.2 k hm
      rw [e8]
      exact s3 k hm (by rw [← e6]; exact hk6)
    · obtain ⟨c0, c1, c2⟩ := hn k hk hm hk6
      have := hnew k hk hm
      constructor
      · intro q; omega
      · intro q; exact absurd (cp_has hcp c0 c1 q).1 c2
  · by_cases hm : aHasM T k
    · obtain ⟨_, e6, _, e8⟩ := h.2 k hm
      rw [e8]
      exact s4 k hm (by rw [← e6]; exact hk6) hk4
    · have := hnew k hk hm
      omega
/-! what is known of a text, all of it -/
def gT (T : aS) : Prop := tInv T ∧ (T 0 1 = T 0 0 + T 0 2 ∧ 0 ≤ T 0 2 ∧ T 0 2 ≤ 100) ∧ (∀ s, 0 ≤ s → s < 5 → 0 ≤ T 9 s ∧ T 9 s ≤ T 0 0) ∧ (∀ c, aHasC T c → 0 ≤ T 1 c ∧ T 1 c < 5 ∧ 100 * T 1 c ≤ T 2 c ∧ T 2 c < 100 * T 1 c + T 9 (T 1 c)) ∧ (∀ c o, aHasC T c → aHasC T o → T 2 c = T 2 o → c = o) ∧ ∀ c, aHasC T c → ∃ k, aHasM T k ∧ T 6 k = 0 ∧ T 8 k = c ∧ T 7 k = T 1 c
def gO (T : aS) (w : Bool) (lt : Int → Int → Prop) : Prop := (w = true ∧ ∃ key, wOK T key ∧ lt = fun a b => wl (key a) (key b)) ∨ (w = false ∧ ∃ ρ : Int → Int, yOK T ρ ∧ lt = fun a b => ρ a < ρ b)
theorem gO_o {T : aS} {w : Bool} {lt : Int → Int → Prop} (hf : tRef T) (h : gO T w lt) : oOK T w lt := by
  rcases h with ⟨rfl, key, h1, rfl⟩ | ⟨rfl, ρ, h1, rfl⟩
  · exact oOK_w h1 hf
  · exact oOK_y h1 hf
/-- a site's copy: its own messages are DONE, nothing that waits can be done -/
def gOwn (T X : aS) (s : Int) : Prop := ∀ k, aHasM T k → T 7 k = s → X 4 k = 2
def gSet (T X : aS) : Prop := ∀ k, aHasM T k → X 4 k = 1 → ¬ aCan T X k
theorem readyF_none {T X : aS} (h : gSet T X) : ∀ (n : Nat) (k : Int), 0 ≤ k → k + n ≤ T 0 1 → k + n ≤ 160 → aReadyF T X n k = -1
  | 0, _, _, _, _ => by rw [aReadyF]
  | n + 1, k, h0, h1, h2 => by
    rw [aReadyF, if_neg]
    · exact readyF_none h n (k + 1) (by omega) (by omega) (by omega)
    · rintro ⟨a, b⟩
      unfold aSt at a
      rw [if_pos ⟨h0, by omega⟩] at a
      exact h k ⟨h0, by omega, by omega⟩ a b
theorem ready_none {T X : aS} (ht : tInv T) (h : gSet T X) : aReady T X = -1 := by
  unfold aReady
  split
  · rfl
  · obtain ⟨t0, t1, t2, t3, t4⟩ := ht
    exact readyF_none h _ 0 (by omega) (by omega) (by omega)
theorem readyF_set {T X : aS} : ∀ (n : Nat) (k : Int), aReadyF T X n k = -1 → 0 ≤ k → ∀ j, k ≤ j → j < k + n → ¬ (aSt X j = 1 ∧ aCan T X j)
  | 0, k, _, _, j, h0, h1 => by omega
  | n + 1, k, h, hk, j, h0, h1 => by
    rw [aReadyF] at h
    split at h
    · omega
    · rename_i hq
      rcases Int.lt_or_eq_of_le h0 with w | w
      · exact readyF_set n (k + 1) h (by omega) j (by omega) (by omega)
      · rw [← w]; exact hq
theorem ready_set {T X : aS} {lt : Int → Int → Prop} (ht : tInv T) (hX : cInv T lt X) (h : aReady T X = -1) : gSet T X := by
  intro k hk h1 hc
  obtain ⟨t0, t1, t2, t3, t4⟩ := ht
  unfold aReady at h
  split at h
  · rename_i hw
    have h9 := cn_pos (f := fun k => iq (X 4 k) 1) 160 (fun q _ _ => iq_01 _ _) hk.1 hk.2.2 (by rw [h1]; rfl)
    have := hX.2.2.2.2
    unfold nSt at this
    omega
  · refine readyF_set _ 0 h (by omega) k hk.1 (by have := hk.2.1; omega) ⟨?_, hc⟩
    unfold aSt
    rw [if_pos ⟨hk.1, hk.2.2⟩]
    exact h1
