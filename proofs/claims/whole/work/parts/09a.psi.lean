/-! WOOT's order as words: an odd digit names a CHARACTER by its MARK, an even one the gap below it. A word ends with its odd digit. Bounds: [] is none. -/
def wl : List Nat → List Nat → Prop
  | [], _ => False
  | _ :: _, [] => False
  | a :: l, b :: u => a < b ∨ (a = b ∧ wl l u)
def wV : List Nat → Prop
  | [] => False
  | a :: l => (l = [] ∧ a % 2 = 1) ∨ (a % 2 = 0 ∧ wV l)
def wB (l : List Nat) : Prop := l = [] ∨ wV l
def wL (l x : List Nat) : Prop := l = [] ∨ wl l x
def wU (x u : List Nat) : Prop := u = [] ∨ wl x u
def wO (lo hi : List Nat) : Prop := lo = [] ∨ hi = [] ∨ wl lo hi
def psi (lo hi : List Nat) (t : Nat) : List Nat :=
  match lo, hi with
  | [], [] => [t]
  | [], b :: u => if t < b then [t] else (b - b % 2) :: psi [] u t
  | a :: l, [] => if a < t then [t] else (a + a % 2) :: psi l [] t
  | a :: l, b :: u => if t ≤ a then (a + a % 2) :: psi l (if b = a + a % 2 then u else []) t else if t < b then [t] else (b - b % 2) :: psi (if a = b - b % 2 then l else []) u t
termination_by lo.length + hi.length
decreasing_by
  all_goals simp_wf
  all_goals first | omega | (split <;> first | omega | (simp; done) | (simp; omega)) | (simp; omega)
theorem wl_irrefl : ∀ l : List Nat, ¬ wl l l
  | [], h => h
  | a :: l, h => by
    rcases h with h | h
    · omega
    · exact wl_irrefl l h.2
theorem wl_trans : ∀ (a b c : List Nat), wl a b → wl b c → wl a c
  | [], _, _, h, _ => absurd h (fun q => q)
  | _ :: _, [], _, h, _ => absurd h (fun q => q)
  | _ :: _, _ :: _, [], _, h => absurd h (fun q => q)
  | x :: a, y :: b, z :: c, h1, h2 => by
    rcases h1 with h1 | ⟨h1, k1⟩ <;> rcases h2 with h2 | ⟨h2, k2⟩
    · exact Or.inl (by omega)
    · exact Or.inl (by omega)
    · exact Or.inl (by omega)
    · exact Or.inr ⟨by omega, wl_trans a b c k1 k2⟩
theorem wl_total : ∀ (a b : List Nat), wV a → wV b → a = b ∨ wl a b ∨ wl b a
  | [], _, h, _ => absurd h (fun q => q)
  | _ :: _, [], _, h => absurd h (fun q => q)
  | x :: a, y :: b, h1, h2 => by
    rcases Nat.lt_trichotomy x y with h | h | h
    · exact Or.inr (Or.inl (Or.inl h))
    · subst h
      rcases h1 with ⟨h1, o1⟩ | ⟨o1, h1⟩ <;> rcases h2 with ⟨h2, o2⟩ | ⟨o2, h2⟩
      · subst h1; subst h2; exact Or.inl rfl
      · omega
      · omega
      · rcases wl_total a b h1 h2 with q | q | q
        · exact Or.inl (by rw [q])
        · exact Or.inr (Or.inl (Or.inr ⟨rfl, q⟩))
        · exact Or.inr (Or.inr (Or.inr ⟨rfl, q⟩))
    · exact Or.inr (Or.inr (Or.inl h))
theorem wB_tail {a : Nat} {l : List Nat} (h : wB (a :: l)) : wB l := by
  rcases h with h | h | h
  · cases h
  · exact Or.inl h.1
  · exact Or.inr h.2
theorem wB_odd {a : Nat} {l : List Nat} (h : wB (a :: l)) (ho : a % 2 = 1) : l = [] := by
  rcases h with h | h | h
  · cases h
  · exact h.1
  · omega
theorem wB_even {a : Nat} {l : List Nat} (h : wB (a :: l)) (ho : a % 2 = 0) : wV l := by
  rcases h with h | h | h
  · cases h
  · omega
  · exact h.2
theorem wV_ne {l : List Nat} (h : wV l) : l ≠ [] := by
  intro q; subst q; exact h
theorem wO_cons {a b : Nat} {l u : List Nat} (h : wO (a :: l) (b :: u)) : a < b ∨ (a = b ∧ wl l u) := by
  rcases h with h | h | h
  · cases h
  · cases h
  · exact h
theorem psi_A : ∀ (n : Nat) (lo hi : List Nat) (t : Nat), lo.length + hi.length ≤ n → wB lo → wB hi → wO lo hi → t % 2 = 1 → wV (psi lo hi t) ∧ wL lo (psi lo hi t) ∧ wU (psi lo hi t) hi := by
  intro n
  induction n with
  | zero =>
    intro lo hi t hn h1 h2 h3 ht
    have e1 : lo = [] := List.length_eq_zero_iff.mp (by omega)
    have e2 : hi = [] := List.length_eq_zero_iff.mp (by omega)
    subst e1; subst e2
    rw [psi]
    exact ⟨Or.inl ⟨rfl, ht⟩, Or.inl rfl, Or.inl rfl⟩
  | succ n ih =>
    intro lo hi t hn h1 h2 h3 ht
    match lo, hi, hn, h1, h2, h3 with
    | [], [], hn, h1, h2, h3 =>
      rw [psi]
      exact ⟨Or.inl ⟨rfl, ht⟩, Or.inl rfl, Or.inl rfl⟩
    | [], b :: u, hn, h1, h2, h3 =>
      rw [psi]
      split
      · rename_i q
        exact ⟨Or.inl ⟨rfl, ht⟩, Or.inl rfl, Or.inr (Or.inl q)⟩
      · rename_i q
        obtain ⟨a1, a2, a3⟩ := ih [] u t (by simp at hn ⊢; omega) (Or.inl rfl) (wB_tail h2) (Or.inl rfl) ht
        refine ⟨Or.inr ⟨by omega, a1⟩, Or.inl rfl, Or.inr ?_⟩
        rcases Nat.mod_two_eq_zero_or_one b with o | o
        · rcases a3 with a3 | a3
          · exact absurd a3 (wV_ne (wB_even h2 o))
          · exact Or.inr ⟨by omega, a3⟩
        · exact Or.inl (by omega)
    | a :: l, [], hn, h1, h2, h3 =>
      rw [psi]
      split
      · rename_i q
        exact ⟨Or.inl ⟨rfl, ht⟩, Or.inr (Or.inl q), Or.inl rfl⟩
      · rename_i q
        obtain ⟨a1, a2, a3⟩ := ih l [] t (by simp at hn ⊢; omega) (wB_tail h1) (Or.inl rfl) (Or.inr (Or.inl rfl)) ht
        refine ⟨Or.inr ⟨by omega, a1⟩, Or.inr ?_, Or.inl rfl⟩
        rcases Nat.mod_two_eq_zero_or_one a with o | o
        · rcases a2 with a2 | a2
          · exact absurd a2 (wV_ne (wB_even h1 o))
          · exact Or.inr ⟨by omega, a2⟩
        · exact Or.inl (by omega)
    | a :: l, b :: u, hn, h1, h2, h3 =>
      have h4 := wO_cons h3
      rw [psi]
      split
      · rename_i q
        by_cases hb : b = a + a % 2
        · rw [if_pos hb]
          have o2 : wO l u := by
            rcases h4 with h4 | h4
            · exact Or.inl (wB_odd h1 (by omega))
            · exact Or.inr (Or.inr h4.2)
          obtain ⟨a1, a2, a3⟩ := ih l u t (by simp at hn ⊢; omega) (wB_tail h1) (wB_tail h2) o2 ht
          refine ⟨Or.inr ⟨by omega, a1⟩, Or.inr ?_, Or.inr ?_⟩
          · rcases Nat.mod_two_eq_zero_or_one a with o | o
            · rcases a2 with a2 | a2
              · exact absurd a2 (wV_ne (wB_even h1 o))
              · exact Or.inr ⟨by omega, a2⟩
            · exact Or.inl (by omega)
          · rcases a3 with a3 | a3
            · exact absurd a3 (wV_ne (wB_even h2 (by omega)))
            · exact Or.inr ⟨by omega, a3⟩
        · rw [if_neg hb]
          obtain ⟨a1, a2, a3⟩ := ih l [] t (by simp at hn ⊢; omega) (wB_tail h1) (Or.inl rfl) (Or.inr (Or.inl rfl)) ht
          refine ⟨Or.inr ⟨by omega, a1⟩, Or.inr ?_, Or.inr (Or.inl ?_)⟩
          · rcases Nat.mod_two_eq_zero_or_one a with o | o
            · rcases a2 with a2 | a2
              · exact absurd a2 (wV_ne (wB_even h1 o))
              · exact Or.inr ⟨by omega, a2⟩
            · exact Or.inl (by omega)
          · rcases h4 with h4 | ⟨h4, h5⟩
            · omega
            · rcases Nat.mod_two_eq_zero_or_one a with o | o
              · omega
              · exact absurd h5 (by rw [wB_odd h1 o]; exact fun q => q)
      · split
        · rename_i q1 q2
          exact ⟨Or.inl ⟨rfl, ht⟩, Or.inr (Or.inl (by omega)), Or.inr (Or.inl q2)⟩
        · rename_i q1 q2
          by_cases hb : a = b - b % 2
          · rw [if_pos hb]
            have o2 : wO l u := by
              rcases h4 with h4 | h4
              · exact Or.inr (Or.inl (wB_odd h2 (by omega)))
              · exact Or.inr (Or.inr h4.2)
            obtain ⟨a1, a2, a3⟩ := ih l u t (by simp at hn ⊢; omega) (wB_tail h1) (wB_tail h2) o2 ht
            refine ⟨Or.inr ⟨by omega, a1⟩, Or.inr ?_, Or.inr ?_⟩
            · rcases a2 with a2 | a2
              · exact absurd a2 (wV_ne (wB_even h1 (by omega)))
              · exact Or.inr ⟨by omega, a2⟩
            · rcases Nat.mod_two_eq_zero_or_one b with o | o
              · rcases a3 with a3 | a3
                · exact absurd a3 (wV_ne (wB_even h2 o))
                · exact Or.inr ⟨by omega, a3⟩
              · exact Or.inl (by omega)
          · rw [if_neg hb]
            obtain ⟨a1, a2, a3⟩ := ih [] u t (by simp at hn ⊢; omega) (Or.inl rfl) (wB_tail h2) (Or.inl rfl) ht
            refine ⟨Or.inr ⟨by omega, a1⟩, Or.inr (Or.inl ?_), Or.inr ?_⟩
            · rcases h4 with h4 | ⟨h4, h5⟩
              · omega
              · rcases Nat.mod_two_eq_zero_or_one b with o | o
                · omega
                · rw [wB_odd h2 o] at h5
                  cases l with
                  | nil => exact absurd h5 (fun q => q)
                  | cons x l => exact absurd h5 (fun q => q)
            · rcases Nat.mod_two_eq_zero_or_one b with o | o
              · rcases a3 with a3 | a3
                · exact absurd a3 (wV_ne (wB_even h2 o))
                · exact Or.inr ⟨by omega, a3⟩
              · exact Or.inl (by omega)
theorem psi_M : ∀ (n : Nat) (lo hi : List Nat) (t t' : Nat), lo.length + hi.length ≤ n → wB lo → wB hi → wO lo hi → t % 2 = 1 → t' % 2 = 1 → t < t' → wl (psi lo hi t) (psi lo hi t') := by
  intro n
  induction n with
  | zero =>
    intro lo hi t t' hn h1 h2 h3 ht ht' hl
    have e1 : lo = [] := List.length_eq_zero_iff.mp (by omega)
    have e2 : hi = [] := List.length_eq_zero_iff.mp (by omega)
    subst e1; subst e2
    rw [psi, psi]
    exact Or.inl hl
  | succ n ih =>
    intro lo hi t t' hn h1 h2 h3 ht ht' hl
    match lo, hi, hn, h1, h2, h3 with
    | [], [], hn, h1, h2, h3 =>
      rw [psi, psi]
      exact Or.inl hl
    | [], b :: u, hn, h1, h2, h3 =>
      rw [psi, psi]
      by_cases q : t < b <;> by_cases q' : t' < b
      · rw [if_pos q, if_pos q']; exact Or.inl hl
      · rw [if_pos q, if_neg q']; exact Or.inl (by omega)
      · omega
      · rw [if_neg q, if_neg q']
        exact Or.inr ⟨rfl, ih [] u t t' (by simp at hn ⊢; omega) (Or.inl rfl) (wB_tail h2) (Or.inl rfl) ht ht' hl⟩
    | a :: l, [], hn, h1, h2, h3 =>
      rw [psi, psi]
      by_cases q : a < t <;> by_cases q' : a < t'
      · rw [if_pos q, if_pos q']; exact Or.inl hl
      · omega
      · rw [if_neg q, if_pos q']; exact Or.inl (by omega)
      · rw [if_neg q, if_neg q']
        exact Or.inr ⟨rfl, ih l [] t t' (by simp at hn ⊢; omega) (wB_tail h1) (Or.inl rfl) (Or.inr (Or.inl rfl)) ht ht' hl⟩
    | a :: l, b :: u, hn, h1, h2, h3 =>
      have h4 := wO_cons h3
      rw [psi, psi]
      by_cases q : t ≤ a
      · rw [if_pos q]
        by_cases q' : t' ≤ a
        · rw [if_pos q']
          by_cases hb : b = a + a % 2
          · rw [if_pos hb]
            have o2 : wO l u := by
              rcases h4 with h4 | h4
              · exact Or.inl (wB_odd h1 (by omega))
              · exact Or.inr (Or.inr h4.2)
            exact Or.inr ⟨rfl, ih l u t t' (by simp at hn ⊢; omega) (wB_tail h1) (wB_tail h2) o2 ht ht' hl⟩
          · rw [if_neg hb]
            exact Or.inr ⟨rfl, ih l [] t t' (by simp at hn ⊢; omega) (wB_tail h1) (Or.inl rfl) (Or.inr (Or.inl rfl)) ht ht' hl⟩
        · rw [if_neg q']
          by_cases r' : t' < b
          · rw [if_pos r']; exact Or.inl (by omega)
          · rw [if_neg r']
            by_cases hg : a + a % 2 = b - b % 2
            · have o2 : wO l u := by
                rcases h4 with h4 | h4
                · by_cases oa : a % 2 = 1
                  · exact Or.inl (wB_odd h1 oa)
                  · exact Or.inr (Or.inl (wB_odd h2 (by omega)))
                · exact Or.inr (Or.inr h4.2)
              have eu : (if b = a + a % 2 then u else []) = u := by
                by_cases hb : b = a + a % 2
                · rw [if_pos hb]
                · rw [if_neg hb, wB_odd h2 (by omega)]
              have el : (if a = b - b % 2 then l else []) = l := by
                by_cases hb : a = b - b % 2
                · rw [if_pos hb]
                · rw [if_neg hb, wB_odd h1 (by omega)]
              rw [eu, el]
              exact Or.inr ⟨hg, ih l u t t' (by simp at hn ⊢; omega) (wB_tail h1) (wB_tail h2) o2 ht ht' hl⟩
            · refine Or.inl ?_
              rcases h4 with h4 | ⟨h4, h5⟩
              · omega
              · subst h4
                rcases Nat.mod_two_eq_zero_or_one a with o | o
                · omega
                · exact absurd h5 (by rw [wB_odd h1 o]; exact fun q => q)
      · rw [if_neg q, if_neg (show ¬ t' ≤ a by omega)]
        by_cases r : t < b
        · rw [if_pos r]
          by_cases r' : t' < b
          · rw [if_pos r']; exact Or.inl hl
          · rw [if_neg r']; exact Or.inl (by omega)
        · rw [if_neg r, if_neg (show ¬ t' < b by omega)]
          by_cases hb : a = b - b % 2
          · rw [if_pos hb]
            have o2 : wO l u := by
              rcases h4 with h4 | h4
              · exact Or.inr (Or.inl (wB_odd h2 (by omega)))
              · exact Or.inr (Or.inr h4.2)
            exact Or.inr ⟨rfl, ih l u t t' (by simp at hn ⊢; omega) (wB_tail h1) (wB_tail h2) o2 ht ht' hl⟩
          · rw [if_neg hb]
            exact Or.inr ⟨rfl, ih [] u t t' (by simp at hn ⊢; omega) (Or.inl rfl) (wB_tail h2) (Or.inl rfl) ht ht' hl⟩
def gap (h : List Nat) (g : Nat) : List Nat := match h with
  | [] => []
  | b :: u => if b = g then u else []
theorem gap_len (h : List Nat) (g : Nat) : (gap h g).length ≤ h.length := by
  cases h with
  | nil => exact Nat.le_refl _
  | cons b u => simp only [gap]; split <;> simp
theorem gap_B {h : List Nat} (g : Nat) (hb : wB h) : wB (gap h g) := by
  cases h with
  | nil => exact Or.inl rfl
  | cons b u =>
    simp only [gap]
    split
    · exact wB_tail hb
    · exact Or.inl rfl
theorem wl_nil (l : List Nat) : ¬ wl l [] := by
  cases l <;> exact fun q => q
theorem psi_lo {a t : Nat} {l hi : List Nat} (h : t ≤ a) : psi (a :: l) hi t = (a + a % 2) :: psi l (gap hi (a + a % 2)) t := by
  cases hi with
  | nil => rw [psi, if_neg (by omega)]; rfl
  | cons b u => rw [psi, if_pos h]; rfl
theorem psi_hi {b t : Nat} {lo u : List Nat} (h0 : ∀ a l, lo = a :: l → a < t) (h : b ≤ t) : psi lo (b :: u) t = (b - b % 2) :: psi (gap lo (b - b % 2)) u t := by
  cases lo with
  | nil => rw [psi, if_neg (by omega)]; rfl
  | cons a l =>
    have := h0 a l rfl
    rw [psi, if_neg (by omega), if_neg (by omega)]; rfl
theorem psi_t {t : Nat} {lo hi : List Nat} (h1 : ∀ a l, lo = a :: l → a < t) (h2 : ∀ b u, hi = b :: u → t < b) : psi lo hi t = [t] := by
  cases lo with
  | nil =>
    cases hi with
    | nil => rw [psi]
    | cons b u => rw [psi, if_pos (h2 b u rfl)]
  | cons a l =>
    have := h1 a l rfl
    cases hi with
    | nil => rw [psi, if_pos this]
    | cons b u => rw [psi, if_neg (by omega), if_pos (h2 b u rfl)]
theorem psi_B : ∀ (n : Nat) (lo hi lo2 hi2 : List Nat) (t : Nat), lo.length + hi.length ≤ n → wB lo → wB hi → wB lo2 → wB hi2 → wO lo hi → t % 2 = 1 → (lo = [] ∨ lo = lo2 ∨ wl lo lo2) → wL lo2 (psi lo hi t) → wU (psi lo hi t) hi2 → (hi = [] ∨ hi2 = hi ∨ wl hi2 hi) → psi lo2 hi2 t = psi lo hi t := by
  intro n
  induction n with
  | zero =>
    intro lo hi lo2 hi2 t hn b1 b2 c1 c2 ho ht k1 k2 k3 k4
    have e1 : lo = [] := List.length_eq_zero_iff.mp (by omega)
    have e2 : hi = [] := List.length_eq_zero_iff.mp (by omega)
    subst e1; subst e2
    rw [psi] at k2 k3 ⊢
    refine psi_t (fun a l e => ?_) (fun b u e => ?_)
    · subst e
      rcases k2 with k2 | k2 | k2
      · cases k2
      · exact k2
      · exact absurd k2.2 (wl_nil _)
    · subst e
      rcases k3 with k3 | k3 | k3
      · cases k3
      · exact k3
      · exact absurd k3.2 (fun q => q)
  | succ n ih =>
    intro lo hi lo2 hi2 t hn b1 b2 c1 c2 ho ht k1 k2 k3 k4
    by_cases hL : ∃ a l, lo = a :: l ∧ t ≤ a
    · obtain ⟨a, l, rfl, hta⟩ := hL
      rw [psi_lo hta] at k2 k3 ⊢
      generalize hg : a + a % 2 = g at k2 k3 ⊢
      have h2 : ∃ a2 l2, lo2 = a2 :: l2 ∧ (a < a2 ∨ (a = a2 ∧ (l = l2 ∨ wl l l2))) := by
        rcases k1 with k1 | k1 | k1
        · cases k1
        · exact ⟨a, l, k1.symm, Or.inr ⟨rfl, Or.inl rfl⟩⟩
        · cases lo2 with
          | nil => exact absurd k1 (fun q => q)
          | cons a2 l2 =>
            rcases k1 with k1 | k1
            · exact ⟨a2, l2, rfl, Or.inl k1⟩
            · exact ⟨a2, l2, rfl, Or.inr ⟨k1.1, Or.inr k1.2⟩⟩
      obtain ⟨a2, l2, rfl, h3⟩ := h2
      have k2' : a2 < g ∨ (a2 = g ∧ wl l2 (psi l (gap hi g) t)) := by
        rcases k2 with k2 | k2
        · cases k2
        · exact k2
      have hge : a ≤ a2 := by rcases h3 with h3 | h3 <;> omega
      have hle : a2 ≤ g := by rcases k2' with h3 | h3 <;> omega
      rw [psi_lo (show t ≤ a2 by omega)]
      have hg2 : a2 + a2 % 2 = g := by omega
      rw [hg2]
      congr 1
      have hlen := gap_len hi g
      refine ih l (gap hi g) l2 (gap hi2 g) t (by simp at hn; omega) (wB_tail b1) (gap_B g b2) (wB_tail c1) (gap_B g c2) ?_ ht ?_ ?_ ?_ ?_
      · cases hi with
        | nil => exact Or.inr (Or.inl rfl)
        | cons b u =>
          by_cases hb : b = g
          · simp only [gap, if_pos hb]
            rcases wO_cons ho with h | h
            · exact Or.inl (wB_odd b1 (by omega))
            · exact Or.inr (Or.inr h.2)
          · simp only [gap, if_neg hb]
            exact Or.inr (Or.inl rfl)
      · rcases Nat.mod_two_eq_zero_or_one a with o | o
        · rcases h3 with h3 | h3
          · omega
          · exact Or.inr h3.2
        · exact Or.inl (wB_odd b1 o)
      · rcases k2' with h | h
        · exact Or.inl (wB_odd c1 (by omega))
        · exact Or.inr h.2
      · cases hi2 with
        | nil => exact Or.inl rfl
        | cons b2' u2 =>
          rcases k3 with k3 | k3 | k3
          · cases k3
          · simp only [gap, if_neg (show ¬ b2' = g by omega)]
            exact Or.inl rfl
          · simp only [gap, if_pos k3.1.symm]
            exact Or.inr k3.2
      · cases hi with
        | nil => exact Or.inl rfl
        | cons b u =>
          by_cases hb : b = g
          · rcases k4 with k4 | k4 | k4
            · cases k4
            · rw [k4]; exact Or.inr (Or.inl rfl)
            · cases hi2 with
              | nil => exact absurd k4 (fun q => q)
              | cons b2' u2 =>
                have k3' : g < b2' ∨ (g = b2' ∧ wl (psi l (gap (b :: u) g) t) u2) := by
                  rcases k3 with k3 | k3
                  · cases k3
                  · exact k3
                rcases k4 with k4 | k4
                · rcases k3' with q | q <;> omega
                · simp only [gap, if_pos hb, if_pos (show b2' = g by omega)]
                  exact Or.inr (Or.inr k4.2)
          · simp only [gap, if_neg hb]
            exact Or.inl trivial
    · have hL2 : ∀ a l, lo = a :: l → a < t := fun a l e => Nat.lt_of_not_le (fun q => hL ⟨a, l, e, q⟩)
      by_cases hH : ∃ b u, hi = b :: u ∧ b ≤ t
      · obtain ⟨b, u, rfl, htb⟩ := hH
        rw [psi_hi hL2 htb] at k2 k3 ⊢
        generalize hg : b - b % 2 = g at k2 k3 ⊢
        have h2 : ∃ b2' u2, hi2 = b2' :: u2 ∧ (b2' < b ∨ (b2' = b ∧ (u2 = u ∨ wl u2 u))) := by
          rcases k4 with k4 | k4 | k4
          · cases k4
          · exact ⟨b, u, k4, Or.inr ⟨rfl, Or.inl rfl⟩⟩
          · cases hi2 with
            | nil => exact absurd k4 (fun q => q)
            | cons b2' u2 =>
              rcases k4 with k4 | k4
              · exact ⟨b2', u2, rfl, Or.inl k4⟩
              · exact ⟨b2', u2, rfl, Or.inr ⟨k4.1, Or.inr k4.2⟩⟩
        obtain ⟨b2', u2, rfl, h3⟩ := h2
        have k3' : g < b2' ∨ (g = b2' ∧ wl (psi (gap lo g) u t) u2) := by
          rcases k3 with k3 | k3
          · cases k3
          · exact k3
        have hle : b2' ≤ b := by rcases h3 with h3 | h3 <;> omega
        have hge : g ≤ b2' := by rcases k3' with h3 | h3 <;> omega
        have k2' : ∀ a2 l2, lo2 = a2 :: l2 → a2 < g ∨ (a2 = g ∧ wl l2 (psi (gap lo g) u t)) := by
          intro a2 l2 e
          subst e
          rcases k2 with k2 | k2
          · cases k2
          · exact k2
        rw [psi_hi (fun a2 l2 e => by rcases k2' a2 l2 e with q | q <;> omega) (show b2' ≤ t by omega)]
        have hg2 : b2' - b2' % 2 = g := by omega
        rw [hg2]
        congr 1
        have hlen := gap_len lo g
        refine ih (gap lo g) u (gap lo2 g) u2 t (by simp at hn; omega) (gap_B g b1) (wB_tail b2) (gap_B g c1) (wB_tail c2) ?_ ht ?_ ?_ ?_ ?_
        · cases lo with
          | nil => exact Or.inl rfl
          | cons a l =>
            by_cases ha : a = g
            · simp only [gap, if_pos ha]
              rcases wO_cons ho with h | h
              · exact Or.inr (Or.inl (wB_odd b2 (by omega)))
              · exact Or.inr (Or.inr h.2)
            · simp only [gap, if_neg ha]
              exact Or.inl rfl
        · cases lo with
          | nil => exact Or.inl rfl
          | cons a l =>
            by_cases ha : a = g
            · rcases k1 with k1 | k1 | k1
              · cases k1
              · rw [← k1]; exact Or.inr (Or.inl rfl)
              · cases lo2 with
                | nil => exact absurd k1 (fun q => q)
                | cons a2 l2 =>
                  have k5 := k2' a2 l2 rfl
                  rcases k1 with k1 | k1
                  · rcases k5 with q | q <;> omega
                  · simp only [gap, if_pos ha, if_pos (show a2 = g by omega)]
                    exact Or.inr (Or.inr k1.2)
            · simp only [gap, if_neg ha]
              exact Or.inl trivial
        · cases lo2 with
          | nil => exact Or.inl rfl
          | cons a2 l2 =>
            by_cases ha : a2 = g
            · simp only [gap, if_pos ha]
              rcases k2' a2 l2 rfl with q | q
              · omega
              · exact Or.inr q.2
            · simp only [gap, if_neg ha]
              exact Or.inl rfl
        · rcases k3' with h | h
          · exact Or.inl (wB_odd c2 (by omega))
          · exact Or.inr h.2
        · rcases Nat.mod_two_eq_zero_or_one b with o | o
          · rcases h3 with h3 | h3
            · omega
            · exact Or.inr h3.2
          · exact Or.inl (wB_odd b2 o)
      · have hH2 : ∀ b u, hi = b :: u → t < b := fun b u e => Nat.lt_of_not_le (fun q => hH ⟨b, u, e, q⟩)
        rw [psi_t hL2 hH2] at k2 k3 ⊢
        refine psi_t (fun a l e => ?_) (fun b u e => ?_)
        · subst e
          rcases k2 with k2 | k2 | k2
          · cases k2
          · exact k2
          · exact absurd k2.2 (wl_nil _)
        · subst e
          rcases k3 with k3 | k3 | k3
          · cases k3
          · exact k3
          · exact absurd k3.2 (fun q => q)
