theorem gO_of {T T' : aS} {w : Bool} {lt : Int → Int → Prop} (h0 : T' 0 0 = T 0 0) (hj : ∀ j, 1 ≤ j → j ≤ 5 → T' j = T j) (h : gO T w lt) : gO T' w lt := by
  have hC : ∀ c, aHasC T' c ↔ aHasC T c := fun c => by unfold aHasC; rw [h0]
  have hl : aLeft T' = aLeft T := by funext c; unfold aLeft; rw [hj 4 (by omega) (by omega)]; simp only [hC]
  have hr : aRight T' = aRight T := by funext c; unfold aRight; rw [hj 5 (by omega) (by omega)]; simp only [hC]
  have hm : aMark T' = aMark T := by funext c; unfold aMark; rw [hj 2 (by omega) (by omega)]; simp only [hC]
  have hs : aSite T' = aSite T := by funext c; unfold aSite; rw [hj 1 (by omega) (by omega)]; simp only [hC]
  rcases h with ⟨rfl, key, h1, rfl⟩ | ⟨rfl, ρ, h1, rfl⟩
  · refine Or.inl ⟨rfl, key, ?_, rfl⟩
    have hk : kl T' key = kl T key := by funext a; unfold kl; simp only [hC]
    have ht : tg T' = tg T := by funext a; unfold tg; rw [hm]
    unfold wOK at h1 ⊢
    rw [hl, hr, hk, ht, hm]
    simp only [hC]
    exact h1
  · refine Or.inr ⟨rfl, ρ, ?_, rfl⟩
    have hR : ∀ a, isR T' a ↔ isR T a := fun a => by unfold isR; rw [hC]
    unfold yOK rnk at h1 ⊢
    rw [hl, hr, hs]
    simp only [hC, hR]
    exact h1
theorem gT_ers {T : aS} {s c : Int} (hT : gT T) (hs0 : 0 ≤ s) (hs5 : s < 5) (h100 : T 0 2 < 100) (hc : aHasC T c) : gT (tErs T s c) := by
  obtain ⟨⟨t0, t1, t2, t3, t4, t5, t6⟩, ⟨g1, g2, g3⟩, g4, g5, g6, g7⟩ := hT
  have hx : tExt T (tErs T s c) := te_ext t2 (by omega)
  have hM : ∀ x, aHasM (tErs T s c) x ↔ aHasM T x ∨ x = T 0 1 := fun x => te_M t2 (by omega)
  refine ⟨⟨by rw [te_00]; omega, by rw [te_00]; omega, by rw [te_01]; omega, by rw [te_01]; omega, fun x hx1 => ?_, fun k hk => ?_, fun k k2 hk hk2 h6 h62 h8 => ?_⟩, ⟨by rw [te_00, te_01, te_02]; omega, by rw [te_02]; omega, by rw [te_02]; omega⟩, fun x x0 x1 => ?_, fun x hx1 => ?_, fun x o hx1 ho he => ?_, fun x hx1 => ?_⟩
  · have v := te_C.mp hx1
    rw [ext_left hx v, ext_right hx v]; exact t4 x v
  · rcases (hM k).mp hk with v | v
    · obtain ⟨_, e6, _, e8⟩ := hx.2 k v
      rw [e6, e8]
      exact ⟨(t5 k v).1, te_C.mpr (t5 k v).2⟩
    · rw [v, te_6, te_8, if_pos rfl, if_pos rfl]
      exact ⟨Or.inr rfl, te_C.mpr hc⟩
  · rcases (hM k).mp hk with v | v
    · obtain ⟨_, e6, _, e8⟩ := hx.2 k v
      rcases (hM k2).mp hk2 with u | u
      · obtain ⟨_, f6, _, f8⟩ := hx.2 k2 u
        rw [e6] at h6; rw [f6] at h62; rw [e8, f8] at h8
        exact t6 k k2 v u h6 h62 h8
      · rw [u, te_6, if_pos rfl] at h62
        omega
    · rw [v, te_6, if_pos rfl] at h6
      omega
  · rw [te_00, te_j _ _ _ _ 9 (by omega)]; exact g4 x x0 x1
  · rw [te_j _ _ _ _ 1 (by omega), te_j _ _ _ _ 2 (by omega), te_j _ _ _ _ 9 (by omega)]
    exact g5 x (te_C.mp hx1)
  · rw [te_j _ _ _ _ 2 (by omega), te_j _ _ _ _ 2 (by omega)] at he
    exact g6 x o (te_C.mp hx1) (te_C.mp ho) he
  · have v := te_C.mp hx1
    obtain ⟨k, k1, k2, k3, k4⟩ := g7 x v
    obtain ⟨e0, e6, e7, e8⟩ := hx.2 k k1
    exact ⟨k, e0, by rw [e6]; exact k2, by rw [e8]; exact k3, by rw [e7, (hx.1 x v).2.1]; exact k4⟩
theorem gO_ers {T : aS} {w : Bool} {lt : Int → Int → Prop} {s c : Int} (h : gO T w lt) : gO (tErs T s c) w lt :=
  gO_of (te_00 T s c) (fun j h1 h2 => by funext z; exact te_j T s c z j (Or.inl ⟨h1, h2⟩)) h
/-! what a message that is done leaves -/
theorem strike_4 (X : aS) (c : Int) : aStrike X c 4 = X 4 := by
  funext z; unfold aStrike; split
  · rw [aUp_ne (by omega), aUp_ne (by omega)]
  · rfl
theorem strike_2 (X : aS) (c : Int) : aStrike X c 2 = X 2 := by
  funext z; unfold aStrike; split
  · rw [aUp_ne (by omega), aUp_ne (by omega)]
  · rfl
theorem do_4 (T : aS) (w : Bool) (X : aS) (k z : Int) : aDo T w X k 4 z = if z = k then 2 else X 4 z := by
  unfold aDo
  split
  · rw [strike_4, aMk_4, st_up]
  · rw [aIns_4, up0_4, aMk_4, st_up]
theorem do_03 (T : aS) (w : Bool) (X : aS) (k : Int) : aDo T w X k 0 3 = X 0 3 := by
  unfold aDo
  split
  · unfold aStrike
    split
    · rw [aUp_ne (by omega), aUp_ne (by omega), aMk_0, if_neg (by omega)]
    · rw [aMk_0, if_neg (by omega)]
  · rw [aIns_0, if_neg (by omega), if_neg (by omega), if_neg (by omega), up0_0, if_neg (by omega), aMk_0, if_neg (by omega)]
theorem do_2 {T : aS} {w : Bool} {X : aS} {k : Int} (h : doOK T w X k) {c : Int} (c0 : 0 ≤ c) (c1 : c < 60) : aDo T w X k 2 c = -2 ↔ X 2 c = -2 ∧ ¬ (¬ T 6 k = 1 ∧ c = T 8 k) := by
  obtain ⟨hk, hcp, hc, _, _, _, _, _, _, hi⟩ := h
  unfold aDo
  rw [kind_in hk, subj_in hk]
  by_cases h6 : T 6 k = 1
  · rw [if_pos h6, strike_2, aMk_2]
    constructor
    · exact fun q => ⟨q, fun u => u.1 h6⟩
    · exact fun q => q.1
  · rw [if_neg h6]
    obtain ⟨i1, i2, i3, i4, i5, i6⟩ := hi h6
    have hsq : seqOK (aUp (aMk X k) 0 5 (wr (X 0 5 + (aPut T w (aMk X k) (T 8 k)).2))) := by
      refine cpOK_seq (T := T) (cpOK_of hcp ?_ ?_ ?_)
      · rw [up0_0, if_neg (by omega), aMk_0, if_neg (by omega)]
      · rw [up0_1, aMk_1]
      · rw [up0_2, aMk_2]
    rw [ins_pres hsq hc.1 hc.2.2 i5 c c0 c1, up0_2, aMk_2]
    constructor
    · exact fun q => ⟨q.1, fun u => q.2 u.2⟩
    · exact fun q => ⟨q.1, fun u => q.2 ⟨h6, u⟩⟩
theorem can_same {T : aS} (ht : tInv T) {X Y : aS} {k : Int} (hk : aHasM T k) (h : ∀ a, isR T a → (aPl Y a = -2 ↔ aPl X a = -2)) : aCan T Y k ↔ aCan T X k := by
  obtain ⟨_, _, _, _, hf, h5, _⟩ := ht
  have hc := (h5 k hk).2
  have e : aSubj T k = T 8 k := subj_in hk
  unfold aCan
  rw [e, h _ (Or.inr (Or.inr hc)), h _ (tRef_l hf hc), h _ (tRef_r hf hc)]
theorem settle_4 {T : aS} {w : Bool} {j : Int} : ∀ (f : Nat) (X : aS) (n : Int), X 4 j = 2 → (aSettle T w f X n).1 4 j = 2
  | 0, X, n, h => by rw [aSettle]; exact h
  | f + 1, X, n, h => by
    rw [aSettle]
    split
    · exact h
    · refine settle_4 f _ _ ?_
      rw [do_4, up0_4]
      split
      · rfl
      · exact h
theorem settle_end {T : aS} {lt : Int → Int → Prop} {w : Bool} (ht : tInv T) (ho : oOK T w lt) : ∀ (f : Nat) (X : aS) (n : Int), cInv T lt X → X 0 3 ≤ f → aReady T (aSettle T w f X n).1 = -1
  | 0, X, n, h, h3 => by
    rw [aSettle]
    have := cn_le (f := fun k => iq (X 4 k) 1) 160 (fun q _ _ => iq_01 _ _)
    have h9 := h.2.2.2.2
    unfold nSt at h9
    show aReady T X = -1
    unfold aReady
    rw [if_pos (by omega)]
  | f + 1, X, n, h, h3 => by
    rw [aSettle]
    split
    · assumption
    · rename_i hr
      refine settle_end ht ho f _ _ (settle_step ht ho h hr).2 ?_
      rw [do_03, up0_0, if_pos rfl]
      omega
theorem hear_4 {T : aS} {w : Bool} {X : aS} {k j : Int} (h : X 4 j = 2) : (aHear T w X k).1 4 j = 2 := by
  unfold aHear
  split
  · exact h
  · rename_i h1
    split
    · have hne : ¬ j = k := fun q => by
        have hk : aHasM T k := Decidable.byContradiction (fun q => h1 (Or.inl q))
        have h0 : aSt X k = 0 := Decidable.byContradiction (fun q => h1 (Or.inr q))
        unfold aSt at h0
        rw [if_pos ⟨hk.1, hk.2.2⟩, ← q] at h0
        omega
      show aUp (aUp X 4 k 1) 0 3 (X 0 3 + 1) 4 j = 2
      rw [up0_4, aUp_ne (fun q => hne q.2)]
      exact h
    · refine settle_4 160 _ 1 ?_
      rw [do_4]
      split
      · rfl
      · exact h
theorem hear_set {T : aS} {lt : Int → Int → Prop} {w : Bool} {X : aS} {k : Int} (ht : tInv T) (ho : oOK T w lt) (hX : cInv T lt X) (h : gSet T X) : gSet T (aHear T w X k).1 := by
  have hi := hear_inv (k := k) (w := w) ht ho hX
  revert hi
  unfold aHear
  split
  · exact fun _ => h
  · rename_i h1
    have hk : aHasM T k := Decidable.byContradiction (fun q => h1 (Or.inl q))
    have h0 : aSt X k = 0 := Decidable.byContradiction (fun q => h1 (Or.inr q))
    split
    · rename_i hc
      intro _ j hj hj1 hjc
      have hcan : aCan T X j := by
        refine (can_same ht hj (Y := aUp (aUp X 4 k 1) 0 3 (X 0 3 + 1)) (fun a _ => ?_)).mp hjc
        rw [aPl_of (X := X)]
        · rw [up0_0, if_neg (by omega), aUp_ne (by omega)]
        · rw [up0_2]; funext z; rw [aUp_ne (by omega)]
      by_cases hjk : j = k
      · rw [hjk] at hcan; exact hc hcan
      · refine h j hj ?_ hcan
        have h2 : aUp (aUp X 4 k 1) 0 3 (X 0 3 + 1) 4 j = 1 := hj1
        rw [up0_4, aUp_ne (fun q => hjk q.2)] at h2
        exact h2
    · rename_i h2
      intro hi
      refine ready_set ht hi ?_
      have hs := hear_step ht ho hX hk h0 (Decidable.byContradiction h2)
      refine settle_end ht ho 160 _ 1 hs.2 ?_
      rw [do_03, hX.2.2.2.2]
      exact (cn_le (f := fun k => iq (X 4 k) 1) 160 (fun q _ _ => iq_01 _ _)).2
/-- a site's own new message: it is done at once, nothing else is -/
theorem own_all {T T' X : aS} {w : Bool} {lt lt' : Int → Int → Prop} {s : Int} (hT : gT T) (hT' : gT T') (hO : gO T' w lt') (hx : tExt T T') (hlt : ∀ a b, aHasC T a → aHasC T b → lt a b → lt' a b) (hX : cInv T lt X) (how : gOwn T X s) (hse : gSet T X)
    (h01 : T' 0 1 = T 0 1 + 1) (hn : T' 6 (T 0 1) = 0 → T' 8 (T 0 1) = T 0 0) (hcan : aCan T' X (T 0 1)) :
    (∀ Y lt0, cInv T lt0 Y → (∀ a b, aHasC T a → aHasC T b → lt0 a b → lt' a b) → cInv T' lt' Y) ∧ doOK T' w (aStart X) (T 0 1) ∧ cInv T' lt' (aDo T' w (aStart X) (T 0 1)) ∧ gSet T' (aDo T' w (aStart X) (T 0 1)) ∧ gOwn T' (aDo T' w (aStart X) (T 0 1)) s ∧ aHear T' w (aStart X) (T 0 1) = (aDo T' w (aStart X) (T 0 1), 1) ∧ aHasM T' (T 0 1) := by
  have ht := hT.1
  have ht' := hT'.1
  have hk : aHasM T' (T 0 1) := ⟨ht.2.2.1, by omega, by have := ht'.2.2.2.1; omega⟩
  have hold : ∀ k, aHasM T' k → ¬ k = T 0 1 → aHasM T k := fun k h1 h2 => ⟨h1.1, by have := h1.2.1; omega, h1.2.2⟩
  have e1 : ∀ Y lt0, cInv T lt0 Y → (∀ a b, aHasC T a → aHasC T b → lt0 a b → lt' a b) → cInv T' lt' Y := by
    intro Y lt0 hY hl0
    refine ext_inv hx hl0 hY ⟨ht.2.2.1, by omega⟩ (fun k h1 h2 h6 => ?_)
    have hq : k = T 0 1 := Decidable.byContradiction (fun q => h2 (hold k h1 q))
    rw [hq] at h6 ⊢
    have hc := (ht'.2.2.2.2.2.1 _ hk).2
    rw [hn h6] at hc ⊢
    exact ⟨hc.1, hc.2.2, new_no⟩
  have hX' := start_inv (e1 X lt hX hlt)
  have h4 : X 4 (T 0 1) = 0 := hX.2.2.1.2.1 _ (Int.le_refl _) hk.2.2
  have s4 : aStart X 4 = X 4 := by unfold aStart; rw [up0_4, up0_4]
  have s2 : aStart X 2 = X 2 := by unfold aStart; rw [up0_2, up0_2]
  have s00 : aStart X 0 0 = X 0 0 := by unfold aStart; rw [up0_0, if_neg (by omega), up0_0, if_neg (by omega)]
  have hst : aSt (aStart X) (T 0 1) = 0 := by unfold aSt; rw [if_pos ⟨hk.1, hk.2.2⟩, s4]; exact h4
  have hc2 : aCan T' (aStart X) (T 0 1) := aCan_of hcan s00 s2
  obtain ⟨d1, d2⟩ := hear_step ht' (gO_o ht'.2.2.2.2.1 hO) hX' hk hst hc2
  have hset : gSet T' (aDo T' w (aStart X) (T 0 1)) := by
    intro k h1 h2 h3
    rw [do_4, s4] at h2
    by_cases hq : k = T 0 1
    · rw [if_pos hq] at h2; omega
    · rw [if_neg hq] at h2
      have hm := hold k h1 hq
      refine hse k hm h2 ?_
      refine (can_same ht hm (fun a ha => ?_)).mp ((ext_can ht hx hm).mp h3)
      rcases ha with v | v | v
      · rw [v, pl_beg, pl_beg]
      · rw [v, pl_end, pl_end]
        have := d2.1.1
        have := hX.1.1
        constructor <;> intro _ <;> omega
      · rw [pl_char v.1 v.2.2, pl_char v.1 v.2.2, do_2 d1 v.1 v.2.2, s2]
        constructor
        · exact fun q => q.1
        · refine fun q => ⟨q, fun u => ?_⟩
          rcases (ht'.2.2.2.2.2.1 _ hk).1 with r | r
          · rw [hn r] at u
            rw [u.2] at v
            exact new_no v
          · exact u.1 r
  refine ⟨e1, d1, d2, hset, ?_, ?_, hk⟩
  · intro k h1 h7
    rw [do_4, s4]
    by_cases hq : k = T 0 1
    · rw [if_pos hq]
    · rw [if_neg hq]
      have hm := hold k h1 hq
      exact how k hm (by rw [← (hx.2 k hm).2.2.1]; exact h7)
  · unfold aHear
    rw [if_neg (by rintro (q | q); exact q hk; exact q hst), if_neg (fun q => q hc2), aSettle, if_pos (ready_none ht' hset)]
/-- the other copies -/
theorem oth_all {T T' X : aS} {s s2 : Int} (hT : gT T) (hx : tExt T T') {lt : Int → Int → Prop} (hX : cInv T lt X) (how : gOwn T X s2) (hse : gSet T X) (h01 : T' 0 1 = T 0 1 + 1) (h7 : T' 7 (T 0 1) = s) (hs : ¬ s2 = s) : gOwn T' X s2 ∧ gSet T' X := by
  have hold : ∀ k, aHasM T' k → ¬ k = T 0 1 → aHasM T k := fun k h1 h2 => ⟨h1.1, by have := h1.2.1; omega, h1.2.2⟩
  refine ⟨fun k h1 h2 => ?_, fun k h1 h2 h3 => ?_⟩
  · by_cases hq : k = T 0 1
    · rw [hq, h7] at h2; exact absurd h2.symm hs
    · have hm := hold k h1 hq
      exact how k hm (by rw [← (hx.2 k hm).2.2.1]; exact h2)
  · by_cases hq : k = T 0 1
    · have : X 4 (T 0 1) = 0 := hX.2.2.1.2.1 _ (Int.le_refl _) (by rw [← hq]; exact h1.2.2)
      rw [hq] at h2
      omega
    · have hm := hold k h1 hq
      exact hse k hm h2 ((ext_can hT.1 hx hm).mp h3)
