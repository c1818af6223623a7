/-! settling -/
theorem readyF_spec {T X : aS} : ∀ (n : Nat) (k : Int), 0 ≤ k → k + n ≤ 160 → aReadyF T X n k = -1 ∨ (k ≤ aReadyF T X n k ∧ aReadyF T X n k < k + n ∧ aSt X (aReadyF T X n k) = 1 ∧ aCan T X (aReadyF T X n k))
  | 0, k, _, _ => by rw [aReadyF]; exact Or.inl rfl
  | n + 1, k, h0, h1 => by
    rw [aReadyF]
    by_cases h : aSt X k = 1 ∧ aCan T X k
    · rw [if_pos h]
      exact Or.inr ⟨Int.le_refl _, by omega, h.1, h.2⟩
    · rw [if_neg h]
      rcases readyF_spec (T := T) (X := X) n (k + 1) (by omega) (by omega) with q | ⟨q1, q2, q3, q4⟩
      · exact Or.inl q
      · exact Or.inr ⟨by omega, by omega, q3, q4⟩
theorem ready_spec {T X : aS} (ht : tInv T) (h : ¬ aReady T X = -1) : aHasM T (aReady T X) ∧ X 4 (aReady T X) = 1 ∧ aCan T X (aReady T X) := by
  obtain ⟨t0, t1, t2, t3, t4, t5, t6⟩ := ht
  unfold aReady at h ⊢
  split at h
  · exact absurd rfl h
  · rename_i hw
    rw [if_neg hw]
    rcases readyF_spec (T := T) (X := X) (T 0 1).toNat 0 (by omega) (by omega) with q | ⟨q1, q2, q3, q4⟩
    · exact absurd q h
    · have hm : aHasM T (aReadyF T X (T 0 1).toNat 0) := ⟨q1, by omega, by omega⟩
      refine ⟨hm, ?_, q4⟩
      unfold aSt at q3
      rw [if_pos ⟨hm.1, hm.2.2⟩] at q3
      exact q3
/-- what a copy's numbers keep when one of row 0 that cpOK doesn't read changes -/
theorem up0_1 (X : aS) (z v : Int) : aUp X 0 z v 1 = X 1 := by funext a; unfold aUp; simp
theorem up0_2 (X : aS) (z v : Int) : aUp X 0 z v 2 = X 2 := by funext a; unfold aUp; simp
theorem up0_3 (X : aS) (z v : Int) : aUp X 0 z v 3 = X 3 := by funext a; unfold aUp; simp
theorem up0_4 (X : aS) (z v : Int) : aUp X 0 z v 4 = X 4 := by funext a; unfold aUp; simp
theorem up0_0 (X : aS) (z v b : Int) : aUp X 0 z v 0 b = if b = z then v else X 0 b := by unfold aUp; simp
theorem stOK_of {T X Y : aS} (h : stOK T X) (h2 : Y 2 = X 2) (h3 : Y 3 = X 3) (h4 : Y 4 = X 4) : stOK T Y := by
  unfold stOK at h ⊢
  rw [h2, h3, h4]
  exact h
theorem cntOK_of {X Y : aS} (h : cntOK X) (h0 : Y 0 0 = X 0 0) (h01 : Y 0 1 = X 0 1) (h02 : Y 0 2 = X 0 2) (h06 : Y 0 6 = X 0 6) (h1 : Y 1 = X 1) (h2 : Y 2 = X 2) (h3 : Y 3 = X 3) (h4 : Y 4 = X 4) : cntOK Y := by
  unfold cntOK nSeen nSt pres at h ⊢
  rw [h0, h01, h02, h06, h1, h2, h3, h4]
  exact h
theorem srtL_of {lt : Int → Int → Prop} {X Y : aS} (h : srtL lt X) (h0 : Y 0 0 = X 0 0) (h1 : Y 1 = X 1) : srtL lt Y := by
  unfold srtL at h ⊢
  rw [h0, h1]
  exact h
theorem aCan_of {T X Y : aS} {k : Int} (h : aCan T X k) (h0 : Y 0 0 = X 0 0) (h2 : Y 2 = X 2) : aCan T Y k := by
  unfold aCan at h ⊢
  rw [aPl_of h0 h2, aPl_of h0 h2, aPl_of h0 h2]
  exact h
/-- all that carryOut needs to know -/
def doOK (T : aS) (w : Bool) (X : aS) (k : Int) : Prop := aHasM T k ∧ cpOK T X ∧ aHasC T (T 8 k) ∧ 0 ≤ X 0 1 ∧ X 0 1 ≤ 60 ∧ 0 ≤ X 0 2 ∧ X 0 2 ≤ 160 ∧ 0 ≤ X 0 6 ∧ X 0 6 ≤ 60 ∧ (¬ T 6 k = 1 → X 2 (T 8 k) = -2 ∧ X 0 0 < 60 ∧ inX X (aLeft T (T 8 k)) ∧ inX X (aRight T (T 8 k)) ∧ 0 ≤ (aPut T w (aMk X k) (T 8 k)).1 ∧ (aPut T w (aMk X k) (T 8 k)).1 ≤ X 0 0)
theorem cnt_bounds {X : aS} (h : cntOK X) (h60 : X 0 0 ≤ 60) (h0 : 0 ≤ X 0 0) : 0 ≤ X 0 1 ∧ X 0 1 ≤ 60 ∧ 0 ≤ X 0 2 ∧ X 0 2 ≤ 160 ∧ 0 ≤ X 0 6 ∧ X 0 6 ≤ 60 := by
  obtain ⟨n1, n2, n3, n4, n5⟩ := h
  have h1 := cn_le (f := fun q => iq (X 3 (X 1 q)) 0) (X 0 0).toNat (fun q _ _ => iq_01 _ _)
  have h2 := cn_le (f := fun k => iq (X 4 k) 2) 160 (fun q _ _ => iq_01 _ _)
  unfold nSeen at n2
  unfold nSt at n3
  omega
theorem doOK_of {T : aS} {lt : Int → Int → Prop} {w : Bool} {X : aS} {k : Int} (ht : tInv T) (ho : oOK T w lt) (hcp : cpOK T X) (hs : srtL lt X) (hst : stOK T X) (hcnt : cntOK X) (h3 : X 0 3 = nSt X 1 - iq (X 4 k) 1) (hk : aHasM T k) (hcan : aCan T X k) (hnd : ¬ X 4 k = 2) : doOK T w X k := by
  obtain ⟨b1, b2, b3, b4, b5, b6⟩ := cnt_bounds hcnt hcp.2.1 hcp.1
  exact ⟨hk, hcp, (ht.2.2.2.2.2.1 k hk).2, b1, b2, b3, b4, b5, b6, fun h => (do_insert ht ho hcp hs hst hcnt h3 hk hcan hnd h).2⟩
/-- a step of the settling -/
theorem settle_step {T : aS} {lt : Int → Int → Prop} {w : Bool} {X : aS} (ht : tInv T) (ho : oOK T w lt) (h : cInv T lt X) (hr : ¬ aReady T X = -1) : doOK T w (aUp X 0 3 (X 0 3 - 1)) (aReady T X) ∧ cInv T lt (aDo T w (aUp X 0 3 (X 0 3 - 1)) (aReady T X)) := by
  obtain ⟨r1, r2, r3⟩ := ready_spec ht hr
  obtain ⟨hcp, hs, hst, hcnt, h3⟩ := h
  generalize hY : aUp X 0 3 (X 0 3 - 1) = Y
  have y0 : ∀ b, ¬ b = 3 → Y 0 b = X 0 b := by intro b hb; rw [← hY, up0_0, if_neg hb]
  have y1 : Y 1 = X 1 := by rw [← hY, up0_1]
  have y2 : Y 2 = X 2 := by rw [← hY, up0_2]
  have y3 : Y 3 = X 3 := by rw [← hY, up0_3]
  have y4 : Y 4 = X 4 := by rw [← hY, up0_4]
  have y03 : Y 0 3 = nSt Y 1 - iq (Y 4 (aReady T X)) 1 := by
    rw [← hY, up0_0, if_pos rfl, h3, nSt_of (up0_4 X 3 _), up0_4, r2]
    rfl
  have cp := cpOK_of hcp (y0 0 (by omega)) y1 y2
  have sr := srtL_of hs (y0 0 (by omega)) y1
  have so := stOK_of hst y2 y3 y4
  have ct := cntOK_of hcnt (y0 0 (by omega)) (y0 1 (by omega)) (y0 2 (by omega)) (y0 6 (by omega)) y1 y2 y3 y4
  have ca := aCan_of r3 (y0 0 (by omega)) y2
  have nd : ¬ Y 4 (aReady T X) = 2 := by rw [y4, r2]; omega
  exact ⟨doOK_of ht ho cp sr so ct y03 r1 ca nd, do_inv ht ho cp sr so ct y03 r1 ca nd⟩
/-- a message that comes and can be done -/
theorem hear_step {T : aS} {lt : Int → Int → Prop} {w : Bool} {X : aS} {k : Int} (ht : tInv T) (ho : oOK T w lt) (h : cInv T lt X) (hk : aHasM T k) (h0 : aSt X k = 0) (hc : aCan T X k) : doOK T w X k ∧ cInv T lt (aDo T w X k) := by
  obtain ⟨hcp, hs, hst, hcnt, h3⟩ := h
  have h4 : X 4 k = 0 := by unfold aSt at h0; rw [if_pos ⟨hk.1, hk.2.2⟩] at h0; exact h0
  have e3 : X 0 3 = nSt X 1 - iq (X 4 k) 1 := by rw [h4, h3]; rw [show iq 0 1 = 0 from rfl]; omega
  exact ⟨doOK_of ht ho hcp hs hst hcnt e3 hk hc (by omega), do_inv ht ho hcp hs hst hcnt e3 hk hc (by omega)⟩
theorem settle_inv {T : aS} {lt : Int → Int → Prop} {w : Bool} (ht : tInv T) (ho : oOK T w lt) : ∀ (f : Nat) (X : aS) (n : Int), cInv T lt X → cInv T lt (aSettle T w f X n).1
  | 0, X, n, h => by rw [aSettle]; exact h
  | f + 1, X, n, h => by
    rw [aSettle]
    split
    · exact h
    · rename_i hr
      exact settle_inv ht ho f _ _ (settle_step ht ho h hr).2
theorem hear_inv {T : aS} {lt : Int → Int → Prop} {w : Bool} {X : aS} {k : Int} (ht : tInv T) (ho : oOK T w lt) (h : cInv T lt X) : cInv T lt (aHear T w X k).1 := by
  unfold aHear
  split
  · exact h
  · rename_i h1
    have hk : aHasM T k := Decidable.byContradiction (fun q => h1 (Or.inl q))
    have h0 : aSt X k = 0 := Decidable.byContradiction (fun q => h1 (Or.inr q))
    have h4 : X 4 k = 0 := by unfold aSt at h0; rw [if_pos ⟨hk.1, hk.2.2⟩] at h0; exact h0
    split
    · rename_i h2
      obtain ⟨hcp, hs, hst, hcnt, h3⟩ := h
      generalize hY : aUp (aUp X 4 k 1) 0 3 (X 0 3 + 1) = Y
      show cInv T lt Y
      have y0 : ∀ b, ¬ b = 3 → Y 0 b = X 0 b := by intro b hb; rw [← hY, up0_0, if_neg hb]; unfold aUp; simp
      have y1 : Y 1 = X 1 := by rw [← hY, up0_1]; funext a; unfold aUp; simp
      have y2 : Y 2 = X 2 := by rw [← hY, up0_2]; funext a; unfold aUp; simp
      have y3 : Y 3 = X 3 := by rw [← hY, up0_3]; funext a; unfold aUp; simp
      have y4 : Y 4 = aUp X 4 k 1 4 := by rw [← hY, up0_4]
      have y4z : ∀ z, Y 4 z = if z = k then 1 else X 4 z := by intro z; rw [y4]; unfold aUp; simp
      obtain ⟨s1, s2, s3, s4, s5⟩ := hst
      obtain ⟨n1, n2, n3, n4, n5⟩ := hcnt
      refine ⟨cpOK_of hcp (y0 0 (by omega)) y1 y2, srtL_of hs (y0 0 (by omega)) y1, ⟨fun j j0 j1 => ?_, fun j j0 j1 => ?_, fun j j0 j1 => ?_, fun j j0 j1 => ?_, fun c c0 c1 => ?_⟩, ⟨?_, ?_, ?_, ?_, ?_⟩, ?_⟩
      · rw [y4z]; split
        · exact Or.inr (Or.inl rfl)
        · exact s1 j j0 j1
      · rw [y4z, if_neg (by have := hk.2.1; omega)]; exact s2 j j0 j1
      · rw [y4z, y2]
        by_cases hjk : j = k
        · rw [if_pos hjk]
          have := s3 j j0 j1
          rw [hjk, h4] at this
          rw [hjk]
          constructor
          · intro q; omega
          · intro q; have := this.mpr q; omega
        · rw [if_neg hjk]; exact s3 j j0 j1
      · rw [y4z, y2]
        split
        · intro q; omega
        · exact s4 j j0 j1
      · rw [y3, y2]; exact s5 c c0 c1
      · rw [y0 0 (by omega), n1]; refine cn_congr 60 (fun q _ _ => ?_); unfold pres; rw [y2]
      · rw [y0 1 (by omega), n2]; unfold nSeen; rw [y0 0 (by omega), y1, y3]
      · rw [y0 2 (by omega), n3, nSt_of (X := aUp X 4 k 1) y4 2, nSt_up X hk.1 hk.2.2, h4]
        rw [show iq 1 2 = 0 from rfl, show iq 0 2 = 0 from rfl]; omega
      · rw [y0 6 (by omega)]; exact n4
      · rw [y0 6 (by omega), y0 0 (by omega)]; exact n5
      · rw [nSt_of (X := aUp X 4 k 1) y4 1, nSt_up X hk.1 hk.2.2, h4, ← hY, up0_0, if_pos rfl, h3]
        rw [show iq 1 1 = 1 from rfl, show iq 0 1 = 0 from rfl]; omega
    · rename_i h2
      exact settle_inv ht ho 160 _ 1 (hear_step ht ho h hk h0 (Decidable.byContradiction h2)).2
def aStart (X : aS) : aS := aUp (aUp X 0 5 0) 0 6 0
def aEnd (X : aS) : aS := if 0 < X 0 6 then aUp X 0 4 (X 0 5) else X
theorem wait_pos {T : aS} {lt : Int → Int → Prop} {X : aS} (ht : tInv T) (h : cInv T lt X) (hr : ¬ aReady T X = -1) : 1 ≤ X 0 3 ∧ X 0 3 ≤ 160 := by
  obtain ⟨r1, r2, r3⟩ := ready_spec ht hr
  rw [h.2.2.2.2]
  have h2 := cn_le (f := fun k => iq (X 4 k) 1) 160 (fun q _ _ => iq_01 _ _)
  have h1 := cn_pos (f := fun k => iq (X 4 k) 1) 160 (fun q _ _ => iq_01 _ _) r1.1 r1.2.2 (by rw [r2]; rfl)
  unfold nSt
  omega
