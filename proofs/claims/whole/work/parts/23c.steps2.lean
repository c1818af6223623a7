/-! INSERT and ERASE on both sides; the rest -/
section SU
variable {MC MC' MR MR' : sjM} {lts : Int → Int → Int → Prop} {v1 v2 : Option Value} {x y z lr : Int}
theorem ins_hI (hg : gAll (tF MC) (xF MC) lts) : okTS x y ∧ 0 ≤ z ∧ z ≤ (vX MC (x * 5 + y).toNat) 0 1 → 0 ≤ (vT MC (tI (x * 5 + y).toNat)) 0 1 ∧ ((vT MC (tI (x * 5 + y).toNat)) 0 0 < 60 → (vT MC (tI (x * 5 + y).toNat)) 0 1 < 160) ∧ 0 ≤ (vT MC (tI (x * 5 + y).toNat)) 0 0 ∧ 0 ≤ (vT MC (tI (x * 5 + y).toNat)) 9 y ∧ (vT MC (tI (x * 5 + y).toNat)) 9 y ≤ 60 ∧ aPl (vX MC (x * 5 + y).toNat) (aLFP (vX MC (x * 5 + y).toNat) z) ≤ 1000 := by
  rintro ⟨hts, hz0, hz1⟩
  rw [vT_x MC hts, vX_x]
  rw [vX_x] at hz1
  obtain ⟨hG, hO⟩ := hg.1 x hts.1 hts.2.1
  have hI := (hg.2 x y hts.1 hts.2.1 hts.2.2.1 hts.2.2.2).1
  have h1 := hG.2.1
  have h2 := hG.1.1
  have h3 := hG.1.2.1
  have h4 := hG.1.2.2.1
  have h9 := hG.2.2.1 y hts.2.2.1 hts.2.2.2
  obtain ⟨a, b, n1, n2, n3, n4, n5, n6, n7⟩ := ins_nb hI hz0 hz1 (decide (x = 0))
  have h60 := hI.1.2.1
  exact ⟨h4, fun q => by omega, h2, h9.1, by omega, by omega⟩
theorem ins_hd (hg : gAll (tF MC) (xF MC) lts) : okTS x y ∧ 0 ≤ z ∧ z ≤ (vX MC (x * 5 + y).toNat) 0 1 ∧ 32 ≤ lr ∧ lr ≤ 126 ∧ (vT MC (tI (x * 5 + y).toNat)) 0 0 < 60 → doOK (aMsg (aChr (vT MC (tI (x * 5 + y).toNat)) y (aLFP (vX MC (x * 5 + y).toNat) z) (aRFP (vX MC (x * 5 + y).toNat) (decide (tI (x * 5 + y).toNat = 0)) z) lr) 0 y ((vT MC (tI (x * 5 + y).toNat)) 0 0)) (decide (tI (x * 5 + y).toNat = 0)) (aStart (vX MC (x * 5 + y).toNat)) ((vT MC (tI (x * 5 + y).toNat)) 0 1) := by
  rintro ⟨hts, hz0, hz1, _, _, h60⟩
  rw [vT_x MC hts] at h60 ⊢
  rw [vX_x] at hz1 ⊢
  rw [w_x hts]
  obtain ⟨hG, hO⟩ := hg.1 x hts.1 hts.2.1
  obtain ⟨hI, hown, hset0⟩ := hg.2 x y hts.1 hts.2.1 hts.2.2.1 hts.2.2.2
  obtain ⟨g1, g2, g3, lt', g4, g5⟩ := ins_all (lr := lr) hG hO hI hown hts.2.2.1 hts.2.2.2 h60 hz0 hz1
  obtain ⟨e1, d1, -⟩ := own_all hG g1 g4 g2 g5 hI hown hset0 (ti_01 _ _ _ _ _) (fun _ => by rw [ti_8, if_pos rfl]) g3
  exact d1
theorem st_insert (hg : gAll (tF MC) (xF MC) lts) (ho : uOut MC MR) (h1 : ((okTS x y ∧ 0 ≤ z ∧ z ≤ (vX MC (x * 5 + y).toNat) 0 1 ∧ 32 ≤ lr ∧ lr ≤ 126 ∧ (vT MC (tI (x * 5 + y).toNat)) 0 0 < 60) ∧ onTC MC MC' (tI (x * 5 + y).toNat) (x * 5 + y).toNat ∧ vT MC' (tI (x * 5 + y).toNat) = (aMsg (aChr (vT MC (tI (x * 5 + y).toNat)) y (aLFP (vX MC (x * 5 + y).toNat) z) (aRFP (vX MC (x * 5 + y).toNat) (decide (tI (x * 5 + y).toNat = 0)) z) lr) 0 y ((vT MC (tI (x * 5 + y).toNat)) 0 0)) ∧ vX MC' (x * 5 + y).toNat = aEnd (aDo (aMsg (aChr (vT MC (tI (x * 5 + y).toNat)) y (aLFP (vX MC (x * 5 + y).toNat) z) (aRFP (vX MC (x * 5 + y).toNat) (decide (tI (x * 5 + y).toNat = 0)) z) lr) 0 y ((vT MC (tI (x * 5 + y).toNat)) 0 0)) (decide (tI (x * 5 + y).toNat = 0)) (aStart (vX MC (x * 5 + y).toNat)) ((vT MC (tI (x * 5 + y).toNat)) 0 1)) ∧ v1 = some (.int (iI ((vT MC (tI (x * 5 + y).toNat)) 0 1)))) ∨ (¬ ((okTS x y ∧ 0 ≤ z ∧ z ≤ (vX MC (x * 5 + y).toNat) 0 1 ∧ 32 ≤ lr ∧ lr ≤ 126 ∧ (vT MC (tI (x * 5 + y).toNat)) 0 0 < 60)) ∧ MC' = MC ∧ v1 = some (.int (iI (-1)))))
    (hk : rKeep MR MR') (h2 : ((okTS x y ∧ 0 ≤ z ∧ z ≤ (xF MC (5 * x + y)) 0 1 ∧ 32 ≤ lr ∧ lr ≤ 126 ∧ tF MC x 0 0 < 60) ∧ rAll (updF (tF MC) x (tIns (tF MC x) y (aLFP (xF MC (5 * x + y)) z) (aRFP (xF MC (5 * x + y)) (decide (x = 0)) z) lr)) (updF (xF MC) (5 * x + y) (aEnd (aDo (tIns (tF MC x) y (aLFP (xF MC (5 * x + y)) z) (aRFP (xF MC (5 * x + y)) (decide (x = 0)) z) lr) (decide (x = 0)) (aStart (xF MC (5 * x + y))) (tF MC x 0 1)))) MR' ∧ v2 = some (.int (iI (tF MC x 0 1)))) ∨ (¬ (okTS x y ∧ 0 ≤ z ∧ z ≤ (xF MC (5 * x + y)) 0 1 ∧ 32 ≤ lr ∧ lr ≤ 126 ∧ tF MC x 0 0 < 60) ∧ rAll (tF MC) (xF MC) MR' ∧ v2 = some (.int (iI (-1))))) : v1 = v2 ∧ RR MC' MR' := by
  by_cases hts : okTS x y
  · rw [vT_x MC hts, vX_x MC, w_x hts] at h1
    rcases h1 with ⟨c1, c2, c3, c4, c5⟩ | ⟨c1, c2, c3⟩
    · rcases h2 with ⟨d1, d2, d3⟩ | ⟨d1, d2, d3⟩
      · obtain ⟨_, hz0, hz1, _, _, h60⟩ := c1
        obtain ⟨hG, hO⟩ := hg.1 x hts.1 hts.2.1
        obtain ⟨hI, hown, hset0⟩ := hg.2 x y hts.1 hts.2.1 hts.2.2.1 hts.2.2.2
        obtain ⟨g1, g2, g3, lt', g4, g5⟩ := ins_all (lr := lr) hG hO hI hown hts.2.2.1 hts.2.2.2 h60 hz0 hz1
        obtain ⟨e1, q1, q2, hset, hown', hhe, hkm⟩ := own_all hG g1 g4 g2 g5 hI hown hset0 (ti_01 _ _ _ _ _) (fun _ => by rw [ti_8, if_pos rfl]) g3
        exact ⟨by rw [c5, d3], RR_own hg ho hts c2 ((vT_x MC' hts) ▸ c3) ((vX_x MC' x y) ▸ c4) g1 g4 g2 (ti_01 _ _ _ _ _) (by rw [ti_7, if_pos rfl]) e1 g5 (sK_end ⟨q2, hown', hset⟩) d2 hk⟩
      · exact absurd c1 d1
    · rw [c2]
      rcases h2 with ⟨d1, d2, d3⟩ | ⟨d1, d2, d3⟩
      · exact absurd d1 c1
      · exact ⟨by rw [c3, d3], lts, hg, d2, uOut_k ho rfl rfl hk⟩
  · rcases h1 with ⟨c1, _⟩ | ⟨c1, c2, c3⟩
    · exact absurd c1.1 hts
    · rw [c2]
      rcases h2 with ⟨d1, d2, d3⟩ | ⟨d1, d2, d3⟩
      · exact absurd d1.1 hts
      · exact ⟨by rw [c3, d3], lts, hg, d2, uOut_k ho rfl rfl hk⟩
theorem ers_pre (hg : gAll (tF MC) (xF MC) lts) (hts : okTS x y) (hz0 : 0 ≤ z) (hz1 : z < xF MC (5 * x + y) 0 1) (h100 : tF MC x 0 2 < 100) : gT (tErs (tF MC x) y (aSeenAt (xF MC (5 * x + y)) z)) ∧ tExt (tF MC x) (tErs (tF MC x) y (aSeenAt (xF MC (5 * x + y)) z)) ∧ gO (tErs (tF MC x) y (aSeenAt (xF MC (5 * x + y)) z)) (decide (x = 0)) (lts x) ∧ aCan (tErs (tF MC x) y (aSeenAt (xF MC (5 * x + y)) z)) (xF MC (5 * x + y)) (tF MC x 0 1) := by
  obtain ⟨hG, hO⟩ := hg.1 x hts.1 hts.2.1
  obtain ⟨hI, hown, hset0⟩ := hg.2 x y hts.1 hts.2.1 hts.2.2.1 hts.2.2.2
  have hmm := hG.2.1
  have hm0 := hG.1.2.2.1
  have h60a := hG.1.2.1
  obtain ⟨p, p0, p1, p2, p3, p4⟩ := seenAt_in hI hz0 hz1
  obtain ⟨hpc, hpp⟩ := hI.1.2.2.1 p p0 p1
  have hcc : aHasC (tF MC x) (aSeenAt (xF MC (5 * x + y)) z) := by rw [p2]; exact hpc
  have hkm0 : aHasM (tErs (tF MC x) y (aSeenAt (xF MC (5 * x + y)) z)) (tF MC x 0 1) := (te_M hm0 (by omega)).mpr (Or.inr rfl)
  refine ⟨gT_ers hG hts.2.2.1 hts.2.2.2 h100 hcc, te_ext hm0 (by omega), gO_ers hO, ?_⟩
  left
  rw [kind_in hkm0, subj_in hkm0, te_6, if_pos rfl, te_8, if_pos rfl, p2, pl_char hpc.1 hpc.2.2, hpp]
  exact ⟨rfl, by omega⟩
theorem ers_hI (hg : gAll (tF MC) (xF MC) lts) : okTS x y → 0 ≤ (vT MC (tI (x * 5 + y).toNat)) 0 1 ∧ ((vT MC (tI (x * 5 + y).toNat)) 0 2 < 100 → (vT MC (tI (x * 5 + y).toNat)) 0 1 < 160) ∧ 0 ≤ (vT MC (tI (x * 5 + y).toNat)) 0 2 := by
  intro hts
  rw [vT_x MC hts]
  obtain ⟨hG, hO⟩ := hg.1 x hts.1 hts.2.1
  have h1 := hG.2.1
  have h3 := hG.1.2.1
  exact ⟨hG.1.2.2.1, fun q => by omega, h1.2.1⟩
theorem ers_hd (hg : gAll (tF MC) (xF MC) lts) : okTS x y ∧ 0 ≤ z ∧ z < (vX MC (x * 5 + y).toNat) 0 1 ∧ (vT MC (tI (x * 5 + y).toNat)) 0 2 < 100 → doOK (aMsg (aErs (vT MC (tI (x * 5 + y).toNat))) 1 y (aSeenAt (vX MC (x * 5 + y).toNat) z)) (decide (tI (x * 5 + y).toNat = 0)) (aStart (vX MC (x * 5 + y).toNat)) ((vT MC (tI (x * 5 + y).toNat)) 0 1) := by
  rintro ⟨hts, hz0, hz1, h100⟩
  rw [vT_x MC hts] at h100 ⊢
  rw [vX_x] at hz1 ⊢
  rw [w_x hts]
  obtain ⟨hG, hO⟩ := hg.1 x hts.1 hts.2.1
  obtain ⟨hI, hown, hset0⟩ := hg.2 x y hts.1 hts.2.1 hts.2.2.1 hts.2.2.2
  obtain ⟨g1, g2, g4, g3⟩ := ers_pre hg hts hz0 hz1 h100
  obtain ⟨e1, d1, -⟩ := own_all hG g1 g4 g2 (fun a b _ _ h => h) hI hown hset0 (te_01 _ _ _) (fun h => by rw [te_6, if_pos rfl] at h; omega) g3
  exact d1
theorem st_erase (hg : gAll (tF MC) (xF MC) lts) (ho : uOut MC MR) (h1 : ((okTS x y ∧ 0 ≤ z ∧ z < (vX MC (x * 5 + y).toNat) 0 1 ∧ (vT MC (tI (x * 5 + y).toNat)) 0 2 < 100) ∧ onTC MC MC' (tI (x * 5 + y).toNat) (x * 5 + y).toNat ∧ vT MC' (tI (x * 5 + y).toNat) = (aMsg (aErs (vT MC (tI (x * 5 + y).toNat))) 1 y (aSeenAt (vX MC (x * 5 + y).toNat) z)) ∧ vX MC' (x * 5 + y).toNat = aEnd (aDo (aMsg (aErs (vT MC (tI (x * 5 + y).toNat))) 1 y (aSeenAt (vX MC (x * 5 + y).toNat) z)) (decide (tI (x * 5 + y).toNat = 0)) (aStart (vX MC (x * 5 + y).toNat)) ((vT MC (tI (x * 5 + y).toNat)) 0 1)) ∧ v1 = some (.int (iI ((vT MC (tI (x * 5 + y).toNat)) 0 1)))) ∨ (¬ ((okTS x y ∧ 0 ≤ z ∧ z < (vX MC (x * 5 + y).toNat) 0 1 ∧ (vT MC (tI (x * 5 + y).toNat)) 0 2 < 100)) ∧ MC' = MC ∧ v1 = some (.int (iI (-1)))))
    (hk : rKeep MR MR') (h2 : ((okTS x y ∧ 0 ≤ z ∧ z < (xF MC (5 * x + y)) 0 1 ∧ tF MC x 0 2 < 100) ∧ rAll (updF (tF MC) x (tErs (tF MC x) y (aSeenAt (xF MC (5 * x + y)) z))) (updF (xF MC) (5 * x + y) (aEnd (aDo (tErs (tF MC x) y (aSeenAt (xF MC (5 * x + y)) z)) (decide (x = 0)) (aStart (xF MC (5 * x + y))) (tF MC x 0 1)))) MR' ∧ v2 = some (.int (iI (tF MC x 0 1)))) ∨ (¬ (okTS x y ∧ 0 ≤ z ∧ z < (xF MC (5 * x + y)) 0 1 ∧ tF MC x 0 2 < 100) ∧ rAll (tF MC) (xF MC) MR' ∧ v2 = some (.int (iI (-1))))) : v1 = v2 ∧ RR MC' MR' := by
  by_cases hts : okTS x y
  · rw [vT_x MC hts, vX_x MC, w_x hts] at h1
    rcases h1 with ⟨c1, c2, c3, c4, c5⟩ | ⟨c1, c2, c3⟩
    · rcases h2 with ⟨d1, d2, d3⟩ | ⟨d1, d2, d3⟩
      · obtain ⟨_, hz0, hz1, h100⟩ := c1
        obtain ⟨hG, hO⟩ := hg.1 x hts.1 hts.2.1
        obtain ⟨hI, hown, hset0⟩ := hg.2 x y hts.1 hts.2.1 hts.2.2.1 hts.2.2.2
        obtain ⟨g1, g2, g4, g3⟩ := ers_pre hg hts hz0 hz1 h100
        obtain ⟨e1, q1, q2, hset, hown', hhe, hkm⟩ := own_all hG g1 g4 g2 (fun a b _ _ h => h) hI hown hset0 (te_01 _ _ _) (fun h => by rw [te_6, if_pos rfl] at h; omega) g3
        exact ⟨by rw [c5, d3], RR_own hg ho hts c2 ((vT_x MC' hts) ▸ c3) ((vX_x MC' x y) ▸ c4) g1 g4 g2 (te_01 _ _ _) (by rw [te_7, if_pos rfl]) e1 (fun a b _ _ h => h) (sK_end ⟨q2, hown', hset⟩) d2 hk⟩
      · exact absurd c1 d1
    · rw [c2]
      rcases h2 with ⟨d1, d2, d3⟩ | ⟨d1, d2, d3⟩
      · exact absurd d1 c1
      · exact ⟨by rw [c3, d3], lts, hg, d2, uOut_k ho rfl rfl hk⟩
  · rcases h1 with ⟨c1, _⟩ | ⟨c1, c2, c3⟩
    · exact absurd c1.1 hts
    · rw [c2]
      rcases h2 with ⟨d1, d2, d3⟩ | ⟨d1, d2, d3⟩
      · exact absurd d1.1 hts
      · exact ⟨by rw [c3, d3], lts, hg, d2, uOut_k ho rfl rfl hk⟩
/-- nothing of texts and copies has changed -/
theorem same_TX (hT : ∀ k, 9 ≤ k → k ≤ 78 → MC' k = MC k) : (∀ t, 0 ≤ t → t < 2 → tF MC' t = tF MC t) ∧ ∀ j, 0 ≤ j → j < 10 → xF MC' j = xF MC j :=
  ⟨fun t h0 h1 => vT_o MC MC' _ (fun k h2 h3 => hT k (by omega) (by omega)), fun j h0 h1 => vX_o MC MC' _ (fun k h2 h3 => hT k (by omega) (by omega))⟩
theorem wrF_b {T X : aS} : ∀ (f : Nat) (q n : Int) (O : Int → Int), 0 ≤ n → n ≤ 60 → 0 ≤ (aWrF T X f q n O).1 ∧ (aWrF T X f q n O).1 ≤ 60
  | 0, q, n, O, h0, h1 => by rw [aWrF]; exact ⟨h0, h1⟩
  | f + 1, q, n, O, h0, h1 => by
    rw [aWrF]
    by_cases hc : aSeen X (aAt X q) ∧ n < 60
    · rw [if_pos hc]; exact wrF_b f _ _ _ (by omega) (by omega)
    · rw [if_neg hc]; exact wrF_b f _ _ _ h0 h1
theorem st_write (hg : gAll (tF MC) (xF MC) lts) (ho : uOut MC MR) (h1 : (okTS x y ∧ (∀ k, k ≠ 8 → k ≠ 0 → MC' k = MC k) ∧ (MC' 0 0).toInt = (aWrF (vT MC (tI (x * 5 + y).toNat)) (vX MC (x * 5 + y).toNat) ((vX MC (x * 5 + y).toNat) 0 0).toNat 0 0 (fun z => (MC 8 z).toInt)).1 ∧ (fun z => (MC' 8 z).toInt) = (aWrF (vT MC (tI (x * 5 + y).toNat)) (vX MC (x * 5 + y).toNat) ((vX MC (x * 5 + y).toNat) 0 0).toNat 0 0 (fun z => (MC 8 z).toInt)).2 ∧ v1 = some (.int (iI (aWrF (vT MC (tI (x * 5 + y).toNat)) (vX MC (x * 5 + y).toNat) ((vX MC (x * 5 + y).toNat) 0 0).toNat 0 0 (fun z => (MC 8 z).toInt)).1))) ∨ (¬ okTS x y ∧ MC' = MC ∧ v1 = some (.int (iI (-1)))))
    (h2 : (okTS x y ∧ rAll (tF MC) (xF MC) MR' ∧ MR' 0 3 = iI (aWrF (tF MC x) (xF MC (5 * x + y)) (xF MC (5 * x + y) 0 0).toNat 0 0 (fun z => (MC 8 z).toInt)).1 ∧ (∀ z, 0 ≤ z → z < (aWrF (tF MC x) (xF MC (5 * x + y)) (xF MC (5 * x + y) 0 0).toNat 0 0 (fun z => (MC 8 z).toInt)).1 → MR' 19 z = iI ((aWrF (tF MC x) (xF MC (5 * x + y)) (xF MC (5 * x + y) 0 0).toNat 0 0 (fun z => (MC 8 z).toInt)).2 z)) ∧ v2 = some (.int (iI (aWrF (tF MC x) (xF MC (5 * x + y)) (xF MC (5 * x + y) 0 0).toNat 0 0 (fun z => (MC 8 z).toInt)).1))) ∨ (¬ okTS x y ∧ rAll (tF MC) (xF MC) MR' ∧ rKeep MR MR' ∧ v2 = some (.int (iI (-1))))) : v1 = v2 ∧ RR MC' MR' := by
  rcases h1 with ⟨c1, c2, c3, c4, c5⟩ | ⟨c1, c2, c3⟩
  · rw [vT_x MC c1, vX_x MC] at c3 c4 c5
    rcases h2 with ⟨d1, d2, d3, d4, d5⟩ | ⟨d1, _⟩
    · obtain ⟨e1, e2⟩ := same_TX (MC := MC) (MC' := MC') (fun k h3 h4 => c2 k (by omega) (by omega))
      have hb := wrF_b (T := tF MC x) (X := xF MC (5 * x + y)) (xF MC (5 * x + y) 0 0).toNat 0 0 (fun z => (MC 8 z).toInt) (by omega) (by omega)
      refine ⟨by rw [c5, d5], lts, gAll_c hg e1 e2, rAll_c d2 e1 e2, ?_, ?_, fun z h0 h3 => ?_⟩
      · rw [d3, ← c3, iI_of]
      · rw [c3]; exact hb
      · rw [c3] at h3
        rw [d4 z h0 h3, ← c4, iI_of]
    · exact absurd c1 d1
  · rw [c2]
    rcases h2 with ⟨d1, _⟩ | ⟨d1, d2, d3, d4⟩
    · exact absurd d1 c1
    · exact ⟨by rw [c3, d4], lts, hg, d2, uOut_k ho rfl rfl d3⟩
theorem st_shuffle (hg : gAll (tF MC) (xF MC) lts) (ho : uOut MC MR) {P Q : Int} (h1 : (okTS x y ∧ (∀ k, k ≠ 7 → ¬ (29 + 5 * (10 + x.toNat) ≤ k ∧ k ≤ 29 + 5 * (10 + x.toNat) + 4) → MC' k = MC k) ∧ v1 = some (.int (iI P))) ∨ (¬ okTS x y ∧ MC' = MC ∧ v1 = some (.int (iI 0)))) (hk : rKeep MR MR') (hA : rAll (tF MC) (xF MC) MR') (h2 : v2 = some (.int (iI (if okTS x y then Q else 0)))) (hPQ : okTS x y → P = Q) : v1 = v2 ∧ RR MC' MR' := by
  rcases h1 with ⟨c1, c2, c3⟩ | ⟨c1, c2, c3⟩
  · obtain ⟨e1, e2⟩ := same_TX (MC := MC) (MC' := MC') (fun k h3 h4 => c2 k (by omega) (by omega))
    exact ⟨by rw [c3, h2, if_pos c1, hPQ c1], lts, gAll_c hg e1 e2, rAll_c hA e1 e2, uOut_k ho (by rw [c2 0 (by omega) (by omega)]) (c2 8 (by omega) (by omega)) hk⟩
  · rw [c2]
    exact ⟨by rw [c3, h2, if_neg c1], lts, hg, hA, uOut_k ho rfl rfl hk⟩
theorem ord_hcp (hg : gAll (tF MC) (xF MC) lts) : okTS x y → cpOK (vT MC (tI (x * 5 + y).toNat)) (vX MC (x * 5 + y).toNat) := by
  intro hts
  rw [vT_x MC hts, vX_x]
  exact (hg.2 x y hts.1 hts.2.1 hts.2.2.1 hts.2.2.2).1.1
theorem st_order (hg : gAll (tF MC) (xF MC) lts) (ho : uOut MC MR) {b : Bool} (hM : ∀ k, k ≠ 6 → MC' k = MC k) (h1 : ((okTS x y ∧ (vX MC (x * 5 + y).toNat) 0 0 ≤ 12) ∧ ∃ V : Nat → Int64, recV ((vX MC (x * 5 + y).toNat) 0 0).toNat (prX (vT MC (tI (x * 5 + y).toNat)) (vX MC (x * 5 + y).toNat)) 0 V ∧ v1 = some (.long (if b = true then V 0 else rkS (vT MC (tI (x * 5 + y).toNat)) (vX MC (x * 5 + y).toNat) V ((vX MC (x * 5 + y).toNat) 0 0).toNat))) ∨ (¬ (okTS x y ∧ (vX MC (x * 5 + y).toNat) 0 0 ≤ 12) ∧ v1 = some (.long (-1))))
    (hk : rKeep MR MR') (hA : rAll (tF MC) (xF MC) MR') (h2 : ((okTS x y ∧ xF MC (5 * x + y) 0 0 ≤ 12) ∧ ∃ R : Nat → Int64, recU (xF MC (5 * x + y) 0 0).toNat (prX (tF MC x) (xF MC (5 * x + y))) R ∧ v2 = some (.long (if b = true then R 0 else ruS (prX (tF MC x) (xF MC (5 * x + y))) (tF MC x) (xF MC (5 * x + y)) R (xF MC (5 * x + y) 0 0).toNat))) ∨ (¬ (okTS x y ∧ xF MC (5 * x + y) 0 0 ≤ 12) ∧ v2 = some (.long (-1)))) : v1 = v2 ∧ RR MC' MR' := by
  obtain ⟨e1, e2⟩ := same_TX (MC := MC) (MC' := MC') (fun k h3 h4 => hM k (by omega))
  refine ⟨?_, lts, gAll_c hg e1 e2, rAll_c hA e1 e2, uOut_k ho (by rw [hM 0 (by omega)]) (hM 8 (by omega)) hk⟩
  rw [vX_x] at h1
  rcases h1 with ⟨c1, V, c2, c3⟩ | ⟨c1, c2⟩
  · rcases h2 with ⟨d1, R, d2, d3⟩ | ⟨d1, d2⟩
    · rw [vT_x MC c1.1] at c2 c3
      obtain ⟨hG, hO⟩ := hg.1 x c1.1.1 c1.1.2.1
      have hI := (hg.2 x y c1.1.1 c1.1.2.1 c1.1.2.2.1 c1.1.2.2.2).1
      have hf := gFree_of hO hG.1.2.2.2.2.1 hI.1 hI.2.1
      have hl0 := hI.1.1
      obtain ⟨q1, q2⟩ := num_eq (T := tF MC x) (X := xF MC (5 * x + y)) (by have := c1.2; omega) (fun a b hab => prX_lt hf hab) d2 c2
      rw [c3, d3, q1, q2]
    · exact absurd c1 d1
  · rcases h2 with ⟨d1, _⟩ | ⟨d1, d2⟩
    · exact absurd d1 c1
    · rw [c2, d2]
end SU
