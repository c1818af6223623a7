/-! a call on both sides -/
section ST
variable {MC MC' MR MR' : sjM} {lts : Int → Int → Int → Prop} {v1 v2 : Option Value} {x y z w k a b : Int}
theorem st_look (hR : RR MC MR) (h1 : v1 = some (.int (iI (if okTS x y then aLook (vT MC (tI (x * 5 + y).toNat)) (vX MC (x * 5 + y).toNat) w else -1)))) (hM : MR' = sjU MR 0 0 (iI 0)) (h2 : v2 = some (.int (iI (if okTS x y then aLook (tF MC x) (xF MC (5 * x + y)) w else -1)))) : v1 = v2 ∧ RR MC MR' := by
  refine ⟨?_, RR_0 hR hM⟩
  rw [h1, h2]
  by_cases hts : okTS x y
  · rw [if_pos hts, if_pos hts, vT_x MC hts, vX_x]
  · rw [if_neg hts, if_neg hts]
theorem st_message (hg : gAll (tF MC) (xF MC) lts) (hR : RR MC MR) (h1 : v1 = some (.int (iI (if (0 ≤ x ∧ x < 2) ∧ aHasM (vT MC x.toNat) k then aMess (vT MC x.toNat) k w else -1)))) (hM : MR' = sjU MR 0 0 (iI 0)) (h2 : v2 = some (.int (iI (if (0 ≤ x ∧ x < 2) ∧ 0 ≤ k ∧ k < tF MC x 0 1 then aMess (tF MC x) k w else -1)))) : v1 = v2 ∧ RR MC MR' := by
  refine ⟨?_, RR_0 hR hM⟩
  rw [h1, h2]
  by_cases hx : 0 ≤ x ∧ x < 2
  · have h160 := (hg.1 x hx.1 hx.2).1.1.2.2.2.1
    by_cases hk : 0 ≤ k ∧ k < tF MC x 0 1
    · rw [if_pos ⟨hx, hk.1, hk.2, by omega⟩, if_pos ⟨hx, hk⟩]; rfl
    · rw [if_neg (fun q => hk ⟨q.2.1, q.2.2.1⟩), if_neg (fun q => hk q.2)]
  · rw [if_neg (fun q => hx q.1), if_neg (fun q => hx q.1)]
theorem st_state (hg : gAll (tF MC) (xF MC) lts) (hR : RR MC MR) (h1 : v1 = some (.int (iI (if okTS x y ∧ aHasM (vT MC (tI (x * 5 + y).toNat)) k then aSt (vX MC (x * 5 + y).toNat) k else -1)))) (hM : MR' = sjU MR 0 0 (iI 0)) (h2 : v2 = some (.int (iI (if okTS x y ∧ 0 ≤ k ∧ k < tF MC x 0 1 then xF MC (5 * x + y) 4 k else -1)))) : v1 = v2 ∧ RR MC MR' := by
  refine ⟨?_, RR_0 hR hM⟩
  rw [h1, h2]
  by_cases hts : okTS x y
  · have h160 := (hg.1 x hts.1 hts.2.1).1.1.2.2.2.1
    rw [vT_x MC hts, vX_x]
    by_cases hk : 0 ≤ k ∧ k < tF MC x 0 1
    · rw [if_pos ⟨hts, hk.1, hk.2, by omega⟩, if_pos ⟨hts, hk⟩]
      unfold aSt
      rw [if_pos ⟨hk.1, by omega⟩]
    · rw [if_neg (fun q => hk ⟨q.2.1, q.2.2.1⟩), if_neg (fun q => hk q.2)]
  · rw [if_neg (fun q => hts q.1), if_neg (fun q => hts q.1)]
theorem st_char (hg : gAll (tF MC) (xF MC) lts) (hR : RR MC MR) (h1 : v1 = some (.int (iI (if okTS x y ∧ 0 ≤ z ∧ z < (vX MC (x * 5 + y).toNat) 0 0 then aChar (vT MC (tI (x * 5 + y).toNat)) (vX MC (x * 5 + y).toNat) (aAt (vX MC (x * 5 + y).toNat) z) w else -1)))) (hM : MR' = sjU MR 0 0 (iI 0)) (h2 : v2 = some (.int (iI (if okTS x y ∧ 0 ≤ z ∧ z < xF MC (5 * x + y) 0 0 then aChar (tF MC x) (xF MC (5 * x + y)) (xF MC (5 * x + y) 1 z) w else -1)))) : v1 = v2 ∧ RR MC MR' := by
  refine ⟨?_, RR_0 hR hM⟩
  rw [h1, h2]
  by_cases hts : okTS x y
  · rw [vT_x MC hts, vX_x]
    by_cases hk : 0 ≤ z ∧ z < xF MC (5 * x + y) 0 0
    · rw [if_pos ⟨hts, hk⟩, if_pos ⟨hts, hk⟩, at_in hk.1 hk.2 (gAll_60 hg (by omega) (by omega))]
    · rw [if_neg (fun q => hk q.2), if_neg (fun q => hk q.2)]
  · rw [if_neg (fun q => hts q.1), if_neg (fun q => hts q.1)]
theorem st_out (hR : RR MC MR) (h1 : v1 = some (.int (iI (if 0 ≤ x ∧ x < (MC 0 0).toInt ∧ x < 60 then (MC 8 x).toInt else -1)))) (hM : MR' = sjU MR 0 0 (iI 0)) (h2 : v2 = some (.int (iI (if 0 ≤ x ∧ x < (MR 0 3).toInt then (MR 19 x).toInt else -1)))) : v1 = v2 ∧ RR MC MR' := by
  refine ⟨?_, RR_0 hR hM⟩
  obtain ⟨lts, hg, hA, h3, h4, h5⟩ := hR
  rw [h1, h2, h3]
  by_cases hx : 0 ≤ x ∧ x < (MC 0 0).toInt
  · rw [if_pos ⟨hx.1, hx.2, by omega⟩, if_pos hx, h5 x hx.1 hx.2]
  · rw [if_neg (fun q => hx ⟨q.1, q.2.1⟩), if_neg hx]
theorem st_same (hR : RR MC MR) (h1 : v1 = some (.int (iI (if okTS x a ∧ okTS x b then aAlike (vX MC (x * 5 + a).toNat) (vX MC (x * 5 + b).toNat) else 0)))) (hM : MR' = sjU MR 0 0 (iI 0)) (h2 : v2 = some (.int (iI (if okTS x a ∧ okTS x b then aAlike (xF MC (5 * x + a)) (xF MC (5 * x + b)) else 0)))) : v1 = v2 ∧ RR MC MR' := by
  refine ⟨?_, RR_0 hR hM⟩
  rw [h1, h2, vX_x, vX_x]
theorem st_tell (hg : gAll (tF MC) (xF MC) lts) (ho : uOut MC MR) (h1 : (okTS x y ∧ aHasM (vT MC (tI (x * 5 + y).toNat)) k ∧ onC MC MC' (x * 5 + y).toNat ∧ vX MC' (x * 5 + y).toNat = aEnd (aHear (vT MC (tI (x * 5 + y).toNat)) (decide (tI (x * 5 + y).toNat = 0)) (aStart (vX MC (x * 5 + y).toNat)) k).1 ∧ v1 = some (.int (iI (aHear (vT MC (tI (x * 5 + y).toNat)) (decide (tI (x * 5 + y).toNat = 0)) (aStart (vX MC (x * 5 + y).toNat)) k).2))) ∨ (¬ (okTS x y ∧ aHasM (vT MC (tI (x * 5 + y).toNat)) k) ∧ MC' = MC ∧ v1 = some (.int (iI (-1)))))
    (hk : rKeep MR MR') (h2 : ((okTS x y ∧ 0 ≤ k ∧ k < tF MC x 0 1) ∧ rAll (tF MC) (updF (xF MC) (5 * x + y) (aEnd (aHear (tF MC x) (decide (x = 0)) (aStart (xF MC (5 * x + y))) k).1)) MR' ∧ v2 = some (.int (iI (aHear (tF MC x) (decide (x = 0)) (aStart (xF MC (5 * x + y))) k).2))) ∨ (¬ (okTS x y ∧ 0 ≤ k ∧ k < tF MC x 0 1) ∧ rAll (tF MC) (xF MC) MR' ∧ v2 = some (.int (iI (-1))))) : v1 = v2 ∧ RR MC' MR' := by
  rcases h1 with ⟨c1, c2, c3, c4, c5⟩ | ⟨c1, c2, c3⟩
  · obtain ⟨hG, hO⟩ := hg.1 x c1.1 c1.2.1
    have h160 := hG.1.2.2.2.1
    rw [vT_x MC c1] at c2 c4 c5
    rw [vX_x MC, w_x c1] at c4 c5
    rcases h2 with ⟨d1, d2, d3⟩ | ⟨d1, d2, d3⟩
    · have hs := hg.2 x y c1.1 c1.2.1 c1.2.2.1 c1.2.2.2
      have hk2 := sK_end (sK_hear (k := k) hG.1 (gO_o hG.1.2.2.2.2.1 hO) (sK_start hs))
      exact ⟨by rw [c5, d3], RR_upd hg ho c1 c3 c4 hk2.1 hk2.2.1 hk2.2.2 d2 hk⟩
    · exact absurd ⟨c1, c2.1, c2.2.1⟩ d1
  · rw [c2]
    rcases h2 with ⟨d1, d2, d3⟩ | ⟨d1, d2, d3⟩
    · exfalso
      have h160 := (hg.1 x d1.1.1 d1.1.2.1).1.1.2.2.2.1
      apply c1
      rw [vT_x MC d1.1]
      exact ⟨d1.1, d1.2.1, d1.2.2, by omega⟩
    · exact ⟨by rw [c3, d3], lts, hg, d2, uOut_k ho rfl rfl hk⟩
theorem st_share {dn : Int} (hg : gAll (tF MC) (xF MC) lts) (ho : uOut MC MR) (h1 : (okTS x a ∧ okTS x b ∧ onC MC MC' (x * 5 + b).toNat ∧ vX MC' (x * 5 + b).toNat = aEnd (aShF (vT MC (tI (x * 5 + b).toNat)) (decide (tI (x * 5 + b).toNat = 0)) (decide (¬ dn = 0)) (decide ((x * 5 + a).toNat = (x * 5 + b).toNat)) (vX MC (x * 5 + a).toNat) ((vT MC (tI (x * 5 + b).toNat)) 0 1).toNat 0 (aStart (vX MC (x * 5 + b).toNat)) 0).1 ∧ v1 = some (.int (iI (aShF (vT MC (tI (x * 5 + b).toNat)) (decide (tI (x * 5 + b).toNat = 0)) (decide (¬ dn = 0)) (decide ((x * 5 + a).toNat = (x * 5 + b).toNat)) (vX MC (x * 5 + a).toNat) ((vT MC (tI (x * 5 + b).toNat)) 0 1).toNat 0 (aStart (vX MC (x * 5 + b).toNat)) 0).2))) ∨ (¬ (okTS x a ∧ okTS x b) ∧ MC' = MC ∧ v1 = some (.int (iI (-1)))))
    (hk : rKeep MR MR') (h2 : ((okTS x a ∧ okTS x b) ∧ rAll (tF MC) (updF (xF MC) (5 * x + b) (aEnd (aShF (tF MC x) (decide (x = 0)) (decide (¬ dn = 0)) (decide (a = b)) (xF MC (5 * x + a)) (tF MC x 0 1).toNat 0 (aStart (xF MC (5 * x + b))) 0).1)) MR' ∧ v2 = some (.int (iI (aShF (tF MC x) (decide (x = 0)) (decide (¬ dn = 0)) (decide (a = b)) (xF MC (5 * x + a)) (tF MC x 0 1).toNat 0 (aStart (xF MC (5 * x + b))) 0).2))) ∨ (¬ (okTS x a ∧ okTS x b) ∧ rAll (tF MC) (xF MC) MR' ∧ v2 = some (.int (iI (-1))))) : v1 = v2 ∧ RR MC' MR' := by
  rcases h1 with ⟨c0, c1, c3, c4, c5⟩ | ⟨c1, c2, c3⟩
  · obtain ⟨hG, hO⟩ := hg.1 x c1.1 c1.2.1
    have hab : decide ((x * 5 + a).toNat = (x * 5 + b).toNat) = decide (a = b) := decide_eq_decide.mpr (by omega)
    rw [vT_x MC c1, vX_x MC, vX_x MC, w_x c1, hab] at c4 c5
    rcases h2 with ⟨d1, d2, d3⟩ | ⟨d1, d2, d3⟩
    · have hs := hg.2 x b c1.1 c1.2.1 c1.2.2.1 c1.2.2.2
      have hk2 := sK_end (sK_share (d := decide (¬ dn = 0)) (b := decide (a = b)) (X := xF MC (5 * x + a)) hG.1 (gO_o hG.1.2.2.2.2.1 hO) (tF MC x 0 1).toNat 0 _ 0 (sK_start hs))
      exact ⟨by rw [c5, d3], RR_upd hg ho c1 c3 c4 hk2.1 hk2.2.1 hk2.2.2 d2 hk⟩
    · exact absurd ⟨c0, c1⟩ d1
  · rw [c2]
    rcases h2 with ⟨d1, d2, d3⟩ | ⟨d1, d2, d3⟩
    · exact absurd d1 c1
    · exact ⟨by rw [c3, d3], lts, hg, d2, uOut_k ho rfl rfl hk⟩
/-- the text has grown on both sides -/
theorem RR_own {T' Y : aS} {lt' : Int → Int → Prop} (hg : gAll (tF MC) (xF MC) lts) (hout : uOut MC MR) (hts : okTS x y) (ho : onTC MC MC' (tI (x * 5 + y).toNat) (x * 5 + y).toNat) (hvT : vT MC' (tI (x * 5 + y).toNat) = T') (hvX : vX MC' (x * 5 + y).toNat = Y)
    (g1 : gT T') (g4 : gO T' (decide (x = 0)) lt') (gx : tExt (tF MC x) T') (h01 : T' 0 1 = tF MC x 0 1 + 1) (h7 : T' 7 (tF MC x 0 1) = y) (e1 : ∀ Y lt0, cInv (tF MC x) lt0 Y → (∀ a b, aHasC (tF MC x) a → aHasC (tF MC x) b → lt0 a b → lt' a b) → cInv T' lt' Y) (g5 : ∀ a b, aHasC (tF MC x) a → aHasC (tF MC x) b → lts x a b → lt' a b)
    (k1 : sK T' lt' y Y) (hA : rAll (updF (tF MC) x T') (updF (xF MC) (5 * x + y) Y) MR') (hk : rKeep MR MR') : RR MC' MR' := by
  have hti := tI_x hts
  have e1T : ∀ t, 0 ≤ t → t < 2 → tF MC' t = updF (tF MC) x T' t := by
    intro t h0 h1
    show vT MC' t.toNat = if t = x then T' else vT MC t.toNat
    by_cases ht : t = x
    · rw [if_pos ht, ht, ← hti]; exact hvT
    · rw [if_neg ht]
      exact vT_o MC MC' _ (fun q q1 q2 => ho q (by rw [hti]; have := hts.1; omega) (by omega))
  have e1X : ∀ j, 0 ≤ j → j < 10 → xF MC' j = updF (xF MC) (5 * x + y) Y j := by
    intro j h0 h1
    show vX MC' j.toNat = if j = 5 * x + y then Y else vX MC j.toNat
    by_cases hj : j = 5 * x + y
    · rw [if_pos hj, hj, ← hvX, Int.mul_comm x 5]
    · rw [if_neg hj]
      have ht2 : tI (x * 5 + y).toNat < 2 := tI_lt _
      exact vX_o MC MC' _ (fun q q1 q2 => ho q (by omega) (by omega))
  have hgn : gAll (updF (tF MC) x T') (updF (xF MC) (5 * x + y) Y) (fun t => if t = x then lt' else lts t) := by
    refine ⟨fun t h0 h1 => ?_, fun t s h0 h1 h2 h3 => ?_⟩
    · show gT (if t = x then T' else tF MC t) ∧ gO (if t = x then T' else tF MC t) (decide (t = 0)) (if t = x then lt' else lts t)
      by_cases ht : t = x
      · rw [if_pos ht, if_pos ht, ht]; exact ⟨g1, g4⟩
      · rw [if_neg ht, if_neg ht]; exact hg.1 t h0 h1
    · show cInv (if t = x then T' else tF MC t) (if t = x then lt' else lts t) (if 5 * t + s = 5 * x + y then Y else xF MC (5 * t + s)) ∧ gOwn (if t = x then T' else tF MC t) (if 5 * t + s = 5 * x + y then Y else xF MC (5 * t + s)) s ∧ gSet (if t = x then T' else tF MC t) (if 5 * t + s = 5 * x + y then Y else xF MC (5 * t + s))
      by_cases ht : t = x
      · rw [if_pos ht, if_pos ht]
        by_cases hs : 5 * t + s = 5 * x + y
        · rw [if_pos hs, show s = y by omega]; exact k1
        · rw [if_neg hs, ht]
          obtain ⟨q1, q2, q3⟩ := hg.2 x s hts.1 hts.2.1 h2 h3
          obtain ⟨o1, o2⟩ := oth_all (hg.1 x hts.1 hts.2.1).1 gx q1 q2 q3 h01 h7 (by omega)
          exact ⟨e1 _ _ q1 g5, o1, o2⟩
      · rw [if_neg ht, if_neg ht, if_neg (by have := hts.2.2; omega)]
        exact hg.2 t s h0 h1 h2 h3
  have ht2 : tI (x * 5 + y).toNat < 2 := tI_lt _
  exact ⟨_, gAll_c hgn e1T e1X, rAll_c hA e1T e1X, uOut_k hout (by rw [ho 0 (by omega) (by omega)]) (ho 8 (by omega) (by omega)) hk⟩
end ST
