/-! a text with a new INSERT, with a new ERASE -/
def tIns (T : aS) (s L R lr : Int) : aS := aMsg (aChr T s L R lr) 0 s (T 0 0)
def tErs (T : aS) (s c : Int) : aS := aMsg (aErs T) 1 s c
section CE
variable (T : aS) (s L R lr c z : Int)
theorem ti_00 : tIns T s L R lr 0 0 = T 0 0 + 1 := by simp [tIns, aMsg, aChr, aUp]
theorem ti_01 : tIns T s L R lr 0 1 = T 0 1 + 1 := by simp [tIns, aMsg, aChr, aUp]
theorem ti_02 : tIns T s L R lr 0 2 = T 0 2 := by simp [tIns, aMsg, aChr, aUp]
theorem ti_1 : tIns T s L R lr 1 z = if z = T 0 0 then s else T 1 z := by simp [tIns, aMsg, aChr, aUp]
theorem ti_2 : tIns T s L R lr 2 z = if z = T 0 0 then 100 * s + T 9 s else T 2 z := by simp [tIns, aMsg, aChr, aUp]
theorem ti_3 : tIns T s L R lr 3 z = if z = T 0 0 then lr else T 3 z := by simp [tIns, aMsg, aChr, aUp]
theorem ti_4 : tIns T s L R lr 4 z = if z = T 0 0 then L else T 4 z := by simp [tIns, aMsg, aChr, aUp]
theorem ti_5 : tIns T s L R lr 5 z = if z = T 0 0 then R else T 5 z := by simp [tIns, aMsg, aChr, aUp]
theorem ti_6 : tIns T s L R lr 6 z = if z = T 0 1 then 0 else T 6 z := by simp [tIns, aMsg, aChr, aUp]
theorem ti_7 : tIns T s L R lr 7 z = if z = T 0 1 then s else T 7 z := by simp [tIns, aMsg, aChr, aUp]
theorem ti_8 : tIns T s L R lr 8 z = if z = T 0 1 then T 0 0 else T 8 z := by simp [tIns, aMsg, aChr, aUp]
theorem ti_9 : tIns T s L R lr 9 z = if z = s then T 9 s + 1 else T 9 z := by simp [tIns, aMsg, aChr, aUp]
theorem te_00 : tErs T s c 0 0 = T 0 0 := by simp [tErs, aMsg, aErs, aUp]
theorem te_01 : tErs T s c 0 1 = T 0 1 + 1 := by simp [tErs, aMsg, aErs, aUp]
theorem te_02 : tErs T s c 0 2 = T 0 2 + 1 := by simp [tErs, aMsg, aErs, aUp]
theorem te_j (j : Nat) (h : 1 ≤ j ∧ j ≤ 5 ∨ j = 9) : tErs T s c j z = T j z := by
  have h0 : ¬ j = 0 := by omega
  have h6 : ¬ j = 6 := by omega
  have h7 : ¬ j = 7 := by omega
  have h8 : ¬ j = 8 := by omega
  simp [tErs, aMsg, aErs, aUp, h0, h6, h7, h8]
theorem te_6 : tErs T s c 6 z = if z = T 0 1 then 1 else T 6 z := by simp [tErs, aMsg, aErs, aUp]
theorem te_7 : tErs T s c 7 z = if z = T 0 1 then s else T 7 z := by simp [tErs, aMsg, aErs, aUp]
theorem te_8 : tErs T s c 8 z = if z = T 0 1 then c else T 8 z := by simp [tErs, aMsg, aErs, aUp]
end CE
theorem ti_C {T : aS} {s L R lr x : Int} (h0 : 0 ≤ T 0 0) (h60 : T 0 0 < 60) : aHasC (tIns T s L R lr) x ↔ aHasC T x ∨ x = T 0 0 := by
  unfold aHasC; rw [ti_00]; omega
theorem ti_M {T : aS} {s L R lr k : Int} (h0 : 0 ≤ T 0 1) (h1 : T 0 1 < 160) : aHasM (tIns T s L R lr) k ↔ aHasM T k ∨ k = T 0 1 := by
  unfold aHasM; rw [ti_01]; omega
theorem te_C {T : aS} {s c x : Int} : aHasC (tErs T s c) x ↔ aHasC T x := by
  unfold aHasC; rw [te_00]
theorem te_M {T : aS} {s c k : Int} (h0 : 0 ≤ T 0 1) (h1 : T 0 1 < 160) : aHasM (tErs T s c) k ↔ aHasM T k ∨ k = T 0 1 := by
  unfold aHasM; rw [te_01]; omega
theorem noM1 {T : aS} : ¬ aHasM T (T 0 1) := fun w => by have := w.2.1; omega
theorem ti_ext {T : aS} {s L R lr : Int} (h0 : 0 ≤ T 0 0) (h60 : T 0 0 < 60) (h1 : 0 ≤ T 0 1) (h160 : T 0 1 < 160) : tExt T (tIns T s L R lr) := by
  refine ⟨fun c hc => ?_, fun k hk => ?_⟩
  · have hn : ¬ c = T 0 0 := fun q => by rw [q] at hc; exact new_no hc
    rw [ti_1, ti_2, ti_3, ti_4, ti_5, if_neg hn, if_neg hn, if_neg hn, if_neg hn, if_neg hn]
    exact ⟨(ti_C h0 h60).mpr (Or.inl hc), rfl, rfl, rfl, rfl, rfl⟩
  · have hn : ¬ k = T 0 1 := fun q => by rw [q] at hk; exact noM1 hk
    rw [ti_6, ti_7, ti_8, if_neg hn, if_neg hn, if_neg hn]
    exact ⟨(ti_M h1 h160).mpr (Or.inl hk), rfl, rfl, rfl⟩
theorem te_ext {T : aS} {s c : Int} (h1 : 0 ≤ T 0 1) (h160 : T 0 1 < 160) : tExt T (tErs T s c) := by
  refine ⟨fun c2 hc => ?_, fun k hk => ?_⟩
  · rw [te_j _ _ _ _ 1 (by omega), te_j _ _ _ _ 2 (by omega), te_j _ _ _ _ 3 (by omega), te_j _ _ _ _ 4 (by omega), te_j _ _ _ _ 5 (by omega)]
    exact ⟨te_C.mpr hc, rfl, rfl, rfl, rfl, rfl⟩
  · have hn : ¬ k = T 0 1 := fun q => by rw [q] at hk; exact noM1 hk
    rw [te_6, te_7, te_8, if_neg hn, if_neg hn, if_neg hn]
    exact ⟨(te_M h1 h160).mpr (Or.inl hk), rfl, rfl, rfl⟩
theorem gT_ins {T : aS} {s L R lr : Int} (hT : gT T) (hs0 : 0 ≤ s) (hs5 : s < 5) (h60 : T 0 0 < 60) (hL : L = -1 ∨ aHasC T L) (hR : R = 60 ∨ aHasC T R) : gT (tIns T s L R lr) ∧ newC T (tIns T s L R lr) (T 0 0) L R s (100 * s + T 9 s) ∧ ∀ o, aHasC T o → ¬ aMark T o = 100 * s + T 9 s := by
  obtain ⟨⟨t0, t1, t2, t3, t4, t5, t6⟩, ⟨g1, g2, g3⟩, g4, g5, g6, g7⟩ := hT
  have hx : tExt T (tIns T s L R lr) := ti_ext t0 h60 t2 (by omega)
  have hC : ∀ x, aHasC (tIns T s L R lr) x ↔ aHasC T x ∨ x = T 0 0 := fun x => ti_C t0 h60
  have hM : ∀ x, aHasM (tIns T s L R lr) x ↔ aHasM T x ∨ x = T 0 1 := fun x => ti_M t2 (by omega)
  have hcn := (hC (T 0 0)).mpr (Or.inr rfl)
  have hmn := (hM (T 0 1)).mpr (Or.inr rfl)
  have el : aLeft (tIns T s L R lr) (T 0 0) = L := by unfold aLeft; rw [if_pos hcn, ti_4, if_pos rfl]
  have er : aRight (tIns T s L R lr) (T 0 0) = R := by unfold aRight; rw [if_pos hcn, ti_5, if_pos rfl]
  have hmk : ∀ o, aHasC T o → ¬ T 2 o = 100 * s + T 9 s := by
    intro o ho he
    obtain ⟨a1, a2, a3, a4⟩ := g5 o ho
    have a5 := g4 (T 1 o) a1 a2
    have a6 := g4 s hs0 hs5
    have h9 : T 1 o = s := by omega
    rw [h9] at a4
    omega
  refine ⟨⟨⟨by rw [ti_00]; omega, by rw [ti_00]; omega, by rw [ti_01]; omega, by rw [ti_01]; omega, fun c hc => ?_, fun k hk => ?_, fun k k2 hk hk2 h6 h62 h8 => ?_⟩, ⟨by rw [ti_00, ti_01, ti_02]; omega, by rw [ti_02]; omega, by rw [ti_02]; omega⟩, fun x x0 x1 => ?_, fun c hc => ?_, fun c o hc ho he => ?_, fun c hc => ?_⟩, ⟨hx, rfl, ⟨t0, h60⟩, hC, el, er, ?_, ?_⟩, ?_⟩
  · rcases (hC c).mp hc with v | v
    · rw [ext_left hx v, ext_right hx v]; exact t4 c v
    · rw [v, el, er]
      refine ⟨?_, ?_⟩
      · rcases hL with u | u
        · exact Or.inl u
        · exact Or.inr ⟨u.1, u.2.1⟩
      · rcases hR with u | u
        · exact Or.inl u
        · exact Or.inr ⟨u.1, u.2.1⟩
  · rcases (hM k).mp hk with v | v
    · obtain ⟨_, e6, _, e8⟩ := hx.2 k v
      rw [e6, e8]
      exact ⟨(t5 k v).1, (hC _).mpr (Or.inl (t5 k v).2)⟩
    · rw [v, ti_6, ti_8, if_pos rfl, if_pos rfl]
      exact ⟨Or.inl rfl, hcn⟩
  · rcases (hM k).mp hk with v | v
    · obtain ⟨_, e6, _, e8⟩ := hx.2 k v
      rcases (hM k2).mp hk2 with u | u
      · obtain ⟨_, f6, _, f8⟩ := hx.2 k2 u
        rw [e6] at h6; rw [f6] at h62; rw [e8, f8] at h8
        exact t6 k k2 v u h6 h62 h8
      · rw [e8, u, ti_8, if_pos rfl] at h8
        have := (t5 k v).2
        rw [h8] at this
        exact absurd this new_no
    · rcases (hM k2).mp hk2 with u | u
      · obtain ⟨_, f6, _, f8⟩ := hx.2 k2 u
        rw [f8, v, ti_8, if_pos rfl] at h8
        have := (t5 k2 u).2
        rw [← h8] at this
        exact absurd this new_no
      · rw [v, u]
  · rw [ti_9, ti_00]
    have := g4 x x0 x1
    have := g4 s hs0 hs5
    split <;> omega
  · rcases (hC c).mp hc with v | v
    · obtain ⟨_, e1, e2, _⟩ := hx.1 c v
      rw [e1, e2, ti_9]
      have := g5 c v
      split
      · rename_i hq
        rw [hq] at this ⊢
        omega
      · exact this
    · rw [v, ti_1, ti_2, if_pos rfl, if_pos rfl, ti_9, if_pos rfl]
      have := g4 s hs0 hs5
      omega
  · rcases (hC c).mp hc with v | v
    · obtain ⟨_, _, e2, _⟩ := hx.1 c v
      rcases (hC o).mp ho with u | u
      · obtain ⟨_, _, f2, _⟩ := hx.1 o u
        rw [e2, f2] at he
        exact g6 c o v u he
      · rw [e2, u, ti_2, if_pos rfl] at he
        exact absurd he (hmk c v)
    · rcases (hC o).mp ho with u | u
      · obtain ⟨_, _, f2, _⟩ := hx.1 o u
        rw [f2, v, ti_2, if_pos rfl] at he
        exact absurd he.symm (hmk o u)
      · rw [v, u]
  · rcases (hC c).mp hc with v | v
    · obtain ⟨k, k1, k2, k3, k4⟩ := g7 c v
      obtain ⟨e0, e6, e7, e8⟩ := hx.2 k k1
      refine ⟨k, e0, by rw [e6]; exact k2, by rw [e8]; exact k3, ?_⟩
      rw [e7, (hx.1 c v).2.1]; exact k4
    · exact ⟨T 0 1, hmn, by rw [ti_6, if_pos rfl], by rw [ti_8, if_pos rfl, v], by rw [ti_7, if_pos rfl, v, ti_1, if_pos rfl]⟩
  · unfold aSite; rw [if_pos hcn, ti_1, if_pos rfl]
  · unfold aMark; rw [if_pos hcn, ti_2, if_pos rfl]
  · intro o ho
    unfold aMark
    rw [if_pos ho]
    exact hmk o ho
/-- all that a new INSERT keeps -/
theorem ins_all {T X : aS} {w : Bool} {lt : Int → Int → Prop} {s i lr : Int} (hT : gT T) (hO : gO T w lt) (hX : cInv T lt X) (how : gOwn T X s) (hs0 : 0 ≤ s) (hs5 : s < 5) (h60 : T 0 0 < 60) (hi : 0 ≤ i) (hi1 : i ≤ X 0 1) : gT (tIns T s (aLFP X i) (aRFP X w i) lr) ∧ tExt T (tIns T s (aLFP X i) (aRFP X w i) lr) ∧ aCan (tIns T s (aLFP X i) (aRFP X w i) lr) X (T 0 1) ∧ ∃ lt', gO (tIns T s (aLFP X i) (aRFP X w i) lr) w lt' ∧ ∀ a b, aHasC T a → aHasC T b → lt a b → lt' a b := by
  obtain ⟨a, b, n1, n2, n3, n4, n5, n6, n7⟩ := ins_nb hX hi hi1 w
  have hcp := hX.1
  have hlen := hcp.1
  have hl60 := hcp.2.1
  have hL : aLFP X i = -1 ∨ aHasC T (aLFP X i) := by
    rcases n6 with ⟨_, v⟩ | ⟨v1, v⟩
    · exact Or.inl v
    · rw [v]; exact Or.inr (hcp.2.2.1 a v1 (by omega)).1
  have hR : aRFP X w i = 60 ∨ aHasC T (aRFP X w i) := by
    rcases n7 with ⟨_, v⟩ | ⟨v1, v⟩
    · exact Or.inl v
    · rw [v]; exact Or.inr (hcp.2.2.1 b (by omega) v1).1
  obtain ⟨q1, q2, q3⟩ := gT_ins (lr := lr) hT hs0 hs5 h60 hL hR
  have hf := hT.1.2.2.2.2.1
  have t0 := hT.1.1
  have t2 := hT.1.2.2.1
  have g1 := hT.2.1
  refine ⟨q1, q2.1, ?_, ?_⟩
  · have hk : aHasM (tIns T s (aLFP X i) (aRFP X w i) lr) (T 0 1) := (ti_M t2 (by omega)).mpr (Or.inr rfl)
    right
    rw [kind_in hk, subj_in hk, ti_6, if_pos rfl, ti_8, if_pos rfl, q2.2.2.2.2.1, q2.2.2.2.2.2.1]
    refine ⟨by omega, by omega, ?_⟩
    rcases n7 with ⟨_, v⟩ | ⟨v1, v⟩
    · rw [v, pl_end]; omega
    · have := hcp.2.2.1 b (by omega) v1
      rw [v, pl_char this.1.1 this.1.2.2]; omega
  · rcases hO with ⟨rfl, key, h1, rfl⟩ | ⟨rfl, ρ, h1, rfl⟩
    · have hw : wO (kl T key (aLFP X i)) (kl T key (aRFP X true i)) := by
        rcases n6 with ⟨_, v⟩ | ⟨v1, v⟩
        · left; rw [v]; exact kl_none (fun q => by have := q.1; omega)
        · rcases n7 with ⟨_, u⟩ | ⟨u1, u⟩
          · right; left; rw [u]; exact kl_none (fun q => by have := q.2.2; omega)
          · right; right
            rw [v, u, kl_some (hcp.2.2.1 a v1 (by omega)).1, kl_some (hcp.2.2.1 b (by omega) u1).1]
            exact hX.2.1 a b v1 n2 u1
      have h9 := hT.2.2.1 s hs0 hs5
      obtain ⟨key', k1, k2⟩ := new_w q2 h1 hf hw (by rcases hL with v | v; exact Or.inl v; exact Or.inr (Or.inr v)) (by rcases hR with v | v; exact Or.inr (Or.inl v); exact Or.inr (Or.inr v)) (by omega) q3
      exact ⟨_, Or.inl ⟨rfl, key', k1, rfl⟩, fun x y hx hy hxy => by rw [k2 x hx, k2 y hy]; exact hxy⟩
    · have hb : b = a + 1 := n4 rfl
      have hown : ∀ o, aHasC T o → aSite T o = s → ¬ X 2 o = -2 := by
        intro o ho hso
        obtain ⟨k, k1, k2, k3, k4⟩ := hT.2.2.2.2.2 o ho
        have h7 : T 7 k = s := by
          rw [k4]
          unfold aSite at hso
          rw [if_pos ho] at hso
          exact hso
        have := (hX.2.2.1.2.2.1 k k1 k2).mp (how k k1 h7)
        rw [k3] at this
        exact this
      obtain ⟨ρ', k1, k2⟩ := new_y (a := a) q2 h1 hf hcp hX.2.1 n1 n6 (by omega) (by rw [← hb]; exact n7) hown
      exact ⟨_, Or.inr ⟨rfl, ρ', k1, rfl⟩, k2⟩
