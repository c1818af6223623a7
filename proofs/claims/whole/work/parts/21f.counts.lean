theorem rTt_left {T : aS} {M : sjM} {t : Int} (h : rT T M t) {o : Int} (ho : aHasC T o) : M 5 (60 * t + o) = iI (aLeft T o) := by
  rw [(h.2.1 o ho.1 ho.2.2).2.2.2.1]; unfold aLeft; rw [if_pos ho]
theorem rTt_right {T : aS} {M : sjM} {t : Int} (h : rT T M t) {o : Int} (ho : aHasC T o) : M 6 (60 * t + o) = iI (aRight T o) := by
  rw [(h.2.1 o ho.1 ho.2.2).2.2.2.2]; unfold aRight; rw [if_pos ho]
set_option maxHeartbeats 4000000 in
set_option maxRecDepth 100000 in
theorem kX4_counts {l : Launch} {D : va_G} {cI cZ cJ cT cC : ClassId} {ad : Nat → Nat} {A : Nat → Prop} (hD : ∀ g : Nat → va_E, va_D A (sjW 26 ad g)) (i : Int) (hi0 : 0 ≤ i) (hi1 : i ≤ 10) (t : Int) (ht0 : 0 ≤ t) (ht1 : t < 2) (M : sjM) (L : sjL) (T X : aS) (lt : Int → Int → Prop) (hX : rX X M i) (hI : cpOK T X ∧ srtL lt X) (hT : rT T M t) (hG : tInv T) (h12 : X 0 0 ≤ 12) : Met l yX4_counts wsX4_counts { frames := 1, cells := 0, slots := 0, locals := 23 } (sjA D cI cZ cJ cT cC 26 ad (kR cI cZ cJ ad) [.ref (ad 0), .int (iI i), .int (iI t)] M L) (sjZ D 26 ad (kR cI cZ cJ ad) A (fun v M' L' => v = none ∧ (∀ k, k ≠ 24 → M' k = M k) ∧ recU (X 0 0).toNat (prX T X) (fun S : Nat => L' 25 (S : Int)) ∧ fmOK (M' 24) (X 0 0).toNat (fun b a => prX T X a b))) 0 0 A := by
  refine g_met (cc := cX4_counts) (maxL := 9) (ret := none) (lv := [_, _, _, _, _, _, _, _, _]) (by decide) rfl hD kR_loc (List.forall_mem_cons.mpr ⟨rfl, List.forall_mem_cons.mpr ⟨rfl, List.forall_mem_cons.mpr ⟨rfl, fun _ h => absurd h List.not_mem_nil⟩⟩⟩) (Nat.le_of_ble_eq_true rfl) rfl ?_
  intro J G
  have f22 : Cond.fieldLink RX4 22 "SharedPageModel" "leftOf" "[I" ∈ wsX4_counts := by decide +kernel
  have f25 : Cond.fieldLink RX4 25 "SharedPageModel" "rightOf" "[I" ∈ wsX4_counts := by decide +kernel
  have f47 : Cond.fieldLink RX4 47 "SharedPageModel" "row" "[I" ∈ wsX4_counts := by decide +kernel
  have f50 : Cond.fieldLink RX4 50 "SharedPageModel" "many" "[I" ∈ wsX4_counts := by decide +kernel
  have f80 : Cond.fieldLink RX4 80 "SharedPageModel" "ahead" "[I" ∈ wsX4_counts := by decide +kernel
  have f83 : Cond.fieldLink RX4 83 "SharedPageModel" "ways" "[J" ∈ wsX4_counts := by decide +kernel
  have hinX4 : ∀ w ∈ u_ws RX4 TX4 29, w ∈ wsX4_counts := fun w h => List.mem_cons_of_mem _ (List.mem_append_right _ h)
  have hl0 := hI.1.1
  obtain ⟨n, hnn⟩ : ∃ n : Nat, n = (X 0 0).toNat := ⟨_, rfl⟩
  have hx0 : X 0 0 = (n : Int) := by omega
  have hn12 : n ≤ 12 := by omega
  have hp12 := p12 hn12
  have hp0 := Nat.two_pow_pos n
  rw [← hnn] at G
  have k148 : ∀ (M1 : sjM) (x4 x5 x6 x7 x8 : Option Value), (∀ k, k ≠ 24 → M1 k = M k) → fmOK (M1 24) n (fun b a => prX T X a b) → J 148 M1 L [some (.ref (ad 0)), some (.int (iI i)), some (.int (iI t)), some (.int (iI (n : Int))), x4, x5, x6, x7, x8] [] := by
    intro M1 x4 x5 x6 x7 x8 hM1 hfm
    refine g_iconst (pc := 148) G dX4_counts_148 ?_
    refine g_iload_n (pc := 149) G dX4_counts_149 rfl ?_
    refine g_ishl (pc := 150) G dX4_counts_150 ?_
    refine g_top (bit_N (x := n) hn12) ?_
    refine g_iconst (pc := 151) G dX4_counts_151 ?_
    refine g_isub (pc := 152) G dX4_counts_152 ?_
    refine g_istore (pc := 153) (lv' := [_, _, _, _, _, _, _, _, _]) G dX4_counts_153 (by decide) rfl ?_
    refine g_aload_n (pc := 155) G dX4_counts_155 rfl ?_
    refine g_getR (pc := 156) G hinX4 oModel rfl 28 (by decide) f83 rfl rfl dX4_counts_156 ?_
    refine g_iload (pc := 159) G dX4_counts_159 rfl ?_
    refine g_lconst (pc := 161) (v := 1) G dX4_counts_161 rfl ?_
    refine g_last (pc := 162) G rWays (by omega) dX4_counts_162 ?_
    refine g_mem (fun M2 L1 hM2 hL1e => ?_)
    obtain rfl : M1 = M2 := hM2.symm
    have loop3 : ∀ (f s1 : Nat) (L1 : sjL) (x6 x7 x8 : Option Value), s1 < f → s1 < 2 ^ n → (∀ k, k ≠ 25 → L1 k = L k) → recUs n (prX T X) s1 (fun S : Nat => L1 25 (S : Int)) → J 169 M1 L1 [some (.ref (ad 0)), some (.int (iI i)), some (.int (iI t)), some (.int (iI (n : Int))), some (.int (iI (((2 ^ n : Nat) : Int) - 1))), some (.int (iI ((s1 : Int) - 1))), x6, x7, x8] [] := by
      intro f
      induction f with
      | zero => intro s1 L1 x6 x7 x8 h; omega
      | succ f ih =>
        intro s1 L1 x6 x7 x8 hf hs1 hL1 hru
        refine g_iload (pc := 169) G dX4_counts_169 rfl ?_
        refine g_if_lt (pc := 171) G (by omega) 249 dX4_counts_171 (by decide) (fun h171 => ?_) (fun h171 => ?_)
        · -- 171 t
          refine g_vret (pc := 249) G dX4_counts_249 ?_
          exact ⟨rfl, hM1, ⟨hru.1, fun S hS => hru.2 S (by omega) hS⟩, hfm⟩
        · -- 171 f
          obtain ⟨s, rfl⟩ : ∃ s : Nat, s1 = s + 1 := ⟨s1 - 1, by omega⟩
          rw [show ((s + 1 : Nat) : Int) - 1 = (s : Int) by omega]
          have k234 : ∀ (w : Int64) (x8 : Option Value), w = sm (tU (prX T X) (fun S : Nat => L1 25 (S : Int)) s) n → J 234 M1 L1 [some (.ref (ad 0)), some (.int (iI i)), some (.int (iI t)), some (.int (iI (n : Int))), some (.int (iI (((2 ^ n : Nat) : Int) - 1))), some (.int (iI (s : Int))), some (.long w), none, x8] [] := by
            intro w x8 hw
            refine g_aload_n (pc := 234) G dX4_counts_234 rfl ?_
            refine g_getR (pc := 235) G hinX4 oModel rfl 28 (by decide) f83 rfl rfl dX4_counts_235 ?_
            refine g_iload (pc := 238) G dX4_counts_238 rfl ?_
            refine g_lload (pc := 240) G dX4_counts_240 rfl ?_
            refine g_last (pc := 242) G rWays (by omega) dX4_counts_242 ?_
            refine g_mem (fun M2 L2 hM2 hL2e => ?_)
            obtain rfl : M1 = M2 := hM2.symm
            have hL25 : ∀ S : Nat, L2 25 (S : Int) = if S = s then w else L1 25 (S : Int) := by
              intro S
              rw [hL2e, sjV_s]
              by_cases hS : S = s
              · rw [if_pos (by omega), if_pos hS]
              · rw [if_neg (by omega), if_neg hS]
            have hL2 : ∀ k, k ≠ 25 → L2 k = L k := fun k hk => by rw [hL2e, sjV_o hk]; exact hL1 k hk
            clear hL2e
            rw [show (s : Int) = ((s : Nat) : Int) from rfl]
            refine g_iinc (pc := 243) (lv' := [_, _, _, _, _, _, _, _, _]) G dX4_counts_243 (by decide) rfl rfl ?_
            refine g_goto (pc := 246) G 169 dX4_counts_246 (by decide) ?_
            exact ih s L2 _ _ _ (by omega) (by omega) hL2 (recUs_w (by omega) hru (fun S => by rw [hL25, ← hw]))
          have loop4 : ∀ (g j : Nat) (w : Int64), j ≤ n → n - j < g → w = sm (tU (prX T X) (fun S : Nat => L1 25 (S : Int)) s) j → J 180 M1 L1 [some (.ref (ad 0)), some (.int (iI i)), some (.int (iI t)), some (.int (iI (n : Int))), some (.int (iI (((2 ^ n : Nat) : Int) - 1))), some (.int (iI (s : Int))), some (.long w), none, some (.int (iI (j : Int)))] [] := by
            intro g
            induction g with
            | zero => intro j w _ h; omega
            | succ g ihj =>
              intro j w hj hg hw
              refine g_iload (pc := 180) G dX4_counts_180 rfl ?_
              refine g_iload_n (pc := 182) G dX4_counts_182 rfl ?_
              refine g_icmp_ge (pc := 183) G (by omega) (by omega) 234 dX4_counts_183 (by decide) (fun h183 => ?_) (fun h183 => ?_)
              · -- 183 t
                exact k234 _ _ (by rw [hw, show j = n by omega])
              · -- 183 f
                obtain ⟨m, m1, m2, m3⟩ := hfm j (by omega)
                --go
                refine g_iload (pc := 186) G dX4_counts_186 rfl ?_
                refine g_iload (pc := 188) G dX4_counts_188 rfl ?_
                refine g_ishr (pc := 190) G dX4_counts_190 ?_
                refine g_iconst (pc := 191) G dX4_counts_191 ?_
                refine g_iand (pc := 192) G dX4_counts_192 ?_
                refine g_top (bit0 (S := s) (j := j) (by omega) (by omega)) ?_
                refine g_if_ne (pc := 193) G (by omega) 228 dX4_counts_193 (by decide) (fun h193 => ?_) (fun h193 => ?_)
                · -- 193 t
                  have hw2 : w = sm (tU (prX T X) (fun S : Nat => L1 25 (S : Int)) s) (j + 1) := by
                    rw [sm, ← hw]
                    unfold tU
                    rw [cif_neg (fun q => h193 (by have := (sb0 s j).mpr q.1; omega)), Int64.add_zero]
                  --go
                  refine g_iinc (pc := 228) (lv' := [_, _, _, _, _, _, _, _, _]) G dX4_counts_228 (by decide) rfl rfl ?_
                  refine g_goto (pc := 231) G 180 dX4_counts_231 (by decide) ?_
                  rw [show (j : Int) + 1 = ((j + 1 : Nat) : Int) by omega]
                  exact ihj (j + 1) _ (by omega) (by omega) hw2
                · -- 193 f
                  refine g_aload_n (pc := 196) G dX4_counts_196 rfl ?_
                  refine g_getR (pc := 197) G hinX4 oModel rfl 27 (by decide) f80 rfl rfl dX4_counts_197 ?_
                  refine g_iload (pc := 200) G dX4_counts_200 rfl ?_
                  refine g_iald (pc := 202) G rAhead (by omega) dX4_counts_202 ?_
                  refine g_top (ld (m2)) ?_
                  refine g_iload (pc := 203) G dX4_counts_203 rfl ?_
                  refine g_iconst (pc := 205) G dX4_counts_205 ?_
                  refine g_ixor (pc := 206) G dX4_counts_206 ?_
                  refine g_iand (pc := 207) G dX4_counts_207 ?_
                  refine g_top (mn_I m s) ?_
                  refine g_if_ne (pc := 208) G (by have := mn_lt (S := s) (show m < 4096 by omega); omega) 228 dX4_counts_208 (by decide) (fun h208 => ?_) (fun h208 => ?_)
                  · -- 208 t
                    have hw2 : w = sm (tU (prX T X) (fun S : Nat => L1 25 (S : Int)) s) (j + 1) := by
                      rw [sm, ← hw]
                      unfold tU
                      rw [cif_neg (fun q => h208 (by have := (mn_0 (S := s) (show m < 4096 by omega)).mpr (fun r hr => q.2 r ((m3 r).mp hr)); omega)), Int64.add_zero]
                    --go
                    refine g_iinc (pc := 228) (lv' := [_, _, _, _, _, _, _, _, _]) G dX4_counts_228 (by decide) rfl rfl ?_
                    refine g_goto (pc := 231) G 180 dX4_counts_231 (by decide) ?_
                    rw [show (j : Int) + 1 = ((j + 1 : Nat) : Int) by omega]
                    exact ihj (j + 1) _ (by omega) (by omega) hw2
                  · -- 208 f
                    have hw2 : w + L1 25 ((s ||| 2 ^ j : Nat) : Int) = sm (tU (prX T X) (fun S : Nat => L1 25 (S : Int)) s) (j + 1) := by
                      rw [sm, ← hw]
                      unfold tU
                      rw [cif_pos ⟨(sb0 s j).mp (by omega), fun r hr => (mn_0 (S := s) (show m < 4096 by omega)).mp (by omega) r ((m3 r).mpr hr)⟩]
                    --go
                    refine g_lload (pc := 211) G dX4_counts_211 rfl ?_
                    refine g_aload_n (pc := 213) G dX4_counts_213 rfl ?_
                    refine g_getR (pc := 214) G hinX4 oModel rfl 28 (by decide) f83 rfl rfl dX4_counts_214 ?_
                    refine g_iload (pc := 217) G dX4_counts_217 rfl ?_
                    refine g_iconst (pc := 219) G dX4_counts_219 ?_
                    refine g_iload (pc := 220) G dX4_counts_220 rfl ?_
                    refine g_ishl (pc := 222) G dX4_counts_222 ?_
                    refine g_top (bit_N (x := j) (by omega)) ?_
                    refine g_ior (pc := 223) G dX4_counts_223 ?_
                    refine g_top (or_I _ _) ?_
                    refine g_lald (pc := 224) G rWays (by have := or_lt (S := s) (x := j) (n := n) (by omega) (by omega); omega) dX4_counts_224 ?_
                    refine g_ladd (pc := 225) G dX4_counts_225 ?_
                    refine g_lstore (pc := 226) (lv' := [_, _, _, _, _, _, _, _, _]) G dX4_counts_226 (by decide) rfl ?_
                    refine g_iinc (pc := 228) (lv' := [_, _, _, _, _, _, _, _, _]) G dX4_counts_228 (by decide) rfl rfl ?_
                    refine g_goto (pc := 231) G 180 dX4_counts_231 (by decide) ?_
                    rw [show (j : Int) + 1 = ((j + 1 : Nat) : Int) by omega]
                    exact ihj (j + 1) _ (by omega) (by omega) hw2
          --go
          refine g_lconst (pc := 174) (v := 0) G dX4_counts_174 rfl ?_
          refine g_lstore (pc := 175) (lv' := [_, _, _, _, _, _, _, _, _]) G dX4_counts_175 (by decide) rfl ?_
          refine g_iconst (pc := 177) G dX4_counts_177 ?_
          refine g_istore (pc := 178) (lv' := [_, _, _, _, _, _, _, _, _]) G dX4_counts_178 (by decide) rfl ?_
          exact loop4 _ 0 0 (by omega) (Nat.lt_succ_self _) rfl
    refine g_iload (pc := 163) G dX4_counts_163 rfl ?_
    refine g_iconst (pc := 165) G dX4_counts_165 ?_
    refine g_isub (pc := 166) G dX4_counts_166 ?_
    refine g_istore (pc := 167) (lv' := [_, _, _, _, _, _, _, _, _]) G dX4_counts_167 (by decide) rfl ?_
    have hru : recUs n (prX T X) (2 ^ n - 1) (fun S : Nat => L1 25 (S : Int)) := by
      refine ⟨?_, fun S h1 h2 => by omega⟩
      show L1 25 ((2 ^ n - 1 : Nat) : Int) = 1
      rw [hL1e, show ((2 ^ n - 1 : Nat) : Int) = ((2 ^ n : Nat) : Int) - 1 by omega, sjV_s, if_pos rfl]
    have h3 := loop3 (2 ^ n) (2 ^ n - 1) L1 x6 x7 x8 (by omega) (by omega) (fun k hk => by rw [hL1e, sjV_o hk]) hru
    rw [show (((2 ^ n - 1 : Nat) : Int) - 1) = ((2 ^ n : Nat) : Int) - 1 - 1 by omega] at h3
    exact h3
  have loop2 : ∀ (f : Nat) (p : Int) (M1 : sjM) (x5 x6 x7 x8 : Option Value), 0 ≤ p → p ≤ (n : Int) → ((n : Int) - p).toNat < f → (∀ k, k ≠ 24 → M1 k = M k) → fmOK (M1 24) n (fun b a => prP T X p a b) → J 33 M1 L [some (.ref (ad 0)), some (.int (iI i)), some (.int (iI t)), some (.int (iI (n : Int))), some (.int (iI p)), x5, x6, x7, x8] [] := by
    intro f
    induction f with
    | zero => intro p M1 x5 x6 x7 x8 _ _ h; omega
    | succ f ih =>
      intro p M1 x5 x6 x7 x8 hp0 hp1 hf hM1 hfm
      refine g_iload (pc := 33) G dX4_counts_33 rfl ?_
      refine g_iload_n (pc := 35) G dX4_counts_35 rfl ?_
      refine g_icmp_ge (pc := 36) G (by omega) (by omega) 148 dX4_counts_36 (by decide) (fun h36 => ?_) (fun h36 => ?_)
      · -- 36 t
        exact k148 M1 _ _ _ _ _ hM1 (fm_of hfm (fun b a _ => prP_all (by omega) a b))
      · -- 36 f
        have hp1' : p < X 0 0 := by omega
        have hpx := cp_at hI.1 hp0 hp1'
        rw [at_in hp0 hp1' hI.1.2.1] at hpx
        have hoc := hpx.1
        have ho0 := hoc.1
        have ho1 := hoc.2.2
        have hlr := hG.2.2.2.2.1 (X 1 p) hoc
        have half : ∀ (M2 : sjM), (∀ k, k ≠ 24 → M2 k = M k) → fmOK (M2 24) n (fun b a => prP T X p a b ∨ ((b : Int) = p ∧ (a : Int) < X 0 0 ∧ (b : Int) < X 0 0 ∧ aPl X (aLeft T (X 1 p)) = (a : Int))) → J 106 M2 L [some (.ref (ad 0)), some (.int (iI i)), some (.int (iI t)), some (.int (iI (n : Int))), some (.int (iI p)), some (.int (iI (60 * t + X 1 p))), some (.int (iI (aLeft T (X 1 p)))), some (.int (iI (aRight T (X 1 p)))), x8] [] := by
          intro M2 hM2 hf1
          refine g_iload (pc := 106) G dX4_counts_106 rfl ?_
          refine g_bipush (pc := 108) G dX4_counts_108 rfl ?_
          refine g_icmp_eq (pc := 110) G (by omega) (by omega) 142 dX4_counts_110 (by decide) (fun h110 => ?_) (fun h110 => ?_)
          · -- 110 t
            have hf2 := ah_r hn12 hx0 hp0 hp1' hf1 (Or.inl ⟨by rw [h110, pl_end], rfl⟩)
            --go
            refine g_iinc (pc := 142) (lv' := [_, _, _, _, _, _, _, _, _]) G dX4_counts_142 (by decide) rfl rfl ?_
            refine g_goto (pc := 145) G 33 dX4_counts_145 (by decide) ?_
            exact ih (p + 1) M2 _ _ _ _ (by omega) (by omega) (by omega) hM2 hf2
          · -- 110 f
            have hpr : 0 ≤ aPl X (aRight T (X 1 p)) ∧ aPl X (aRight T (X 1 p)) < X 0 0 := by
              rcases hpx.2.2.2.2 with w | w | ⟨w0, w1, w2⟩
              · omega
              · exact absurd w h110
              · have h9 := cp_has hI.1 w0 w1 w2; rw [pl_char w0 w1]; exact ⟨h9.2.1, h9.2.2.1⟩
            --go
            refine g_aload_n (pc := 113) G dX4_counts_113 rfl ?_
            refine g_getR (pc := 114) G hinX4 oModel rfl 27 (by decide) f80 rfl rfl dX4_counts_114 ?_
            refine g_aload_n (pc := 117) G dX4_counts_117 rfl ?_
            refine g_iload_n (pc := 118) G dX4_counts_118 rfl ?_
            refine g_iload (pc := 119) G dX4_counts_119 rfl ?_
            refine g_call (pc := 121) (n := 2) (As := [_, _]) G (kX4_place hD i hi0 hi1 (aRight T (X 1 p)) M2 L T X lt (rX_of hX (fun k h1 h2 => hM2 k (by omega))) hI hpx.2.2.2.2) gX4_counts_X4_place oModel rfl rfl hdX4_place rfl rfl ⟨Nat.le_of_ble_eq_true rfl, Nat.le_of_ble_eq_true rfl⟩ rfl rfl (Nat.le_of_ble_eq_true rfl) dX4_counts_121 ?_
            rintro _ _ _ ⟨rfl, rfl, rfl⟩
            refine g_aload_n (pc := 124) G dX4_counts_124 rfl ?_
            refine g_getR (pc := 125) G hinX4 oModel rfl 27 (by decide) f80 rfl rfl dX4_counts_125 ?_
            refine g_aload_n (pc := 128) G dX4_counts_128 rfl ?_
            refine g_iload_n (pc := 129) G dX4_counts_129 rfl ?_
            refine g_iload (pc := 130) G dX4_counts_130 rfl ?_
            refine g_call (pc := 132) (n := 2) (As := [_, _]) G (kX4_place hD i hi0 hi1 (aRight T (X 1 p)) M2 L T X lt (rX_of hX (fun k h1 h2 => hM2 k (by omega))) hI hpx.2.2.2.2) gX4_counts_X4_place oModel rfl rfl hdX4_place rfl rfl ⟨Nat.le_of_ble_eq_true rfl, Nat.le_of_ble_eq_true rfl⟩ rfl rfl (Nat.le_of_ble_eq_true rfl) dX4_counts_132 ?_
            rintro _ _ _ ⟨rfl, rfl, rfl⟩
            refine g_iald (pc := 135) G rAhead (by omega) dX4_counts_135 ?_
            refine g_iconst (pc := 136) G dX4_counts_136 ?_
            refine g_iload (pc := 137) G dX4_counts_137 rfl ?_
            refine g_ishl (pc := 139) G dX4_counts_139 ?_
            refine g_ior (pc := 140) G dX4_counts_140 ?_
            refine g_iast (pc := 141) G rAhead (by omega) dX4_counts_141 ?_
            refine g_mem (fun M3 L3 hM3 hL3 => ?_)
            obtain rfl : L = L3 := hL3.symm
            have hf2 := ah_r hn12 hx0 hp0 hp1' hf1 (F1 := M3 24) (Or.inr ⟨hpr, fun z => by rw [hM3, sjU_s, iI_of]; rfl⟩)
            have hM13 : ∀ k, k ≠ 24 → M3 k = M k := fun k hk => by rw [hM3, sjU_o hk]; exact hM2 k hk
            clear hM3
            refine g_iinc (pc := 142) (lv' := [_, _, _, _, _, _, _, _, _]) G dX4_counts_142 (by decide) rfl rfl ?_
            refine g_goto (pc := 145) G 33 dX4_counts_145 (by decide) ?_
            exact ih (p + 1) M3 _ _ _ _ (by omega) (by omega) (by omega) hM13 hf2
        --go
        refine g_bipush (pc := 39) G dX4_counts_39 rfl ?_
        refine g_iload_n (pc := 41) G dX4_counts_41 rfl ?_
        refine g_imul (pc := 42) G dX4_counts_42 ?_
        refine g_aload_n (pc := 43) G dX4_counts_43 rfl ?_
        refine g_getR (pc := 44) G hinX4 oModel rfl 13 (by decide) f47 rfl rfl dX4_counts_44 ?_
        refine g_bipush (pc := 47) G dX4_counts_47 rfl ?_
        refine g_iload_n (pc := 49) G dX4_counts_49 rfl ?_
        refine g_imul (pc := 50) G dX4_counts_50 ?_
        refine g_iload (pc := 51) G dX4_counts_51 rfl ?_
        refine g_iadd (pc := 53) G dX4_counts_53 ?_
        refine g_iald (pc := 54) G rRow (by omega) dX4_counts_54 ?_
        refine g_top (ld ((rX_of hX (fun k h1 h2 => hM1 k (by omega))).2.1 p hp0 (by omega))) ?_
        refine g_iadd (pc := 55) G dX4_counts_55 ?_
        refine g_istore (pc := 56) (lv' := [_, _, _, _, _, _, _, _, _]) G dX4_counts_56 (by decide) rfl ?_
        refine g_aload_n (pc := 58) G dX4_counts_58 rfl ?_
        refine g_getR (pc := 59) G hinX4 oModel rfl 5 (by decide) f22 rfl rfl dX4_counts_59 ?_
        refine g_iload (pc := 62) G dX4_counts_62 rfl ?_
        refine g_iald (pc := 64) G rLeft (by omega) dX4_counts_64 ?_
        refine g_top (ld (rTt_left (rT_of hT (fun k h1 h2 => hM1 k (by omega))) hoc)) ?_
        refine g_istore (pc := 65) (lv' := [_, _, _, _, _, _, _, _, _]) G dX4_counts_65 (by decide) rfl ?_
        refine g_aload_n (pc := 67) G dX4_counts_67 rfl ?_
        refine g_getR (pc := 68) G hinX4 oModel rfl 6 (by decide) f25 rfl rfl dX4_counts_68 ?_
        refine g_iload (pc := 71) G dX4_counts_71 rfl ?_
        refine g_iald (pc := 73) G rRight (by omega) dX4_counts_73 ?_
        refine g_top (ld (rTt_right (rT_of hT (fun k h1 h2 => hM1 k (by omega))) hoc)) ?_
        refine g_istore (pc := 74) (lv' := [_, _, _, _, _, _, _, _, _]) G dX4_counts_74 (by decide) rfl ?_
        refine g_iload (pc := 76) G dX4_counts_76 rfl ?_
        refine g_iconst (pc := 78) G dX4_counts_78 ?_
        refine g_icmp_eq (pc := 79) G (by omega) (by omega) 106 dX4_counts_79 (by decide) (fun h79 => ?_) (fun h79 => ?_)
        · -- 79 t
          have hf1 := ah_l hn12 hx0 hp0 hp1' hfm (F1 := M1 24) (Or.inl ⟨by rw [h79, pl_beg], rfl⟩)
          --go
          exact half M1 hM1 hf1
        · -- 79 f
          have hpl : 0 ≤ aPl X (aLeft T (X 1 p)) ∧ aPl X (aLeft T (X 1 p)) < X 0 0 := by
            rcases hpx.2.2.2.1 with w | w | ⟨w0, w1, w2⟩
            · exact absurd w h79
            · omega
            · have h9 := cp_has hI.1 w0 w1 w2; rw [pl_char w0 w1]; exact ⟨h9.2.1, h9.2.2.1⟩
          --go
          refine g_aload_n (pc := 82) G dX4_counts_82 rfl ?_
          refine g_getR (pc := 83) G hinX4 oModel rfl 27 (by decide) f80 rfl rfl dX4_counts_83 ?_
          refine g_iload (pc := 86) G dX4_counts_86 rfl ?_
          refine g_aload_n (pc := 88) G dX4_counts_88 rfl ?_
          refine g_getR (pc := 89) G hinX4 oModel rfl 27 (by decide) f80 rfl rfl dX4_counts_89 ?_
          refine g_iload (pc := 92) G dX4_counts_92 rfl ?_
          refine g_iald (pc := 94) G rAhead (by omega) dX4_counts_94 ?_
          refine g_iconst (pc := 95) G dX4_counts_95 ?_
          refine g_aload_n (pc := 96) G dX4_counts_96 rfl ?_
          refine g_iload_n (pc := 97) G dX4_counts_97 rfl ?_
          refine g_iload (pc := 98) G dX4_counts_98 rfl ?_
          refine g_call (pc := 100) (n := 2) (As := [_, _]) G (kX4_place hD i hi0 hi1 (aLeft T (X 1 p)) M1 L T X lt (rX_of hX (fun k h1 h2 => hM1 k (by omega))) hI hpx.2.2.2.1) gX4_counts_X4_place oModel rfl rfl hdX4_place rfl rfl ⟨Nat.le_of_ble_eq_true rfl, Nat.le_of_ble_eq_true rfl⟩ rfl rfl (Nat.le_of_ble_eq_true rfl) dX4_counts_100 ?_
          rintro _ _ _ ⟨rfl, rfl, rfl⟩
          refine g_ishl (pc := 103) G dX4_counts_103 ?_
          refine g_ior (pc := 104) G dX4_counts_104 ?_
          refine g_iast (pc := 105) G rAhead (by omega) dX4_counts_105 ?_
          refine g_mem (fun M2 L2 hM2 hL2 => ?_)
          obtain rfl : L = L2 := hL2.symm
          have hf1 := ah_l hn12 hx0 hp0 hp1' hfm (F1 := M2 24) (Or.inr ⟨hpl, fun z => by rw [hM2, sjU_s, iI_of]; rfl⟩)
          have hM12 : ∀ k, k ≠ 24 → M2 k = M k := fun k hk => by rw [hM2, sjU_o hk]; exact hM1 k hk
          clear hM2
          exact half M2 hM12 hf1
  have loop1 : ∀ (f : Nat) (p : Int) (M1 : sjM), 0 ≤ p → p ≤ (n : Int) → ((n : Int) - p).toNat < f → (∀ k, k ≠ 24 → M1 k = M k) → (∀ z, 0 ≤ z → z < p → M1 24 z = iI 0) → J 10 M1 L [some (.ref (ad 0)), some (.int (iI i)), some (.int (iI t)), some (.int (iI (n : Int))), some (.int (iI p)), none, none, none, none] [] := by
    intro f
    induction f with
    | zero => intro p M1 _ _ h; omega
    | succ f ih =>
      intro p M1 hp0 hp1 hf hM1 h0
      refine g_iload (pc := 10) G dX4_counts_10 rfl ?_
      refine g_iload_n (pc := 12) G dX4_counts_12 rfl ?_
      refine g_icmp_ge (pc := 13) G (by omega) (by omega) 30 dX4_counts_13 (by decide) (fun h13 => ?_) (fun h13 => ?_)
      · -- 13 t
        refine g_iconst (pc := 30) G dX4_counts_30 ?_
        refine g_istore (pc := 31) (lv' := [_, _, _, _, _, _, _, _, _]) G dX4_counts_31 (by decide) rfl ?_
        exact loop2 _ 0 M1 _ _ _ _ (by omega) (by omega) (Nat.lt_succ_self _) hM1 (fm_0 (fun x hx => h0 (x : Int) (by omega) (by omega)) (fun b a w => by rcases w.2.2 with v | v <;> omega))
      · -- 13 f
        refine g_aload_n (pc := 16) G dX4_counts_16 rfl ?_
        refine g_getR (pc := 17) G hinX4 oModel rfl 27 (by decide) f80 rfl rfl dX4_counts_17 ?_
        refine g_iload (pc := 20) G dX4_counts_20 rfl ?_
        refine g_iconst (pc := 22) G dX4_counts_22 ?_
        refine g_iast (pc := 23) G rAhead (by omega) dX4_counts_23 ?_
        refine g_mem (fun M2 L2 hM2 hL2 => ?_)
        obtain rfl : L = L2 := hL2.symm
        have hM2o : ∀ k, k ≠ 24 → M2 k = M k := fun k hk => by rw [hM2, sjU_o hk]; exact hM1 k hk
        have h24 : ∀ z, 0 ≤ z → z < p + 1 → M2 24 z = iI 0 := by
          intro z z0 z1
          rw [hM2, sjU_s]
          by_cases hz : z = p
          · rw [if_pos hz]
          · rw [if_neg hz]; exact h0 z z0 (by omega)
        clear hM2
        refine g_iinc (pc := 24) (lv' := [_, _, _, _, _, _, _, _, _]) G dX4_counts_24 (by decide) rfl rfl ?_
        refine g_goto (pc := 27) G 10 dX4_counts_27 (by decide) ?_
        exact ih (p + 1) M2 (by omega) (by omega) (by omega) hM2o h24
  refine g_aload_n (pc := 0) G dX4_counts_0 rfl ?_
  refine g_getR (pc := 1) G hinX4 oModel rfl 14 (by decide) f50 rfl rfl dX4_counts_1 ?_
  refine g_iload_n (pc := 4) G dX4_counts_4 rfl ?_
  refine g_iald (pc := 5) G rMany (by omega) dX4_counts_5 ?_
  refine g_top (ld (hX.1.trans (congrArg iI hx0))) ?_
  refine g_istore_n (pc := 6) (lv' := [_, _, _, _, _, _, _, _, _]) G dX4_counts_6 (by decide) rfl ?_
  refine g_iconst (pc := 7) G dX4_counts_7 ?_
  refine g_istore (pc := 8) (lv' := [_, _, _, _, _, _, _, _, _]) G dX4_counts_8 (by decide) rfl ?_
  exact loop1 _ 0 M (by omega) (by omega) (Nat.lt_succ_self _) (fun _ _ => rfl) (fun z z0 z1 => by omega)
