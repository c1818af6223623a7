set_option maxHeartbeats 8000000 in
set_option maxRecDepth 100000 in
/-- the law's loop: at its head both sides are alike -/
theorem law_loop {J : Nat → sjM → sjL → sjM → sjL → List (Option Value) → List Value → Prop} {l : Launch} {D : va_G} {cI cZ cJ cT cC : ClassId} {a1 a2 : Nat → Nat} {b N : Nat} {xs : Nat → Int32} (G : bjG J l D cI cZ cJ cT cC a1 a2 b N xs) (hN : N ≤ 2560) : ∀ (f : Nat) (i : Int) (MC : sjM) (LC : sjL) (MR : sjM) (LR : sjL), 0 ≤ i → i ≤ (N : Int) + 5 → ((N : Int) + 5 - i).toNat < f → RR MC MR → J 18 MC LC MR LR [some (.ref b), some (.ref (a1 0)), some (.ref (a2 0)), some (.int (iI i))] [] := by
  intro f
  induction f with
  | zero => intro i MC LC MR LR _ _ h; omega
  | succ f ih =>
    intro i MC LC MR LR hi0 hi1 hf hRR
    refine h_iload_n (pc := 18) G dL_law_18 rfl ?_
    refine h_aload_n (pc := 19) G dL_law_19 rfl ?_
    refine h_slen (pc := 20) G dL_law_20 ?_
    refine h_iconst (pc := 21) G dL_law_21 ?_
    refine h_isub (pc := 22) G dL_law_22 ?_
    refine h_icmp_gt (pc := 23) G (by omega) (by omega) 710 dL_law_23 (by decide) (fun h23 => ?_) (fun h23 => ?_)
    · refine h_iconst (pc := 710) G dL_law_710 ?_
      exact h_ret G dL_law_711
    · refine h_aload_n (pc := 26) G dL_law_26 rfl ?_
      refine h_iload_n (pc := 27) G dL_law_27 rfl ?_
      refine h_sld (pc := 28) G ⟨by omega, by omega⟩ hN dL_law_28 ?_
      refine h_bipush (pc := 29) G dL_law_29 rfl ?_
      refine h_iand (pc := 31) G dL_law_31 ?_
      refine h_top (iI_of _).symm ?_
      obtain ⟨w, hw⟩ : ∃ w : Int, w = (iI (xs i.toNat).toInt &&& iI 15).toInt := ⟨_, rfl⟩
      rw [← hw]
      have hrw : rng w := by rw [hw]; exact rg _
      clear hw
      obtain ⟨lts, hg, hA, ho⟩ := id hRR
      obtain ⟨x1, hx1⟩ : ∃ x : Int, x = (xs (i + 1).toNat).toInt := ⟨_, rfl⟩
      have rx1 : rng x1 := by rw [hx1]; exact rg _
      obtain ⟨x2, hx2⟩ : ∃ x : Int, x = (xs (i + 2).toNat).toInt := ⟨_, rfl⟩
      have rx2 : rng x2 := by rw [hx2]; exact rg _
      obtain ⟨x3, hx3⟩ : ∃ x : Int, x = (xs (i + 3).toNat).toInt := ⟨_, rfl⟩
      have rx3 : rng x3 := by rw [hx3]; exact rg _
      obtain ⟨x4, hx4⟩ : ∃ x : Int, x = (xs (i + 4).toNat).toInt := ⟨_, rfl⟩
      have rx4 : rng x4 := by rw [hx4]; exact rg _
      rcases (show w = 0 ∨ w = 1 ∨ w = 2 ∨ w = 3 ∨ w = 4 ∨ w = 5 ∨ w = 6 ∨ w = 7 ∨ w = 8 ∨ w = 9 ∨ w = 10 ∨ w = 11 ∨ w = 12 ∨ w = 13 ∨ (w < 0 ∨ 13 < w) by omega) with rfl | rfl | rfl | rfl | rfl | rfl | rfl | rfl | rfl | rfl | rfl | rfl | rfl | rfl | hsw
      · refine h_tabIn (pc := 32) G ⟨by decide, by decide⟩ 104 dL_law_32 (by decide) (by decide) rfl (by decide) ?_
        refine h_aload_n (pc := 104) G dL_law_104 rfl ?_
        refine h_aload_n (pc := 105) G dL_law_105 rfl ?_
        refine h_iload_n (pc := 106) G dL_law_106 rfl ?_
        refine h_iconst (pc := 107) G dL_law_107 ?_
        refine h_iadd (pc := 108) G dL_law_108 ?_
        refine h_sld (pc := 109) G ⟨by omega, by omega⟩ hN dL_law_109 ?_
        refine h_top (show iI (xs (i + 1).toNat).toInt = iI x1 by rw [← hx1]) ?_
        refine h_aload_n (pc := 110) G dL_law_110 rfl ?_
        refine h_iload_n (pc := 111) G dL_law_111 rfl ?_
        refine h_iconst (pc := 112) G dL_law_112 ?_
        refine h_iadd (pc := 113) G dL_law_113 ?_
        refine h_sld (pc := 114) G ⟨by omega, by omega⟩ hN dL_law_114 ?_
        refine h_top (show iI (xs (i + 2).toNat).toInt = iI x2 by rw [← hx2]) ?_
        refine h_aload_n (pc := 115) G dL_law_115 rfl ?_
        refine h_iload_n (pc := 116) G dL_law_116 rfl ?_
        refine h_iconst (pc := 117) G dL_law_117 ?_
        refine h_iadd (pc := 118) G dL_law_118 ?_
        refine h_sld (pc := 119) G ⟨by omega, by omega⟩ hN dL_law_119 ?_
        refine h_top (show iI (xs (i + 3).toNat).toInt = iI x3 by rw [← hx3]) ?_
        refine h_aload_n (pc := 120) G dL_law_120 rfl ?_
        refine h_iload_n (pc := 121) G dL_law_121 rfl ?_
        refine h_iconst (pc := 122) G dL_law_122 ?_
        refine h_iadd (pc := 123) G dL_law_123 ?_
        refine h_sld (pc := 124) G ⟨by omega, by omega⟩ hN dL_law_124 ?_
        refine h_top (show iI (xs (i + 4).toNat).toInt = iI x4 by rw [← hx4]) ?_
        refine h_callC (pc := 125) (n := 4) (As := [_, _, _, _]) G (fun hD => kX3_insert hD x1 x2 x3 x4 rx1 rx2 rx3 rx4 MC LC (ins_hI hg) (ins_hd hg)) gL_law_X3_insert rfl hdX3_insert rfl rfl ⟨Nat.le_of_ble_eq_true rfl, Nat.le_of_ble_eq_true rfl⟩ rfl rfl (Nat.le_of_ble_eq_true rfl) dL_law_125 ?_
        rintro v1 M1 L1 ⟨_, hC⟩
        obtain ⟨r1, hr1⟩ : ∃ r : Int32, v1 = some (.int r) := by
          rcases hC with ⟨_, _, _, _, h⟩ | ⟨_, _, h⟩
          · exact ⟨_, h⟩
          · exact ⟨_, h⟩
        subst hr1
        refine h_aload_n (pc := 128) G dL_law_128 rfl ?_
        refine h_aload_n (pc := 129) G dL_law_129 rfl ?_
        refine h_iload_n (pc := 130) G dL_law_130 rfl ?_
        refine h_iconst (pc := 131) G dL_law_131 ?_
        refine h_iadd (pc := 132) G dL_law_132 ?_
        refine h_sld (pc := 133) G ⟨by omega, by omega⟩ hN dL_law_133 ?_
        refine h_top (show iI (xs (i + 1).toNat).toInt = iI x1 by rw [← hx1]) ?_
        refine h_aload_n (pc := 134) G dL_law_134 rfl ?_
        refine h_iload_n (pc := 135) G dL_law_135 rfl ?_
        refine h_iconst (pc := 136) G dL_law_136 ?_
        refine h_iadd (pc := 137) G dL_law_137 ?_
        refine h_sld (pc := 138) G ⟨by omega, by omega⟩ hN dL_law_138 ?_
        refine h_top (show iI (xs (i + 2).toNat).toInt = iI x2 by rw [← hx2]) ?_
        refine h_aload_n (pc := 139) G dL_law_139 rfl ?_
        refine h_iload_n (pc := 140) G dL_law_140 rfl ?_
        refine h_iconst (pc := 141) G dL_law_141 ?_
        refine h_iadd (pc := 142) G dL_law_142 ?_
        refine h_sld (pc := 143) G ⟨by omega, by omega⟩ hN dL_law_143 ?_
        refine h_top (show iI (xs (i + 3).toNat).toInt = iI x3 by rw [← hx3]) ?_
        refine h_aload_n (pc := 144) G dL_law_144 rfl ?_
        refine h_iload_n (pc := 145) G dL_law_145 rfl ?_
        refine h_iconst (pc := 146) G dL_law_146 ?_
        refine h_iadd (pc := 147) G dL_law_147 ?_
        refine h_sld (pc := 148) G ⟨by omega, by omega⟩ hN dL_law_148 ?_
        refine h_top (show iI (xs (i + 4).toNat).toInt = iI x4 by rw [← hx4]) ?_
        refine h_callR (pc := 149) (n := 4) (As := [_, _, _, _]) G (fun hD => kX4_insert hD x1 x2 x3 x4 rx1 rx2 rx3 rx4 MR LR (tF MC) (xF MC) lts hA hg) gL_law_X4_insert rfl hdX4_insert rfl rfl ⟨Nat.le_of_ble_eq_true rfl, Nat.le_of_ble_eq_true rfl⟩ rfl rfl (Nat.le_of_ble_eq_true rfl) dL_law_149 ?_
        rintro v2 M2 L2 ⟨_, hk, hR⟩
        obtain ⟨hv, hRR2⟩ := st_insert hg ho hC hk hR
        subst hv
        refine h_same (pc := 152) G 704 dL_law_152 (by decide) ?_
        refine h_iinc (pc := 704) (lv' := [_, _, _, _]) G dL_law_704 (by decide) rfl rfl ?_
        refine h_goto (pc := 707) G 18 dL_law_707 (by decide) ?_
        exact ih (i + 5) _ _ _ _ (by omega) (by omega) (by omega) hRR2
      · refine h_tabIn (pc := 32) G ⟨by decide, by decide⟩ 157 dL_law_32 (by decide) (by decide) rfl (by decide) ?_
        refine h_aload_n (pc := 157) G dL_law_157 rfl ?_
        refine h_aload_n (pc := 158) G dL_law_158 rfl ?_
        refine h_iload_n (pc := 159) G dL_law_159 rfl ?_
        refine h_iconst (pc := 160) G dL_law_160 ?_
        refine h_iadd (pc := 161) G dL_law_161 ?_
        refine h_sld (pc := 162) G ⟨by omega, by omega⟩ hN dL_law_162 ?_
        refine h_top (show iI (xs (i + 1).toNat).toInt = iI x1 by rw [← hx1]) ?_
        refine h_aload_n (pc := 163) G dL_law_163 rfl ?_
        refine h_iload_n (pc := 164) G dL_law_164 rfl ?_
        refine h_iconst (pc := 165) G dL_law_165 ?_
        refine h_iadd (pc := 166) G dL_law_166 ?_
        refine h_sld (pc := 167) G ⟨by omega, by omega⟩ hN dL_law_167 ?_
        refine h_top (show iI (xs (i + 2).toNat).toInt = iI x2 by rw [← hx2]) ?_
        refine h_aload_n (pc := 168) G dL_law_168 rfl ?_
        refine h_iload_n (pc := 169) G dL_law_169 rfl ?_
        refine h_iconst (pc := 170) G dL_law_170 ?_
        refine h_iadd (pc := 171) G dL_law_171 ?_
        refine h_sld (pc := 172) G ⟨by omega, by omega⟩ hN dL_law_172 ?_
        refine h_top (show iI (xs (i + 3).toNat).toInt = iI x3 by rw [← hx3]) ?_
        refine h_callC (pc := 173) (n := 3) (As := [_, _, _]) G (fun hD => kX3_erase hD x1 x2 x3 rx1 rx2 rx3 MC LC (ers_hI hg) (ers_hd hg)) gL_law_X3_erase rfl hdX3_erase rfl rfl ⟨Nat.le_of_ble_eq_true rfl, Nat.le_of_ble_eq_true rfl⟩ rfl rfl (Nat.le_of_ble_eq_true rfl) dL_law_173 ?_
        rintro v1 M1 L1 ⟨_, hC⟩
        obtain ⟨r1, hr1⟩ : ∃ r : Int32, v1 = some (.int r) := by
          rcases hC with ⟨_, _, _, _, h⟩ | ⟨_, _, h⟩
          · exact ⟨_, h⟩
          · exact ⟨_, h⟩
        subst hr1
        refine h_aload_n (pc := 176) G dL_law_176 rfl ?_
        refine h_aload_n (pc := 177) G dL_law_177 rfl ?_
        refine h_iload_n (pc := 178) G dL_law_178 rfl ?_
        refine h_iconst (pc := 179) G dL_law_179 ?_
        refine h_iadd (pc := 180) G dL_law_180 ?_
        refine h_sld (pc := 181) G ⟨by omega, by omega⟩ hN dL_law_181 ?_
        refine h_top (show iI (xs (i + 1).toNat).toInt = iI x1 by rw [← hx1]) ?_
        refine h_aload_n (pc := 182) G dL_law_182 rfl ?_
        refine h_iload_n (pc := 183) G dL_law_183 rfl ?_
        refine h_iconst (pc := 184) G dL_law_184 ?_
        refine h_iadd (pc := 185) G dL_law_185 ?_
        refine h_sld (pc := 186) G ⟨by omega, by omega⟩ hN dL_law_186 ?_
        refine h_top (show iI (xs (i + 2).toNat).toInt = iI x2 by rw [← hx2]) ?_
        refine h_aload_n (pc := 187) G dL_law_187 rfl ?_
        refine h_iload_n (pc := 188) G dL_law_188 rfl ?_
        refine h_iconst (pc := 189) G dL_law_189 ?_
        refine h_iadd (pc := 190) G dL_law_190 ?_
        refine h_sld (pc := 191) G ⟨by omega, by omega⟩ hN dL_law_191 ?_
        refine h_top (show iI (xs (i + 3).toNat).toInt = iI x3 by rw [← hx3]) ?_
        refine h_callR (pc := 192) (n := 3) (As := [_, _, _]) G (fun hD => kX4_erase hD x1 x2 x3 rx1 rx2 rx3 MR LR (tF MC) (xF MC) lts hA hg) gL_law_X4_erase rfl hdX4_erase rfl rfl ⟨Nat.le_of_ble_eq_true rfl, Nat.le_of_ble_eq_true rfl⟩ rfl rfl (Nat.le_of_ble_eq_true rfl) dL_law_192 ?_
        rintro v2 M2 L2 ⟨_, hk, hR⟩
        obtain ⟨hv, hRR2⟩ := st_erase hg ho hC hk hR
        subst hv
        refine h_same (pc := 195) G 704 dL_law_195 (by decide) ?_
        refine h_iinc (pc := 704) (lv' := [_, _, _, _]) G dL_law_704 (by decide) rfl rfl ?_
        refine h_goto (pc := 707) G 18 dL_law_707 (by decide) ?_
        exact ih (i + 5) _ _ _ _ (by omega) (by omega) (by omega) hRR2
      · refine h_tabIn (pc := 32) G ⟨by decide, by decide⟩ 200 dL_law_32 (by decide) (by decide) rfl (by decide) ?_
        refine h_aload_n (pc := 200) G dL_law_200 rfl ?_
        refine h_aload_n (pc := 201) G dL_law_201 rfl ?_
        refine h_iload_n (pc := 202) G dL_law_202 rfl ?_
        refine h_iconst (pc := 203) G dL_law_203 ?_
        refine h_iadd (pc := 204) G dL_law_204 ?_
        refine h_sld (pc := 205) G ⟨by omega, by omega⟩ hN dL_law_205 ?_
        refine h_top (show iI (xs (i + 1).toNat).toInt = iI x1 by rw [← hx1]) ?_
        refine h_aload_n (pc := 206) G dL_law_206 rfl ?_
        refine h_iload_n (pc := 207) G dL_law_207 rfl ?_
        refine h_iconst (pc := 208) G dL_law_208 ?_
        refine h_iadd (pc := 209) G dL_law_209 ?_
        refine h_sld (pc := 210) G ⟨by omega, by omega⟩ hN dL_law_210 ?_
        refine h_top (show iI (xs (i + 2).toNat).toInt = iI x2 by rw [← hx2]) ?_
        refine h_aload_n (pc := 211) G dL_law_211 rfl ?_
        refine h_iload_n (pc := 212) G dL_law_212 rfl ?_
        refine h_iconst (pc := 213) G dL_law_213 ?_
        refine h_iadd (pc := 214) G dL_law_214 ?_
        refine h_sld (pc := 215) G ⟨by omega, by omega⟩ hN dL_law_215 ?_
        refine h_top (show iI (xs (i + 3).toNat).toInt = iI x3 by rw [← hx3]) ?_
        refine h_callC (pc := 216) (n := 3) (As := [_, _, _]) G (fun hD => kX3_tell hD x1 x2 x3 rx1 rx2 rx3 MC LC _ (pInv_of hg)) gL_law_X3_tell rfl hdX3_tell rfl rfl ⟨Nat.le_of_ble_eq_true rfl, Nat.le_of_ble_eq_true rfl⟩ rfl rfl (Nat.le_of_ble_eq_true rfl) dL_law_216 ?_
        rintro v1 M1 L1 ⟨_, hC⟩
        obtain ⟨r1, hr1⟩ : ∃ r : Int32, v1 = some (.int r) := by
          rcases hC with ⟨_, _, _, _, h⟩ | ⟨_, _, h⟩
          · exact ⟨_, h⟩
          · exact ⟨_, h⟩
        subst hr1
        refine h_aload_n (pc := 219) G dL_law_219 rfl ?_
        refine h_aload_n (pc := 220) G dL_law_220 rfl ?_
        refine h_iload_n (pc := 221) G dL_law_221 rfl ?_
        refine h_iconst (pc := 222) G dL_law_222 ?_
        refine h_iadd (pc := 223) G dL_law_223 ?_
        refine h_sld (pc := 224) G ⟨by omega, by omega⟩ hN dL_law_224 ?_
        refine h_top (show iI (xs (i + 1).toNat).toInt = iI x1 by rw [← hx1]) ?_
        refine h_aload_n (pc := 225) G dL_law_225 rfl ?_
        refine h_iload_n (pc := 226) G dL_law_226 rfl ?_
        refine h_iconst (pc := 227) G dL_law_227 ?_
        refine h_iadd (pc := 228) G dL_law_228 ?_
        refine h_sld (pc := 229) G ⟨by omega, by omega⟩ hN dL_law_229 ?_
        refine h_top (show iI (xs (i + 2).toNat).toInt = iI x2 by rw [← hx2]) ?_
        refine h_aload_n (pc := 230) G dL_law_230 rfl ?_
        refine h_iload_n (pc := 231) G dL_law_231 rfl ?_
        refine h_iconst (pc := 232) G dL_law_232 ?_
        refine h_iadd (pc := 233) G dL_law_233 ?_
        refine h_sld (pc := 234) G ⟨by omega, by omega⟩ hN dL_law_234 ?_
        refine h_top (show iI (xs (i + 3).toNat).toInt = iI x3 by rw [← hx3]) ?_
        refine h_callR (pc := 235) (n := 3) (As := [_, _, _]) G (fun hD => kX4_tell hD x1 x2 x3 rx1 rx2 rx3 MR LR (tF MC) (xF MC) lts hA hg) gL_law_X4_tell rfl hdX4_tell rfl rfl ⟨Nat.le_of_ble_eq_true rfl, Nat.le_of_ble_eq_true rfl⟩ rfl rfl (Nat.le_of_ble_eq_true rfl) dL_law_235 ?_
        rintro v2 M2 L2 ⟨_, hk, hR⟩
        obtain ⟨hv, hRR2⟩ := st_tell hg ho hC hk hR
        subst hv
        refine h_same (pc := 238) G 704 dL_law_238 (by decide) ?_
        refine h_iinc (pc := 704) (lv' := [_, _, _, _]) G dL_law_704 (by decide) rfl rfl ?_
        refine h_goto (pc := 707) G 18 dL_law_707 (by decide) ?_
        exact ih (i + 5) _ _ _ _ (by omega) (by omega) (by omega) hRR2
      · refine h_tabIn (pc := 32) G ⟨by decide, by decide⟩ 243 dL_law_32 (by decide) (by decide) rfl (by decide) ?_
        by_cases hdn : x4 = 0
        · obtain ⟨dn, hdd⟩ : ∃ dn : Int, dn = 0 := ⟨_, rfl⟩
          have rdn : rng dn := by omega
          refine h_aload_n (pc := 243) G dL_law_243 rfl ?_
          refine h_aload_n (pc := 244) G dL_law_244 rfl ?_
          refine h_iload_n (pc := 245) G dL_law_245 rfl ?_
          refine h_iconst (pc := 246) G dL_law_246 ?_
          refine h_iadd (pc := 247) G dL_law_247 ?_
          refine h_sld (pc := 248) G ⟨by omega, by omega⟩ hN dL_law_248 ?_
          refine h_top (show iI (xs (i + 1).toNat).toInt = iI x1 by rw [← hx1]) ?_
          refine h_aload_n (pc := 249) G dL_law_249 rfl ?_
          refine h_iload_n (pc := 250) G dL_law_250 rfl ?_
          refine h_iconst (pc := 251) G dL_law_251 ?_
          refine h_iadd (pc := 252) G dL_law_252 ?_
          refine h_sld (pc := 253) G ⟨by omega, by omega⟩ hN dL_law_253 ?_
          refine h_top (show iI (xs (i + 2).toNat).toInt = iI x2 by rw [← hx2]) ?_
          refine h_aload_n (pc := 254) G dL_law_254 rfl ?_
          refine h_iload_n (pc := 255) G dL_law_255 rfl ?_
          refine h_iconst (pc := 256) G dL_law_256 ?_
          refine h_iadd (pc := 257) G dL_law_257 ?_
          refine h_sld (pc := 258) G ⟨by omega, by omega⟩ hN dL_law_258 ?_
          refine h_top (show iI (xs (i + 3).toNat).toInt = iI x3 by rw [← hx3]) ?_
          refine h_aload_n (pc := 259) G dL_law_259 rfl ?_
          refine h_iload_n (pc := 260) G dL_law_260 rfl ?_
          refine h_iconst (pc := 261) G dL_law_261 ?_
          refine h_iadd (pc := 262) G dL_law_262 ?_
          refine h_sld (pc := 263) G ⟨by omega, by omega⟩ hN dL_law_263 ?_
          refine h_top (show iI (xs (i + 4).toNat).toInt = iI x4 by rw [← hx4]) ?_
          refine h_if_eq (pc := 264) G (by omega) 271 dL_law_264 (by decide) (fun _ => ?_) (fun h => absurd hdn h)
          refine h_iconst (pc := 271) G dL_law_271 ?_
          refine h_top (show iI 0 = iI dn by rw [hdd]) ?_
          refine h_callC (pc := 272) (n := 4) (As := [_, _, _, _]) G (fun hD => kX3_share hD x1 x2 x3 dn rx1 rx2 rx3 rdn MC LC _ (pInv_of hg)) gL_law_X3_share rfl hdX3_share rfl rfl ⟨Nat.le_of_ble_eq_true rfl, Nat.le_of_ble_eq_true rfl⟩ rfl rfl (Nat.le_of_ble_eq_true rfl) dL_law_272 ?_
          rintro v1 M1 L1 ⟨_, hC⟩
          obtain ⟨r1, hr1⟩ : ∃ r : Int32, v1 = some (.int r) := by
            rcases hC with ⟨_, _, _, _, h⟩ | ⟨_, _, h⟩
            · exact ⟨_, h⟩
            · exact ⟨_, h⟩
          subst hr1
          refine h_aload_n (pc := 275) G dL_law_275 rfl ?_
          refine h_aload_n (pc := 276) G dL_law_276 rfl ?_
          refine h_iload_n (pc := 277) G dL_law_277 rfl ?_
          refine h_iconst (pc := 278) G dL_law_278 ?_
          refine h_iadd (pc := 279) G dL_law_279 ?_
          refine h_sld (pc := 280) G ⟨by omega, by omega⟩ hN dL_law_280 ?_
          refine h_top (show iI (xs (i + 1).toNat).toInt = iI x1 by rw [← hx1]) ?_
          refine h_aload_n (pc := 281) G dL_law_281 rfl ?_
          refine h_iload_n (pc := 282) G dL_law_282 rfl ?_
          refine h_iconst (pc := 283) G dL_law_283 ?_
          refine h_iadd (pc := 284) G dL_law_284 ?_
          refine h_sld (pc := 285) G ⟨by omega, by omega⟩ hN dL_law_285 ?_
          refine h_top (show iI (xs (i + 2).toNat).toInt = iI x2 by rw [← hx2]) ?_
          refine h_aload_n (pc := 286) G dL_law_286 rfl ?_
          refine h_iload_n (pc := 287) G dL_law_287 rfl ?_
          refine h_iconst (pc := 288) G dL_law_288 ?_
          refine h_iadd (pc := 289) G dL_law_289 ?_
          refine h_sld (pc := 290) G ⟨by omega, by omega⟩ hN dL_law_290 ?_
          refine h_top (show iI (xs (i + 3).toNat).toInt = iI x3 by rw [← hx3]) ?_
          refine h_aload_n (pc := 291) G dL_law_291 rfl ?_
          refine h_iload_n (pc := 292) G dL_law_292 rfl ?_
          refine h_iconst (pc := 293) G dL_law_293 ?_
          refine h_iadd (pc := 294) G dL_law_294 ?_
          refine h_sld (pc := 295) G ⟨by omega, by omega⟩ hN dL_law_295 ?_
          refine h_top (show iI (xs (i + 4).toNat).toInt = iI x4 by rw [← hx4]) ?_
          refine h_if_eq (pc := 296) G (by omega) 303 dL_law_296 (by decide) (fun _ => ?_) (fun h => absurd hdn h)
          refine h_iconst (pc := 303) G dL_law_303 ?_
          refine h_top (show iI 0 = iI dn by rw [hdd]) ?_
          refine h_callR (pc := 304) (n := 4) (As := [_, _, _, _]) G (fun hD => kX4_share hD x1 x2 x3 dn rx1 rx2 rx3 rdn MR LR (tF MC) (xF MC) lts hA hg) gL_law_X4_share rfl hdX4_share rfl rfl ⟨Nat.le_of_ble_eq_true rfl, Nat.le_of_ble_eq_true rfl⟩ rfl rfl (Nat.le_of_ble_eq_true rfl) dL_law_304 ?_
          rintro v2 M2 L2 ⟨_, hk, hR⟩
          obtain ⟨hv, hRR2⟩ := st_share hg ho hC hk hR
          subst hv
          refine h_same (pc := 307) G 704 dL_law_307 (by decide) ?_
          refine h_iinc (pc := 704) (lv' := [_, _, _, _]) G dL_law_704 (by decide) rfl rfl ?_
          refine h_goto (pc := 707) G 18 dL_law_707 (by decide) ?_
          exact ih (i + 5) _ _ _ _ (by omega) (by omega) (by omega) hRR2
        · obtain ⟨dn, hdd⟩ : ∃ dn : Int, dn = 1 := ⟨_, rfl⟩
          have rdn : rng dn := by omega
          refine h_aload_n (pc := 243) G dL_law_243 rfl ?_
          refine h_aload_n (pc := 244) G dL_law_244 rfl ?_
          refine h_iload_n (pc := 245) G dL_law_245 rfl ?_
          refine h_iconst (pc := 246) G dL_law_246 ?_
          refine h_iadd (pc := 247) G dL_law_247 ?_
          refine h_sld (pc := 248) G ⟨by omega, by omega⟩ hN dL_law_248 ?_
          refine h_top (show iI (xs (i + 1).toNat).toInt = iI x1 by rw [← hx1]) ?_
          refine h_aload_n (pc := 249) G dL_law_249 rfl ?_
          refine h_iload_n (pc := 250) G dL_law_250 rfl ?_
          refine h_iconst (pc := 251) G dL_law_251 ?_
          refine h_iadd (pc := 252) G dL_law_252 ?_
          refine h_sld (pc := 253) G ⟨by omega, by omega⟩ hN dL_law_253 ?_
          refine h_top (show iI (xs (i + 2).toNat).toInt = iI x2 by rw [← hx2]) ?_
          refine h_aload_n (pc := 254) G dL_law_254 rfl ?_
          refine h_iload_n (pc := 255) G dL_law_255 rfl ?_
          refine h_iconst (pc := 256) G dL_law_256 ?_
          refine h_iadd (pc := 257) G dL_law_257 ?_
          refine h_sld (pc := 258) G ⟨by omega, by omega⟩ hN dL_law_258 ?_
          refine h_top (show iI (xs (i + 3).toNat).toInt = iI x3 by rw [← hx3]) ?_
          refine h_aload_n (pc := 259) G dL_law_259 rfl ?_
          refine h_iload_n (pc := 260) G dL_law_260 rfl ?_
          refine h_iconst (pc := 261) G dL_law_261 ?_
          refine h_iadd (pc := 262) G dL_law_262 ?_
          refine h_sld (pc := 263) G ⟨by omega, by omega⟩ hN dL_law_263 ?_
          refine h_top (show iI (xs (i + 4).toNat).toInt = iI x4 by rw [← hx4]) ?_
          refine h_if_eq (pc := 264) G (by omega) 271 dL_law_264 (by decide) (fun h => absurd h hdn) (fun _ => ?_)
          refine h_iconst (pc := 267) G dL_law_267 ?_
          refine h_goto (pc := 268) G 272 dL_law_268 (by decide) ?_
          refine h_top (show iI 1 = iI dn by rw [hdd]) ?_
          refine h_callC (pc := 272) (n := 4) (As := [_, _, _, _]) G (fun hD => kX3_share hD x1 x2 x3 dn rx1 rx2 rx3 rdn MC LC _ (pInv_of hg)) gL_law_X3_share rfl hdX3_share rfl rfl ⟨Nat.le_of_ble_eq_true rfl, Nat.le_of_ble_eq_true rfl⟩ rfl rfl (Nat.le_of_ble_eq_true rfl) dL_law_272 ?_
          rintro v1 M1 L1 ⟨_, hC⟩
          obtain ⟨r1, hr1⟩ : ∃ r : Int32, v1 = some (.int r) := by
            rcases hC with ⟨_, _, _, _, h⟩ | ⟨_, _, h⟩
            · exact ⟨_, h⟩
            · exact ⟨_, h⟩
          subst hr1
          refine h_aload_n (pc := 275) G dL_law_275 rfl ?_
          refine h_aload_n (pc := 276) G dL_law_276 rfl ?_
          refine h_iload_n (pc := 277) G dL_law_277 rfl ?_
          refine h_iconst (pc := 278) G dL_law_278 ?_
          refine h_iadd (pc := 279) G dL_law_279 ?_
          refine h_sld (pc := 280) G ⟨by omega, by omega⟩ hN dL_law_280 ?_
          refine h_top (show iI (xs (i + 1).toNat).toInt = iI x1 by rw [← hx1]) ?_
          refine h_aload_n (pc := 281) G dL_law_281 rfl ?_
          refine h_iload_n (pc := 282) G dL_law_282 rfl ?_
          refine h_iconst (pc := 283) G dL_law_283 ?_
          refine h_iadd (pc := 284) G dL_law_284 ?_
          refine h_sld (pc := 285) G ⟨by omega, by omega⟩ hN dL_law_285 ?_
          refine h_top (show iI (xs (i + 2).toNat).toInt = iI x2 by rw [← hx2]) ?_
          refine h_aload_n (pc := 286) G dL_law_286 rfl ?_
          refine h_iload_n (pc := 287) G dL_law_287 rfl ?_
          refine h_iconst (pc := 288) G dL_law_288 ?_
          refine h_iadd (pc := 289) G dL_law_289 ?_
          refine h_sld (pc := 290) G ⟨by omega, by omega⟩ hN dL_law_290 ?_
          refine h_top (show iI (xs (i + 3).toNat).toInt = iI x3 by rw [← hx3]) ?_
          refine h_aload_n (pc := 291) G dL_law_291 rfl ?_
          refine h_iload_n (pc := 292) G dL_law_292 rfl ?_
          refine h_iconst (pc := 293) G dL_law_293 ?_
          refine h_iadd (pc := 294) G dL_law_294 ?_
          refine h_sld (pc := 295) G ⟨by omega, by omega⟩ hN dL_law_295 ?_
          refine h_top (show iI (xs (i + 4).toNat).toInt = iI x4 by rw [← hx4]) ?_
          refine h_if_eq (pc := 296) G (by omega) 303 dL_law_296 (by decide) (fun h => absurd h hdn) (fun _ => ?_)
          refine h_iconst (pc := 299) G dL_law_299 ?_
          refine h_goto (pc := 300) G 304 dL_law_300 (by decide) ?_
          refine h_top (show iI 1 = iI dn by rw [hdd]) ?_
          refine h_callR (pc := 304) (n := 4) (As := [_, _, _, _]) G (fun hD => kX4_share hD x1 x2 x3 dn rx1 rx2 rx3 rdn MR LR (tF MC) (xF MC) lts hA hg) gL_law_X4_share rfl hdX4_share rfl rfl ⟨Nat.le_of_ble_eq_true rfl, Nat.le_of_ble_eq_true rfl⟩ rfl rfl (Nat.le_of_ble_eq_true rfl) dL_law_304 ?_
          rintro v2 M2 L2 ⟨_, hk, hR⟩
          obtain ⟨hv, hRR2⟩ := st_share hg ho hC hk hR
          subst hv
          refine h_same (pc := 307) G 704 dL_law_307 (by decide) ?_
          refine h_iinc (pc := 704) (lv' := [_, _, _, _]) G dL_law_704 (by decide) rfl rfl ?_
          refine h_goto (pc := 707) G 18 dL_law_707 (by decide) ?_
          exact ih (i + 5) _ _ _ _ (by omega) (by omega) (by omega) hRR2
      · refine h_tabIn (pc := 32) G ⟨by decide, by decide⟩ 312 dL_law_32 (by decide) (by decide) rfl (by decide) ?_
        refine h_aload_n (pc := 312) G dL_law_312 rfl ?_
        refine h_aload_n (pc := 313) G dL_law_313 rfl ?_
        refine h_iload_n (pc := 314) G dL_law_314 rfl ?_
        refine h_iconst (pc := 315) G dL_law_315 ?_
        refine h_iadd (pc := 316) G dL_law_316 ?_
        refine h_sld (pc := 317) G ⟨by omega, by omega⟩ hN dL_law_317 ?_
        refine h_top (show iI (xs (i + 1).toNat).toInt = iI x1 by rw [← hx1]) ?_
        refine h_aload_n (pc := 318) G dL_law_318 rfl ?_
        refine h_iload_n (pc := 319) G dL_law_319 rfl ?_
        refine h_iconst (pc := 320) G dL_law_320 ?_
        refine h_iadd (pc := 321) G dL_law_321 ?_
        refine h_sld (pc := 322) G ⟨by omega, by omega⟩ hN dL_law_322 ?_
        refine h_top (show iI (xs (i + 2).toNat).toInt = iI x2 by rw [← hx2]) ?_
        refine h_aload_n (pc := 323) G dL_law_323 rfl ?_
        refine h_iload_n (pc := 324) G dL_law_324 rfl ?_
        refine h_iconst (pc := 325) G dL_law_325 ?_
        refine h_iadd (pc := 326) G dL_law_326 ?_
        refine h_sld (pc := 327) G ⟨by omega, by omega⟩ hN dL_law_327 ?_
        refine h_top (show iI (xs (i + 3).toNat).toInt = iI x3 by rw [← hx3]) ?_
        refine h_callC (pc := 328) (n := 3) (As := [_, _, _]) G (fun hD => kX3_look hD x1 x2 x3 rx1 rx2 rx3 MC LC) gL_law_X3_look rfl hdX3_look rfl rfl ⟨Nat.le_of_ble_eq_true rfl, Nat.le_of_ble_eq_true rfl⟩ rfl rfl (Nat.le_of_ble_eq_true rfl) dL_law_328 ?_
        rintro v1 _ _ ⟨rfl, rfl, hC⟩
        obtain ⟨r1, hr1⟩ : ∃ r : Int32, v1 = some (.int r) := ⟨_, hC⟩
        subst hr1
        refine h_aload_n (pc := 331) G dL_law_331 rfl ?_
        refine h_aload_n (pc := 332) G dL_law_332 rfl ?_
        refine h_iload_n (pc := 333) G dL_law_333 rfl ?_
        refine h_iconst (pc := 334) G dL_law_334 ?_
        refine h_iadd (pc := 335) G dL_law_335 ?_
        refine h_sld (pc := 336) G ⟨by omega, by omega⟩ hN dL_law_336 ?_
        refine h_top (show iI (xs (i + 1).toNat).toInt = iI x1 by rw [← hx1]) ?_
        refine h_aload_n (pc := 337) G dL_law_337 rfl ?_
        refine h_iload_n (pc := 338) G dL_law_338 rfl ?_
        refine h_iconst (pc := 339) G dL_law_339 ?_
        refine h_iadd (pc := 340) G dL_law_340 ?_
        refine h_sld (pc := 341) G ⟨by omega, by omega⟩ hN dL_law_341 ?_
        refine h_top (show iI (xs (i + 2).toNat).toInt = iI x2 by rw [← hx2]) ?_
        refine h_aload_n (pc := 342) G dL_law_342 rfl ?_
        refine h_iload_n (pc := 343) G dL_law_343 rfl ?_
        refine h_iconst (pc := 344) G dL_law_344 ?_
        refine h_iadd (pc := 345) G dL_law_345 ?_
        refine h_sld (pc := 346) G ⟨by omega, by omega⟩ hN dL_law_346 ?_
        refine h_top (show iI (xs (i + 3).toNat).toInt = iI x3 by rw [← hx3]) ?_
        refine h_callR (pc := 347) (n := 3) (As := [_, _, _]) G (fun hD => kX4_look hD x1 x2 x3 rx1 rx2 rx3 MR LR (tF MC) (xF MC) lts hA hg) gL_law_X4_look rfl hdX4_look rfl rfl ⟨Nat.le_of_ble_eq_true rfl, Nat.le_of_ble_eq_true rfl⟩ rfl rfl (Nat.le_of_ble_eq_true rfl) dL_law_347 ?_
        rintro v2 M2 L2 ⟨hM, _, hR⟩
        obtain ⟨hv, hRR2⟩ := st_look hRR hC hM hR
        subst hv
        refine h_same (pc := 350) G 704 dL_law_350 (by decide) ?_
        refine h_iinc (pc := 704) (lv' := [_, _, _, _]) G dL_law_704 (by decide) rfl rfl ?_
        refine h_goto (pc := 707) G 18 dL_law_707 (by decide) ?_
        exact ih (i + 5) _ _ _ _ (by omega) (by omega) (by omega) hRR2
      · refine h_tabIn (pc := 32) G ⟨by decide, by decide⟩ 355 dL_law_32 (by decide) (by decide) rfl (by decide) ?_
        refine h_aload_n (pc := 355) G dL_law_355 rfl ?_
        refine h_aload_n (pc := 356) G dL_law_356 rfl ?_
        refine h_iload_n (pc := 357) G dL_law_357 rfl ?_
        refine h_iconst (pc := 358) G dL_law_358 ?_
        refine h_iadd (pc := 359) G dL_law_359 ?_
        refine h_sld (pc := 360) G ⟨by omega, by omega⟩ hN dL_law_360 ?_
        refine h_top (show iI (xs (i + 1).toNat).toInt = iI x1 by rw [← hx1]) ?_
        refine h_aload_n (pc := 361) G dL_law_361 rfl ?_
        refine h_iload_n (pc := 362) G dL_law_362 rfl ?_
        refine h_iconst (pc := 363) G dL_law_363 ?_
        refine h_iadd (pc := 364) G dL_law_364 ?_
        refine h_sld (pc := 365) G ⟨by omega, by omega⟩ hN dL_law_365 ?_
        refine h_top (show iI (xs (i + 2).toNat).toInt = iI x2 by rw [← hx2]) ?_
        refine h_aload_n (pc := 366) G dL_law_366 rfl ?_
        refine h_iload_n (pc := 367) G dL_law_367 rfl ?_
        refine h_iconst (pc := 368) G dL_law_368 ?_
        refine h_iadd (pc := 369) G dL_law_369 ?_
        refine h_sld (pc := 370) G ⟨by omega, by omega⟩ hN dL_law_370 ?_
        refine h_top (show iI (xs (i + 3).toNat).toInt = iI x3 by rw [← hx3]) ?_
        refine h_callC (pc := 371) (n := 3) (As := [_, _, _]) G (fun hD => kX3_message hD x1 x2 x3 rx1 rx2 rx3 MC LC) gL_law_X3_message rfl hdX3_message rfl rfl ⟨Nat.le_of_ble_eq_true rfl, Nat.le_of_ble_eq_true rfl⟩ rfl rfl (Nat.le_of_ble_eq_true rfl) dL_law_371 ?_
        rintro v1 _ _ ⟨rfl, rfl, hC⟩
        obtain ⟨r1, hr1⟩ : ∃ r : Int32, v1 = some (.int r) := ⟨_, hC⟩
        subst hr1
        refine h_aload_n (pc := 374) G dL_law_374 rfl ?_
        refine h_aload_n (pc := 375) G dL_law_375 rfl ?_
        refine h_iload_n (pc := 376) G dL_law_376 rfl ?_
        refine h_iconst (pc := 377) G dL_law_377 ?_
        refine h_iadd (pc := 378) G dL_law_378 ?_
        refine h_sld (pc := 379) G ⟨by omega, by omega⟩ hN dL_law_379 ?_
        refine h_top (show iI (xs (i + 1).toNat).toInt = iI x1 by rw [← hx1]) ?_
        refine h_aload_n (pc := 380) G dL_law_380 rfl ?_
        refine h_iload_n (pc := 381) G dL_law_381 rfl ?_
        refine h_iconst (pc := 382) G dL_law_382 ?_
        refine h_iadd (pc := 383) G dL_law_383 ?_
        refine h_sld (pc := 384) G ⟨by omega, by omega⟩ hN dL_law_384 ?_
        refine h_top (show iI (xs (i + 2).toNat).toInt = iI x2 by rw [← hx2]) ?_
        refine h_aload_n (pc := 385) G dL_law_385 rfl ?_
        refine h_iload_n (pc := 386) G dL_law_386 rfl ?_
        refine h_iconst (pc := 387) G dL_law_387 ?_
        refine h_iadd (pc := 388) G dL_law_388 ?_
        refine h_sld (pc := 389) G ⟨by omega, by omega⟩ hN dL_law_389 ?_
        refine h_top (show iI (xs (i + 3).toNat).toInt = iI x3 by rw [← hx3]) ?_
        refine h_callR (pc := 390) (n := 3) (As := [_, _, _]) G (fun hD => kX4_message_ hD x1 x2 x3 rx1 rx2 rx3 MR LR (tF MC) (xF MC) lts hA hg) gL_law_X4_message_ rfl hdX4_message_ rfl rfl ⟨Nat.le_of_ble_eq_true rfl, Nat.le_of_ble_eq_true rfl⟩ rfl rfl (Nat.le_of_ble_eq_true rfl) dL_law_390 ?_
        rintro v2 M2 L2 ⟨hM, _, hR⟩
        obtain ⟨hv, hRR2⟩ := st_message hg hRR hC hM hR
        subst hv
        refine h_same (pc := 393) G 704 dL_law_393 (by decide) ?_
        refine h_iinc (pc := 704) (lv' := [_, _, _, _]) G dL_law_704 (by decide) rfl rfl ?_
        refine h_goto (pc := 707) G 18 dL_law_707 (by decide) ?_
        exact ih (i + 5) _ _ _ _ (by omega) (by omega) (by omega) hRR2
      · refine h_tabIn (pc := 32) G ⟨by decide, by decide⟩ 398 dL_law_32 (by decide) (by decide) rfl (by decide) ?_
        refine h_aload_n (pc := 398) G dL_law_398 rfl ?_
        refine h_aload_n (pc := 399) G dL_law_399 rfl ?_
        refine h_iload_n (pc := 400) G dL_law_400 rfl ?_
        refine h_iconst (pc := 401) G dL_law_401 ?_
        refine h_iadd (pc := 402) G dL_law_402 ?_
        refine h_sld (pc := 403) G ⟨by omega, by omega⟩ hN dL_law_403 ?_
        refine h_top (show iI (xs (i + 1).toNat).toInt = iI x1 by rw [← hx1]) ?_
        refine h_aload_n (pc := 404) G dL_law_404 rfl ?_
        refine h_iload_n (pc := 405) G dL_law_405 rfl ?_
        refine h_iconst (pc := 406) G dL_law_406 ?_
        refine h_iadd (pc := 407) G dL_law_407 ?_
        refine h_sld (pc := 408) G ⟨by omega, by omega⟩ hN dL_law_408 ?_
        refine h_top (show iI (xs (i + 2).toNat).toInt = iI x2 by rw [← hx2]) ?_
        refine h_aload_n (pc := 409) G dL_law_409 rfl ?_
        refine h_iload_n (pc := 410) G dL_law_410 rfl ?_
        refine h_iconst (pc := 411) G dL_law_411 ?_
        refine h_iadd (pc := 412) G dL_law_412 ?_
        refine h_sld (pc := 413) G ⟨by omega, by omega⟩ hN dL_law_413 ?_
        refine h_top (show iI (xs (i + 3).toNat).toInt = iI x3 by rw [← hx3]) ?_
        refine h_callC (pc := 414) (n := 3) (As := [_, _, _]) G (fun hD => kX3_state hD x1 x2 x3 rx1 rx2 rx3 MC LC) gL_law_X3_state rfl hdX3_state rfl rfl ⟨Nat.le_of_ble_eq_true rfl, Nat.le_of_ble_eq_true rfl⟩ rfl rfl (Nat.le_of_ble_eq_true rfl) dL_law_414 ?_
        rintro v1 _ _ ⟨rfl, rfl, hC⟩
        obtain ⟨r1, hr1⟩ : ∃ r : Int32, v1 = some (.int r) := ⟨_, hC⟩
        subst hr1
        refine h_aload_n (pc := 417) G dL_law_417 rfl ?_
        refine h_aload_n (pc := 418) G dL_law_418 rfl ?_
        refine h_iload_n (pc := 419) G dL_law_419 rfl ?_
        refine h_iconst (pc := 420) G dL_law_420 ?_
        refine h_iadd (pc := 421) G dL_law_421 ?_
        refine h_sld (pc := 422) G ⟨by omega, by omega⟩ hN dL_law_422 ?_
        refine h_top (show iI (xs (i + 1).toNat).toInt = iI x1 by rw [← hx1]) ?_
        refine h_aload_n (pc := 423) G dL_law_423 rfl ?_
        refine h_iload_n (pc := 424) G dL_law_424 rfl ?_
        refine h_iconst (pc := 425) G dL_law_425 ?_
        refine h_iadd (pc := 426) G dL_law_426 ?_
        refine h_sld (pc := 427) G ⟨by omega, by omega⟩ hN dL_law_427 ?_
        refine h_top (show iI (xs (i + 2).toNat).toInt = iI x2 by rw [← hx2]) ?_
        refine h_aload_n (pc := 428) G dL_law_428 rfl ?_
        refine h_iload_n (pc := 429) G dL_law_429 rfl ?_
        refine h_iconst (pc := 430) G dL_law_430 ?_
        refine h_iadd (pc := 431) G dL_law_431 ?_
        refine h_sld (pc := 432) G ⟨by omega, by omega⟩ hN dL_law_432 ?_
        refine h_top (show iI (xs (i + 3).toNat).toInt = iI x3 by rw [← hx3]) ?_
        refine h_callR (pc := 433) (n := 3) (As := [_, _, _]) G (fun hD => kX4_state hD x1 x2 x3 rx1 rx2 rx3 MR LR (tF MC) (xF MC) lts hA hg) gL_law_X4_state rfl hdX4_state rfl rfl ⟨Nat.le_of_ble_eq_true rfl, Nat.le_of_ble_eq_true rfl⟩ rfl rfl (Nat.le_of_ble_eq_true rfl) dL_law_433 ?_
        rintro v2 M2 L2 ⟨hM, _, hR⟩
        obtain ⟨hv, hRR2⟩ := st_state hg hRR hC hM hR
        subst hv
        refine h_same (pc := 436) G 704 dL_law_436 (by decide) ?_
        refine h_iinc (pc := 704) (lv' := [_, _, _, _]) G dL_law_704 (by decide) rfl rfl ?_
        refine h_goto (pc := 707) G 18 dL_law_707 (by decide) ?_
        exact ih (i + 5) _ _ _ _ (by omega) (by omega) (by omega) hRR2
      · refine h_tabIn (pc := 32) G ⟨by decide, by decide⟩ 441 dL_law_32 (by decide) (by decide) rfl (by decide) ?_
        refine h_aload_n (pc := 441) G dL_law_441 rfl ?_
        refine h_aload_n (pc := 442) G dL_law_442 rfl ?_
        refine h_iload_n (pc := 443) G dL_law_443 rfl ?_
        refine h_iconst (pc := 444) G dL_law_444 ?_
        refine h_iadd (pc := 445) G dL_law_445 ?_
        refine h_sld (pc := 446) G ⟨by omega, by omega⟩ hN dL_law_446 ?_
        refine h_top (show iI (xs (i + 1).toNat).toInt = iI x1 by rw [← hx1]) ?_
        refine h_aload_n (pc := 447) G dL_law_447 rfl ?_
        refine h_iload_n (pc := 448) G dL_law_448 rfl ?_
        refine h_iconst (pc := 449) G dL_law_449 ?_
        refine h_iadd (pc := 450) G dL_law_450 ?_
        refine h_sld (pc := 451) G ⟨by omega, by omega⟩ hN dL_law_451 ?_
        refine h_top (show iI (xs (i + 2).toNat).toInt = iI x2 by rw [← hx2]) ?_
        refine h_aload_n (pc := 452) G dL_law_452 rfl ?_
        refine h_iload_n (pc := 453) G dL_law_453 rfl ?_
        refine h_iconst (pc := 454) G dL_law_454 ?_
        refine h_iadd (pc := 455) G dL_law_455 ?_
        refine h_sld (pc := 456) G ⟨by omega, by omega⟩ hN dL_law_456 ?_
        refine h_top (show iI (xs (i + 3).toNat).toInt = iI x3 by rw [← hx3]) ?_
        refine h_aload_n (pc := 457) G dL_law_457 rfl ?_
        refine h_iload_n (pc := 458) G dL_law_458 rfl ?_
        refine h_iconst (pc := 459) G dL_law_459 ?_
        refine h_iadd (pc := 460) G dL_law_460 ?_
        refine h_sld (pc := 461) G ⟨by omega, by omega⟩ hN dL_law_461 ?_
        refine h_top (show iI (xs (i + 4).toNat).toInt = iI x4 by rw [← hx4]) ?_
        refine h_callC (pc := 462) (n := 4) (As := [_, _, _, _]) G (fun hD => kX3_character hD x1 x2 x3 x4 rx1 rx2 rx3 rx4 MC LC) gL_law_X3_character rfl hdX3_character rfl rfl ⟨Nat.le_of_ble_eq_true rfl, Nat.le_of_ble_eq_true rfl⟩ rfl rfl (Nat.le_of_ble_eq_true rfl) dL_law_462 ?_
        rintro v1 _ _ ⟨rfl, rfl, hC⟩
        obtain ⟨r1, hr1⟩ : ∃ r : Int32, v1 = some (.int r) := ⟨_, hC⟩
        subst hr1
        refine h_aload_n (pc := 465) G dL_law_465 rfl ?_
        refine h_aload_n (pc := 466) G dL_law_466 rfl ?_
        refine h_iload_n (pc := 467) G dL_law_467 rfl ?_
        refine h_iconst (pc := 468) G dL_law_468 ?_
        refine h_iadd (pc := 469) G dL_law_469 ?_
        refine h_sld (pc := 470) G ⟨by omega, by omega⟩ hN dL_law_470 ?_
        refine h_top (show iI (xs (i + 1).toNat).toInt = iI x1 by rw [← hx1]) ?_
        refine h_aload_n (pc := 471) G dL_law_471 rfl ?_
        refine h_iload_n (pc := 472) G dL_law_472 rfl ?_
        refine h_iconst (pc := 473) G dL_law_473 ?_
        refine h_iadd (pc := 474) G dL_law_474 ?_
        refine h_sld (pc := 475) G ⟨by omega, by omega⟩ hN dL_law_475 ?_
        refine h_top (show iI (xs (i + 2).toNat).toInt = iI x2 by rw [← hx2]) ?_
        refine h_aload_n (pc := 476) G dL_law_476 rfl ?_
        refine h_iload_n (pc := 477) G dL_law_477 rfl ?_
        refine h_iconst (pc := 478) G dL_law_478 ?_
        refine h_iadd (pc := 479) G dL_law_479 ?_
        refine h_sld (pc := 480) G ⟨by omega, by omega⟩ hN dL_law_480 ?_
        refine h_top (show iI (xs (i + 3).toNat).toInt = iI x3 by rw [← hx3]) ?_
        refine h_aload_n (pc := 481) G dL_law_481 rfl ?_
        refine h_iload_n (pc := 482) G dL_law_482 rfl ?_
        refine h_iconst (pc := 483) G dL_law_483 ?_
        refine h_iadd (pc := 484) G dL_law_484 ?_
        refine h_sld (pc := 485) G ⟨by omega, by omega⟩ hN dL_law_485 ?_
        refine h_top (show iI (xs (i + 4).toNat).toInt = iI x4 by rw [← hx4]) ?_
        refine h_callR (pc := 486) (n := 4) (As := [_, _, _, _]) G (fun hD => kX4_character hD x1 x2 x3 x4 rx1 rx2 rx3 rx4 MR LR (tF MC) (xF MC) lts hA hg) gL_law_X4_character rfl hdX4_character rfl rfl ⟨Nat.le_of_ble_eq_true rfl, Nat.le_of_ble_eq_true rfl⟩ rfl rfl (Nat.le_of_ble_eq_true rfl) dL_law_486 ?_
        rintro v2 M2 L2 ⟨hM, _, hR⟩
        obtain ⟨hv, hRR2⟩ := st_char hg hRR hC hM hR
        subst hv
        refine h_same (pc := 489) G 704 dL_law_489 (by decide) ?_
        refine h_iinc (pc := 704) (lv' := [_, _, _, _]) G dL_law_704 (by decide) rfl rfl ?_
        refine h_goto (pc := 707) G 18 dL_law_707 (by decide) ?_
        exact ih (i + 5) _ _ _ _ (by omega) (by omega) (by omega) hRR2
      · refine h_tabIn (pc := 32) G ⟨by decide, by decide⟩ 494 dL_law_32 (by decide) (by decide) rfl (by decide) ?_
        refine h_aload_n (pc := 494) G dL_law_494 rfl ?_
        refine h_aload_n (pc := 495) G dL_law_495 rfl ?_
        refine h_iload_n (pc := 496) G dL_law_496 rfl ?_
        refine h_iconst (pc := 497) G dL_law_497 ?_
        refine h_iadd (pc := 498) G dL_law_498 ?_
        refine h_sld (pc := 499) G ⟨by omega, by omega⟩ hN dL_law_499 ?_
        refine h_top (show iI (xs (i + 1).toNat).toInt = iI x1 by rw [← hx1]) ?_
        refine h_aload_n (pc := 500) G dL_law_500 rfl ?_
        refine h_iload_n (pc := 501) G dL_law_501 rfl ?_
        refine h_iconst (pc := 502) G dL_law_502 ?_
        refine h_iadd (pc := 503) G dL_law_503 ?_
        refine h_sld (pc := 504) G ⟨by omega, by omega⟩ hN dL_law_504 ?_
        refine h_top (show iI (xs (i + 2).toNat).toInt = iI x2 by rw [← hx2]) ?_
        refine h_callC (pc := 505) (n := 2) (As := [_, _]) G (fun hD => kX3_write hD x1 x2 rx1 rx2 MC LC) gL_law_X3_write rfl hdX3_write rfl rfl ⟨Nat.le_of_ble_eq_true rfl, Nat.le_of_ble_eq_true rfl⟩ rfl rfl (Nat.le_of_ble_eq_true rfl) dL_law_505 ?_
        rintro v1 M1 L1 ⟨_, hC⟩
        obtain ⟨r1, hr1⟩ : ∃ r : Int32, v1 = some (.int r) := by
          rcases hC with ⟨_, _, _, _, h⟩ | ⟨_, _, h⟩
          · exact ⟨_, h⟩
          · exact ⟨_, h⟩
        subst hr1
        refine h_aload_n (pc := 508) G dL_law_508 rfl ?_
        refine h_aload_n (pc := 509) G dL_law_509 rfl ?_
        refine h_iload_n (pc := 510) G dL_law_510 rfl ?_
        refine h_iconst (pc := 511) G dL_law_511 ?_
        refine h_iadd (pc := 512) G dL_law_512 ?_
        refine h_sld (pc := 513) G ⟨by omega, by omega⟩ hN dL_law_513 ?_
        refine h_top (show iI (xs (i + 1).toNat).toInt = iI x1 by rw [← hx1]) ?_
        refine h_aload_n (pc := 514) G dL_law_514 rfl ?_
        refine h_iload_n (pc := 515) G dL_law_515 rfl ?_
        refine h_iconst (pc := 516) G dL_law_516 ?_
        refine h_iadd (pc := 517) G dL_law_517 ?_
        refine h_sld (pc := 518) G ⟨by omega, by omega⟩ hN dL_law_518 ?_
        refine h_top (show iI (xs (i + 2).toNat).toInt = iI x2 by rw [← hx2]) ?_
        refine h_callR (pc := 519) (n := 2) (As := [_, _]) G (fun hD => kX4_write hD x1 x2 rx1 rx2 MR LR (tF MC) (xF MC) lts hA hg (fun z => (MC 8 z).toInt)) gL_law_X4_write rfl hdX4_write rfl rfl ⟨Nat.le_of_ble_eq_true rfl, Nat.le_of_ble_eq_true rfl⟩ rfl rfl (Nat.le_of_ble_eq_true rfl) dL_law_519 ?_
        rintro v2 M2 L2 ⟨_, hR⟩
        obtain ⟨hv, hRR2⟩ := st_write hg ho hC hR
        subst hv
        refine h_same (pc := 522) G 704 dL_law_522 (by decide) ?_
        refine h_iinc (pc := 704) (lv' := [_, _, _, _]) G dL_law_704 (by decide) rfl rfl ?_
        refine h_goto (pc := 707) G 18 dL_law_707 (by decide) ?_
        exact ih (i + 5) _ _ _ _ (by omega) (by omega) (by omega) hRR2
      · refine h_tabIn (pc := 32) G ⟨by decide, by decide⟩ 527 dL_law_32 (by decide) (by decide) rfl (by decide) ?_
        refine h_aload_n (pc := 527) G dL_law_527 rfl ?_
        refine h_aload_n (pc := 528) G dL_law_528 rfl ?_
        refine h_iload_n (pc := 529) G dL_law_529 rfl ?_
        refine h_iconst (pc := 530) G dL_law_530 ?_
        refine h_iadd (pc := 531) G dL_law_531 ?_
        refine h_sld (pc := 532) G ⟨by omega, by omega⟩ hN dL_law_532 ?_
        refine h_top (show iI (xs (i + 1).toNat).toInt = iI x1 by rw [← hx1]) ?_
        refine h_callC (pc := 533) (n := 1) (As := [_]) G (fun hD => kX3_out hD x1 rx1 MC LC) gL_law_X3_out rfl hdX3_out rfl rfl ⟨Nat.le_of_ble_eq_true rfl, Nat.le_of_ble_eq_true rfl⟩ rfl rfl (Nat.le_of_ble_eq_true rfl) dL_law_533 ?_
        rintro v1 _ _ ⟨rfl, rfl, hC⟩
        obtain ⟨r1, hr1⟩ : ∃ r : Int32, v1 = some (.int r) := ⟨_, hC⟩
        subst hr1
        refine h_aload_n (pc := 536) G dL_law_536 rfl ?_
        refine h_aload_n (pc := 537) G dL_law_537 rfl ?_
        refine h_iload_n (pc := 538) G dL_law_538 rfl ?_
        refine h_iconst (pc := 539) G dL_law_539 ?_
        refine h_iadd (pc := 540) G dL_law_540 ?_
        refine h_sld (pc := 541) G ⟨by omega, by omega⟩ hN dL_law_541 ?_
        refine h_top (show iI (xs (i + 1).toNat).toInt = iI x1 by rw [← hx1]) ?_
        refine h_callR (pc := 542) (n := 1) (As := [_]) G (fun hD => kX4_out hD x1 rx1 MR LR (by rw [ho.1]; exact ho.2.1.2)) gL_law_X4_out rfl hdX4_out rfl rfl ⟨Nat.le_of_ble_eq_true rfl, Nat.le_of_ble_eq_true rfl⟩ rfl rfl (Nat.le_of_ble_eq_true rfl) dL_law_542 ?_
        rintro v2 M2 L2 ⟨hM, _, hR⟩
        obtain ⟨hv, hRR2⟩ := st_out hRR hC hM hR
        subst hv
        refine h_same (pc := 545) G 704 dL_law_545 (by decide) ?_
        refine h_iinc (pc := 704) (lv' := [_, _, _, _]) G dL_law_704 (by decide) rfl rfl ?_
        refine h_goto (pc := 707) G 18 dL_law_707 (by decide) ?_
        exact ih (i + 5) _ _ _ _ (by omega) (by omega) (by omega) hRR2
      · refine h_tabIn (pc := 32) G ⟨by decide, by decide⟩ 550 dL_law_32 (by decide) (by decide) rfl (by decide) ?_
        refine h_aload_n (pc := 550) G dL_law_550 rfl ?_
        refine h_aload_n (pc := 551) G dL_law_551 rfl ?_
        refine h_iload_n (pc := 552) G dL_law_552 rfl ?_
        refine h_iconst (pc := 553) G dL_law_553 ?_
        refine h_iadd (pc := 554) G dL_law_554 ?_
        refine h_sld (pc := 555) G ⟨by omega, by omega⟩ hN dL_law_555 ?_
        refine h_top (show iI (xs (i + 1).toNat).toInt = iI x1 by rw [← hx1]) ?_
        refine h_aload_n (pc := 556) G dL_law_556 rfl ?_
        refine h_iload_n (pc := 557) G dL_law_557 rfl ?_
        refine h_iconst (pc := 558) G dL_law_558 ?_
        refine h_iadd (pc := 559) G dL_law_559 ?_
        refine h_sld (pc := 560) G ⟨by omega, by omega⟩ hN dL_law_560 ?_
        refine h_top (show iI (xs (i + 2).toNat).toInt = iI x2 by rw [← hx2]) ?_
        refine h_aload_n (pc := 561) G dL_law_561 rfl ?_
        refine h_iload_n (pc := 562) G dL_law_562 rfl ?_
        refine h_iconst (pc := 563) G dL_law_563 ?_
        refine h_iadd (pc := 564) G dL_law_564 ?_
        refine h_sld (pc := 565) G ⟨by omega, by omega⟩ hN dL_law_565 ?_
        refine h_top (show iI (xs (i + 3).toNat).toInt = iI x3 by rw [← hx3]) ?_
        refine h_callC (pc := 566) (n := 3) (As := [_, _, _]) G (fun hD => kX3_same hD x1 x2 x3 rx1 rx2 rx3 MC LC) gL_law_X3_same rfl hdX3_same rfl rfl ⟨Nat.le_of_ble_eq_true rfl, Nat.le_of_ble_eq_true rfl⟩ rfl rfl (Nat.le_of_ble_eq_true rfl) dL_law_566 ?_
        rintro v1 _ _ ⟨rfl, rfl, hC⟩
        obtain ⟨r1, hr1⟩ : ∃ r : Int32, v1 = some (.int r) := ⟨_, hC⟩
        subst hr1
        refine h_aload_n (pc := 569) G dL_law_569 rfl ?_
        refine h_aload_n (pc := 570) G dL_law_570 rfl ?_
        refine h_iload_n (pc := 571) G dL_law_571 rfl ?_
        refine h_iconst (pc := 572) G dL_law_572 ?_
        refine h_iadd (pc := 573) G dL_law_573 ?_
        refine h_sld (pc := 574) G ⟨by omega, by omega⟩ hN dL_law_574 ?_
        refine h_top (show iI (xs (i + 1).toNat).toInt = iI x1 by rw [← hx1]) ?_
        refine h_aload_n (pc := 575) G dL_law_575 rfl ?_
        refine h_iload_n (pc := 576) G dL_law_576 rfl ?_
        refine h_iconst (pc := 577) G dL_law_577 ?_
        refine h_iadd (pc := 578) G dL_law_578 ?_
        refine h_sld (pc := 579) G ⟨by omega, by omega⟩ hN dL_law_579 ?_
        refine h_top (show iI (xs (i + 2).toNat).toInt = iI x2 by rw [← hx2]) ?_
        refine h_aload_n (pc := 580) G dL_law_580 rfl ?_
        refine h_iload_n (pc := 581) G dL_law_581 rfl ?_
        refine h_iconst (pc := 582) G dL_law_582 ?_
        refine h_iadd (pc := 583) G dL_law_583 ?_
        refine h_sld (pc := 584) G ⟨by omega, by omega⟩ hN dL_law_584 ?_
        refine h_top (show iI (xs (i + 3).toNat).toInt = iI x3 by rw [← hx3]) ?_
        refine h_callR (pc := 585) (n := 3) (As := [_, _, _]) G (fun hD => kX4_same hD x1 x2 x3 rx1 rx2 rx3 MR LR (tF MC) (xF MC) lts hA hg) gL_law_X4_same rfl hdX4_same rfl rfl ⟨Nat.le_of_ble_eq_true rfl, Nat.le_of_ble_eq_true rfl⟩ rfl rfl (Nat.le_of_ble_eq_true rfl) dL_law_585 ?_
        rintro v2 M2 L2 ⟨hM, _, hR⟩
        obtain ⟨hv, hRR2⟩ := st_same hRR hC hM hR
        subst hv
        refine h_same (pc := 588) G 704 dL_law_588 (by decide) ?_
        refine h_iinc (pc := 704) (lv' := [_, _, _, _]) G dL_law_704 (by decide) rfl rfl ?_
        refine h_goto (pc := 707) G 18 dL_law_707 (by decide) ?_
        exact ih (i + 5) _ _ _ _ (by omega) (by omega) (by omega) hRR2
      · refine h_tabIn (pc := 32) G ⟨by decide, by decide⟩ 593 dL_law_32 (by decide) (by decide) rfl (by decide) ?_
        refine h_aload_n (pc := 593) G dL_law_593 rfl ?_
        refine h_aload_n (pc := 594) G dL_law_594 rfl ?_
        refine h_iload_n (pc := 595) G dL_law_595 rfl ?_
        refine h_iconst (pc := 596) G dL_law_596 ?_
        refine h_iadd (pc := 597) G dL_law_597 ?_
        refine h_sld (pc := 598) G ⟨by omega, by omega⟩ hN dL_law_598 ?_
        refine h_top (show iI (xs (i + 1).toNat).toInt = iI x1 by rw [← hx1]) ?_
        refine h_aload_n (pc := 599) G dL_law_599 rfl ?_
        refine h_iload_n (pc := 600) G dL_law_600 rfl ?_
        refine h_iconst (pc := 601) G dL_law_601 ?_
        refine h_iadd (pc := 602) G dL_law_602 ?_
        refine h_sld (pc := 603) G ⟨by omega, by omega⟩ hN dL_law_603 ?_
        refine h_top (show iI (xs (i + 2).toNat).toInt = iI x2 by rw [← hx2]) ?_
        refine h_aload_n (pc := 604) G dL_law_604 rfl ?_
        refine h_iload_n (pc := 605) G dL_law_605 rfl ?_
        refine h_iconst (pc := 606) G dL_law_606 ?_
        refine h_iadd (pc := 607) G dL_law_607 ?_
        refine h_sld (pc := 608) G ⟨by omega, by omega⟩ hN dL_law_608 ?_
        refine h_top (show iI (xs (i + 3).toNat).toInt = iI x3 by rw [← hx3]) ?_
        refine h_callC (pc := 609) (n := 3) (As := [_, _, _]) G (fun hD => kX3_shuffle hD x1 x2 x3 rx1 rx2 rx3 MC LC _ (pInv_of hg)) gL_law_X3_shuffle rfl hdX3_shuffle rfl rfl ⟨Nat.le_of_ble_eq_true rfl, Nat.le_of_ble_eq_true rfl⟩ rfl rfl (Nat.le_of_ble_eq_true rfl) dL_law_609 ?_
        rintro v1 M1 L1 ⟨_, hC⟩
        obtain ⟨r1, hr1⟩ : ∃ r : Int32, v1 = some (.int r) := by
          rcases hC with ⟨_, _, h⟩ | ⟨_, _, h⟩
          · exact ⟨_, h⟩
          · exact ⟨_, h⟩
        subst hr1
        refine h_aload_n (pc := 612) G dL_law_612 rfl ?_
        refine h_aload_n (pc := 613) G dL_law_613 rfl ?_
        refine h_iload_n (pc := 614) G dL_law_614 rfl ?_
        refine h_iconst (pc := 615) G dL_law_615 ?_
        refine h_iadd (pc := 616) G dL_law_616 ?_
        refine h_sld (pc := 617) G ⟨by omega, by omega⟩ hN dL_law_617 ?_
        refine h_top (show iI (xs (i + 1).toNat).toInt = iI x1 by rw [← hx1]) ?_
        refine h_aload_n (pc := 618) G dL_law_618 rfl ?_
        refine h_iload_n (pc := 619) G dL_law_619 rfl ?_
        refine h_iconst (pc := 620) G dL_law_620 ?_
        refine h_iadd (pc := 621) G dL_law_621 ?_
        refine h_sld (pc := 622) G ⟨by omega, by omega⟩ hN dL_law_622 ?_
        refine h_top (show iI (xs (i + 2).toNat).toInt = iI x2 by rw [← hx2]) ?_
        refine h_aload_n (pc := 623) G dL_law_623 rfl ?_
        refine h_iload_n (pc := 624) G dL_law_624 rfl ?_
        refine h_iconst (pc := 625) G dL_law_625 ?_
        refine h_iadd (pc := 626) G dL_law_626 ?_
        refine h_sld (pc := 627) G ⟨by omega, by omega⟩ hN dL_law_627 ?_
        refine h_top (show iI (xs (i + 3).toNat).toInt = iI x3 by rw [← hx3]) ?_
        refine h_callR (pc := 628) (n := 3) (As := [_, _, _]) G (fun hD => kX4_shuffle hD x1 x2 x3 rx1 rx2 MR LR (tF MC) (xF MC) lts hA hg (fun z => (MC 7 z).toInt) (vX MC (10 + x1.toNat))) gL_law_X4_shuffle rfl hdX4_shuffle rfl rfl ⟨Nat.le_of_ble_eq_true rfl, Nat.le_of_ble_eq_true rfl⟩ rfl rfl (Nat.le_of_ble_eq_true rfl) dL_law_628 ?_
        rintro v2 M2 L2 ⟨_, hk, hA2, hR⟩
        obtain ⟨hv, hRR2⟩ := st_shuffle hg ho hC hk hA2 hR (fun hts => by rw [vT_x MC hts, vX_x MC, w_x hts])
        subst hv
        refine h_same (pc := 631) G 704 dL_law_631 (by decide) ?_
        refine h_iinc (pc := 704) (lv' := [_, _, _, _]) G dL_law_704 (by decide) rfl rfl ?_
        refine h_goto (pc := 707) G 18 dL_law_707 (by decide) ?_
        exact ih (i + 5) _ _ _ _ (by omega) (by omega) (by omega) hRR2
      · refine h_tabIn (pc := 32) G ⟨by decide, by decide⟩ 636 dL_law_32 (by decide) (by decide) rfl (by decide) ?_
        refine h_aload_n (pc := 636) G dL_law_636 rfl ?_
        refine h_aload_n (pc := 637) G dL_law_637 rfl ?_
        refine h_iload_n (pc := 638) G dL_law_638 rfl ?_
        refine h_iconst (pc := 639) G dL_law_639 ?_
        refine h_iadd (pc := 640) G dL_law_640 ?_
        refine h_sld (pc := 641) G ⟨by omega, by omega⟩ hN dL_law_641 ?_
        refine h_top (show iI (xs (i + 1).toNat).toInt = iI x1 by rw [← hx1]) ?_
        refine h_aload_n (pc := 642) G dL_law_642 rfl ?_
        refine h_iload_n (pc := 643) G dL_law_643 rfl ?_
        refine h_iconst (pc := 644) G dL_law_644 ?_
        refine h_iadd (pc := 645) G dL_law_645 ?_
        refine h_sld (pc := 646) G ⟨by omega, by omega⟩ hN dL_law_646 ?_
        refine h_top (show iI (xs (i + 2).toNat).toInt = iI x2 by rw [← hx2]) ?_
        refine h_callC (pc := 647) (n := 2) (As := [_, _]) G (fun hD => kX3_orders hD x1 x2 rx1 rx2 MC LC (ord_hcp hg)) gL_law_X3_orders rfl hdX3_orders rfl rfl ⟨Nat.le_of_ble_eq_true rfl, Nat.le_of_ble_eq_true rfl⟩ rfl rfl (Nat.le_of_ble_eq_true rfl) dL_law_647 ?_
        rintro v1 M1 L1 ⟨hMk, hC⟩
        obtain ⟨r1, hr1⟩ : ∃ r : Int64, v1 = some (.long r) := by
          rcases hC with ⟨_, _, _, h⟩ | ⟨_, h⟩
          · exact ⟨_, h⟩
          · exact ⟨_, h⟩
        subst hr1
        refine h_aload_n (pc := 650) G dL_law_650 rfl ?_
        refine h_aload_n (pc := 651) G dL_law_651 rfl ?_
        refine h_iload_n (pc := 652) G dL_law_652 rfl ?_
        refine h_iconst (pc := 653) G dL_law_653 ?_
        refine h_iadd (pc := 654) G dL_law_654 ?_
        refine h_sld (pc := 655) G ⟨by omega, by omega⟩ hN dL_law_655 ?_
        refine h_top (show iI (xs (i + 1).toNat).toInt = iI x1 by rw [← hx1]) ?_
        refine h_aload_n (pc := 656) G dL_law_656 rfl ?_
        refine h_iload_n (pc := 657) G dL_law_657 rfl ?_
        refine h_iconst (pc := 658) G dL_law_658 ?_
        refine h_iadd (pc := 659) G dL_law_659 ?_
        refine h_sld (pc := 660) G ⟨by omega, by omega⟩ hN dL_law_660 ?_
        refine h_top (show iI (xs (i + 2).toNat).toInt = iI x2 by rw [← hx2]) ?_
        refine h_callR (pc := 661) (n := 2) (As := [_, _]) G (fun hD => kX4_orders hD x1 x2 rx1 rx2 MR LR (tF MC) (xF MC) lts hA hg) gL_law_X4_orders rfl hdX4_orders rfl rfl ⟨Nat.le_of_ble_eq_true rfl, Nat.le_of_ble_eq_true rfl⟩ rfl rfl (Nat.le_of_ble_eq_true rfl) dL_law_661 ?_
        rintro v2 M2 L2 ⟨hk, hA2, hR⟩
        obtain ⟨hv, hRR2⟩ := st_order (b := true) hg ho hMk hC hk hA2 hR
        subst hv
        refine h_lcmp (pc := 664) G dL_law_664 ?_
        refine h_sameL (pc := 665) G 704 dL_law_665 (by decide) ?_
        refine h_iinc (pc := 704) (lv' := [_, _, _, _]) G dL_law_704 (by decide) rfl rfl ?_
        refine h_goto (pc := 707) G 18 dL_law_707 (by decide) ?_
        exact ih (i + 5) _ _ _ _ (by omega) (by omega) (by omega) hRR2
      · refine h_tabIn (pc := 32) G ⟨by decide, by decide⟩ 670 dL_law_32 (by decide) (by decide) rfl (by decide) ?_
        refine h_aload_n (pc := 670) G dL_law_670 rfl ?_
        refine h_aload_n (pc := 671) G dL_law_671 rfl ?_
        refine h_iload_n (pc := 672) G dL_law_672 rfl ?_
        refine h_iconst (pc := 673) G dL_law_673 ?_
        refine h_iadd (pc := 674) G dL_law_674 ?_
        refine h_sld (pc := 675) G ⟨by omega, by omega⟩ hN dL_law_675 ?_
        refine h_top (show iI (xs (i + 1).toNat).toInt = iI x1 by rw [← hx1]) ?_
        refine h_aload_n (pc := 676) G dL_law_676 rfl ?_
        refine h_iload_n (pc := 677) G dL_law_677 rfl ?_
        refine h_iconst (pc := 678) G dL_law_678 ?_
        refine h_iadd (pc := 679) G dL_law_679 ?_
        refine h_sld (pc := 680) G ⟨by omega, by omega⟩ hN dL_law_680 ?_
        refine h_top (show iI (xs (i + 2).toNat).toInt = iI x2 by rw [← hx2]) ?_
        refine h_callC (pc := 681) (n := 2) (As := [_, _]) G (fun hD => kX3_number hD x1 x2 rx1 rx2 MC LC (ord_hcp hg)) gL_law_X3_number rfl hdX3_number rfl rfl ⟨Nat.le_of_ble_eq_true rfl, Nat.le_of_ble_eq_true rfl⟩ rfl rfl (Nat.le_of_ble_eq_true rfl) dL_law_681 ?_
        rintro v1 M1 L1 ⟨hMk, hC⟩
        obtain ⟨r1, hr1⟩ : ∃ r : Int64, v1 = some (.long r) := by
          rcases hC with ⟨_, _, _, h⟩ | ⟨_, h⟩
          · exact ⟨_, h⟩
          · exact ⟨_, h⟩
        subst hr1
        refine h_aload_n (pc := 684) G dL_law_684 rfl ?_
        refine h_aload_n (pc := 685) G dL_law_685 rfl ?_
        refine h_iload_n (pc := 686) G dL_law_686 rfl ?_
        refine h_iconst (pc := 687) G dL_law_687 ?_
        refine h_iadd (pc := 688) G dL_law_688 ?_
        refine h_sld (pc := 689) G ⟨by omega, by omega⟩ hN dL_law_689 ?_
        refine h_top (show iI (xs (i + 1).toNat).toInt = iI x1 by rw [← hx1]) ?_
        refine h_aload_n (pc := 690) G dL_law_690 rfl ?_
        refine h_iload_n (pc := 691) G dL_law_691 rfl ?_
        refine h_iconst (pc := 692) G dL_law_692 ?_
        refine h_iadd (pc := 693) G dL_law_693 ?_
        refine h_sld (pc := 694) G ⟨by omega, by omega⟩ hN dL_law_694 ?_
        refine h_top (show iI (xs (i + 2).toNat).toInt = iI x2 by rw [← hx2]) ?_
        refine h_callR (pc := 695) (n := 2) (As := [_, _]) G (fun hD => kX4_number hD x1 x2 rx1 rx2 MR LR (tF MC) (xF MC) lts hA hg) gL_law_X4_number rfl hdX4_number rfl rfl ⟨Nat.le_of_ble_eq_true rfl, Nat.le_of_ble_eq_true rfl⟩ rfl rfl (Nat.le_of_ble_eq_true rfl) dL_law_695 ?_
        rintro v2 M2 L2 ⟨hk, hA2, hR⟩
        obtain ⟨hv, hRR2⟩ := st_order (b := false) hg ho hMk hC hk hA2 hR
        subst hv
        refine h_lcmp (pc := 698) G dL_law_698 ?_
        refine h_sameL (pc := 699) G 704 dL_law_699 (by decide) ?_
        refine h_iinc (pc := 704) (lv' := [_, _, _, _]) G dL_law_704 (by decide) rfl rfl ?_
        refine h_goto (pc := 707) G 18 dL_law_707 (by decide) ?_
        exact ih (i + 5) _ _ _ _ (by omega) (by omega) (by omega) hRR2
      · refine h_tabOut (pc := 32) G hrw 704 dL_law_32 hsw (by decide) ?_
        refine h_iinc (pc := 704) (lv' := [_, _, _, _]) G dL_law_704 (by decide) rfl rfl ?_
        refine h_goto (pc := 707) G 18 dL_law_707 (by decide) ?_
        exact ih (i + 5) _ _ _ _ (by omega) (by omega) (by omega) hRR
