theorem rT0_left {T : aS} {M : sjM} (h : rT T M 0) {o : Int} (ho : aHasC T o) : M 5 o = iI (aLeft T o) := by
  have := (h.2.1 o ho.1 ho.2.2).2.2.2.1
  rw [show (60 : Int) * 0 + o = o by omega] at this
  unfold aLeft
  rw [if_pos ho]
  exact this
theorem rT0_right {T : aS} {M : sjM} (h : rT T M 0) {o : Int} (ho : aHasC T o) : M 6 o = iI (aRight T o) := by
  have := (h.2.1 o ho.1 ho.2.2).2.2.2.2
  rw [show (60 : Int) * 0 + o = o by omega] at this
  unfold aRight
  rw [if_pos ho]
  exact this
theorem rT1_left {T : aS} {M : sjM} (h : rT T M 1) {o : Int} (ho : aHasC T o) : M 5 (60 + o) = iI (aLeft T o) := by
  have := (h.2.1 o ho.1 ho.2.2).2.2.2.1
  rw [show (60 : Int) * 1 + o = 60 + o by omega] at this
  unfold aLeft
  rw [if_pos ho]
  exact this
theorem rT1_right {T : aS} {M : sjM} (h : rT T M 1) {o : Int} (ho : aHasC T o) : M 6 (60 + o) = iI (aRight T o) := by
  have := (h.2.1 o ho.1 ho.2.2).2.2.2.2
  rw [show (60 : Int) * 1 + o = 60 + o by omega] at this
  unfold aRight
  rw [if_pos ho]
  exact this
theorem rT1_site {T : aS} {M : sjM} (h : rT T M 1) {o : Int} (ho : aHasC T o) : M 2 (60 + o) = iI (aSite T o) := by
  have := (h.2.1 o ho.1 ho.2.2).1
  rw [show (60 : Int) * 1 + o = 60 + o by omega] at this
  unfold aSite
  rw [if_pos ho]
  exact this
theorem row_skip {T X : aS} {mk l r : Int} : ∀ (d n : Nat) (q a : Int), (∀ y, q ≤ y → y < q + d → ¬ aSpans T X (aAt X y) l r) → aRow T X mk l r (n + d) q a = aRow T X mk l r n (q + d) a
  | 0, n, q, a, _ => by rw [Nat.add_zero, show q + ((0 : Nat) : Int) = q by omega]
  | d + 1, n, q, a, h => by
    rw [show n + (d + 1) = (n + d) + 1 by omega, aRow, if_neg (h q (by omega) (by omega)), row_skip d n (q + 1) a (fun y h1 h2 => h y (by omega) (by omega)), show q + 1 + (d : Int) = q + ((d + 1 : Nat) : Int) by omega]
/-- the LINE of those that span, up to place p -/
def lnOK (T X : aS) (l r : Int) (ln : Int → Int) (n p : Int) : Prop := 1 ≤ n ∧ n ≤ p - l ∧ ln 0 = l ∧ (∀ j, 0 ≤ j → j < n → l ≤ ln j ∧ ln j < p) ∧ (∀ j, 0 ≤ j → j + 1 < n → ln j < ln (j + 1) ∧ aSpans T X (aAt X (ln (j + 1))) l r ∧ ∀ y, ln j < y → y < ln (j + 1) → ¬ aSpans T X (aAt X y) l r) ∧ ∀ y, ln (n - 1) < y → y < p → ¬ aSpans T X (aAt X y) l r
theorem ln_start (T X : aS) (l r : Int) (ln : Int → Int) (h : ln 0 = l) : lnOK T X l r ln 1 (l + 1) := by
  refine ⟨by omega, by omega, h, fun j h0 h1 => ?_, fun j h0 h1 => by omega, fun y h0 h1 => ?_⟩
  · rw [show j = 0 by omega, h]; omega
  · rw [show (1 : Int) - 1 = 0 by omega, h] at h0; omega
theorem ln_no {T X : aS} {l r n p : Int} {ln : Int → Int} (h : lnOK T X l r ln n p) (hn : ¬ aSpans T X (aAt X p) l r) : lnOK T X l r ln n (p + 1) := by
  obtain ⟨a1, a2, a3, a4, a5, a6⟩ := h
  refine ⟨a1, by omega, a3, fun j h0 h1 => by have := a4 j h0 h1; omega, a5, fun y h0 h1 => ?_⟩
  rcases Int.lt_or_eq_of_le (show y ≤ p by omega) with w | w
  · exact a6 y h0 w
  · rw [w]; exact hn
theorem ln_yes {T X : aS} {l r n p : Int} {ln : Int → Int} (h : lnOK T X l r ln n p) (hn : aSpans T X (aAt X p) l r) : lnOK T X l r (fun j => if j = n then p else ln j) (n + 1) (p + 1) := by
  obtain ⟨a1, a2, a3, a4, a5, a6⟩ := h
  refine ⟨by omega, by omega, ?_, fun j h0 h1 => ?_, fun j h0 h1 => ?_, fun y h0 h1 => ?_⟩
  · show (if (0 : Int) = n then p else ln 0) = l
    rw [if_neg (by omega)]; exact a3
  · show l ≤ (if j = n then p else ln j) ∧ (if j = n then p else ln j) < p + 1
    split
    · omega
    · have := a4 j h0 (by omega); omega
  · show (if j = n then p else ln j) < (if j + 1 = n then p else ln (j + 1)) ∧ aSpans T X (aAt X (if j + 1 = n then p else ln (j + 1))) l r ∧ ∀ y, (if j = n then p else ln j) < y → y < (if j + 1 = n then p else ln (j + 1)) → ¬ aSpans T X (aAt X y) l r
    rw [if_neg (show ¬ j = n by omega)]
    by_cases hj : j + 1 = n
    · rw [if_pos hj]
      have := a4 j h0 (by omega)
      refine ⟨by omega, hn, fun y y0 y1 => a6 y ?_ y1⟩
      rw [show n - 1 = j by omega]; exact y0
    · rw [if_neg hj]; exact a5 j h0 (by omega)
  · have : (if n + 1 - 1 = n then p else ln (n + 1 - 1)) < y := h0
    rw [if_pos (by omega)] at this
    omega
/-- WOOT's ROW, read off the LINE -/
def aRk (T X : aS) (mk l r a : Int) : Int × Int × Int := aRow T X mk l r (r - (a + 1)).toNat (a + 1) a
theorem rk_last {T X : aS} {mk l r n : Int} {ln : Int → Int} (h : lnOK T X l r ln n r) : aRk T X mk l r (ln (n - 1)) = (ln (n - 1), r, 0) := by
  obtain ⟨a1, a2, a3, a4, a5, a6⟩ := h
  have hb := a4 (n - 1) (by omega) (by omega)
  unfold aRk
  have := row_skip (T := T) (X := X) (mk := mk) (l := l) (r := r) (r - (ln (n - 1) + 1)).toNat 0 (ln (n - 1) + 1) (ln (n - 1)) (fun y h0 h1 => a6 y (by omega) (by omega))
  rw [Nat.zero_add] at this
  rw [this, aRow]
theorem rk_step {T X : aS} {mk l r n k : Int} {ln : Int → Int} (h : lnOK T X l r ln n r) (h1 : 1 ≤ k) (hk : k < n) : aRk T X mk l r (ln (k - 1)) = if aMark T (aAt X (ln k)) < mk then ((aRk T X mk l r (ln k)).1, (aRk T X mk l r (ln k)).2.1, (aRk T X mk l r (ln k)).2.2 + 1) else (ln (k - 1), ln k, 1) := by
  obtain ⟨a1, a2, a3, a4, a5, a6⟩ := h
  have hb := a4 (k - 1) (by omega) (by omega)
  have hc := a4 k (by omega) (by omega)
  obtain ⟨b1, b2, b3⟩ := a5 (k - 1) (by omega) (by omega)
  rw [show k - 1 + 1 = k by omega] at b1 b2 b3
  unfold aRk
  have hs := row_skip (T := T) (X := X) (mk := mk) (l := l) (r := r) (ln k - (ln (k - 1) + 1)).toNat ((r - (ln k + 1)).toNat + 1) (ln (k - 1) + 1) (ln (k - 1)) (fun y h0 h1 => b3 y (by omega) (by omega))
  rw [show (r - (ln k + 1)).toNat + 1 + (ln k - (ln (k - 1) + 1)).toNat = (r - (ln (k - 1) + 1)).toNat by omega, show ln (k - 1) + 1 + ((ln k - (ln (k - 1) + 1)).toNat : Int) = ln k by omega] at hs
  rw [hs, aRow, if_pos b2]
/-- nothing but the LINE and what was LOOKED at -/
def wF (M M1 : sjM) : Prop := (∀ k, k ≠ 0 → k ≠ 20 → M1 k = M k) ∧ ∀ z, ¬ z = 1 → M1 0 z = M 0 z
theorem wF_X {X : aS} {M M1 : sjM} {i : Int} (h : wF M M1) (hX : rX X M i) : rX X M1 i := rX_of hX (fun k h1 h2 => h.1 k (by omega) (by omega))
theorem wF_T {T : aS} {M M1 : sjM} {t : Int} (h : wF M M1) (hT : rT T M t) : rT T M1 t := rT_of hT (fun k h1 h2 => h.1 k (by omega) (by omega))
theorem wF_lk {M M1 M2 : sjM} {x : Int32} (h : wF M M1) (h2 : M2 = sjU M1 0 1 x) : wF M M2 := ⟨fun k h0 h1 => by rw [h2, sjU_o h0]; exact h.1 k h0 h1, fun z hz => by rw [h2, sjU_s, if_neg hz]; exact h.2 z hz⟩
theorem wF_ln {M M1 M2 : sjM} {x : Int32} {z : Int} (h : wF M M1) (h2 : M2 = sjU M1 20 z x) : wF M M2 := ⟨fun k h0 h1 => by rw [h2, sjU_o h1]; exact h.1 k h0 h1, fun z hz => by rw [h2, sjU_o (by omega)]; exact h.2 z hz⟩
theorem wF_on {M M1 : sjM} (h : wF M M1) (i : Int) : onR M M1 i := ⟨fun k h1 h2 => h.1 k (by omega) (by omega), ⟨h.1 18 (by omega) (by omega), h.1 19 (by omega) (by omega), h.1 23 (by omega) (by omega), h.1 24 (by omega) (by omega), h.2 0 (by omega), h.2 3 (by omega)⟩, fun z _ => ⟨by rw [h.1 13 (by omega) (by omega)], by rw [h.1 15 (by omega) (by omega)], by rw [h.1 16 (by omega) (by omega)]⟩, fun z _ => by rw [h.1 14 (by omega) (by omega)], fun z _ => by rw [h.1 17 (by omega) (by omega)]⟩
theorem pl_b {T X : aS} (h : cpOK T X) {a : Int} (ha : inX X a) : -1 ≤ aPl X a ∧ aPl X a ≤ X 0 0 := by
  have := h.1
  rcases ha with w | w | ⟨w0, w1, w2⟩
  · rw [w, pl_beg]; omega
  · rw [w, pl_end]; omega
  · obtain ⟨_, c2, c3, _⟩ := cp_has h w0 w1 w2
    rw [pl_char w0 w1]; omega
theorem ln_R {T X : aS} {l r n : Int} {ln : Int → Int} (h : lnOK T X l r ln n r) : lnOK T X l r (fun j => if j = n then r else ln j) n r := by
  obtain ⟨a1, a2, a3, a4, a5, a6⟩ := h
  refine ⟨a1, a2, ?_, fun j h0 h1 => ?_, fun j h0 h1 => ?_, fun y h0 h1 => ?_⟩
  · show (if (0 : Int) = n then r else ln 0) = l
    rw [if_neg (by omega)]; exact a3
  · show l ≤ (if j = n then r else ln j) ∧ (if j = n then r else ln j) < r
    rw [if_neg (by omega)]; exact a4 j h0 h1
  · show (if j = n then r else ln j) < (if j + 1 = n then r else ln (j + 1)) ∧ aSpans T X (aAt X (if j + 1 = n then r else ln (j + 1))) l r ∧ ∀ y, (if j = n then r else ln j) < y → y < (if j + 1 = n then r else ln (j + 1)) → ¬ aSpans T X (aAt X y) l r
    rw [if_neg (by omega), if_neg (by omega)]; exact a5 j h0 h1
  · have h2 : (if n - 1 = n then r else ln (n - 1)) < y := h0
    rw [if_neg (by omega)] at h2
    exact a6 y h2 h1
theorem mark_rg {T : aS} (h : gT T) {c : Int} (hc : aHasC T c) : 0 ≤ aMark T c ∧ aMark T c ≤ 600 := by
  have := h.2.2.2.1 c hc
  have h9 := h.2.2.1 (T 1 c) this.1 this.2.1
  have := h.1.2.1
  unfold aMark
  rw [if_pos hc]
  omega
set_option maxHeartbeats 4000000 in
set_option maxRecDepth 100000 in
theorem kX4_woot {l : Launch} {D : va_G} {cI cZ cJ cT cC : ClassId} {ad : Nat → Nat} {A : Nat → Prop} (hD : ∀ g : Nat → va_E, va_D A (sjW 26 ad g)) (i : Int) (hi0 : 0 ≤ i) (hi1 : i ≤ 10) (c : Int) (M : sjM) (L : sjL) (T X : aS) (key : Int → List Nat) (hX : rX X M i) (hI : cpOK T X ∧ srtL (fun a b => wl (key a) (key b)) X) (hT : rT T M 0) (hG : gT T) (hw : wOK T key) (hc : aHasC T c) (hn : X 2 c = -2) (h60 : X 0 0 < 60) (hil : inX X (aLeft T c)) (hir : inX X (aRight T c)) : Met l yX4_woot wsX4_woot { frames := 1, cells := 0, slots := 0, locals := 24 } (sjA D cI cZ cJ cT cC 26 ad (kR cI cZ cJ ad) [.ref (ad 0), .int (iI i), .int (iI c)] M L) (sjZ D 26 ad (kR cI cZ cJ ad) A (fun v M' L' => v = none ∧ L = L' ∧ onR M M' i ∧ rX (aIns X c (aWoot T X c).1) M' i ∧ M' 0 1 = iI ((M 0 1).toInt + (aWoot T X c).2) ∧ M' 0 2 = M 0 2)) 0 0 A := by
  refine g_met (cc := cX4_woot) (maxL := 8) (ret := none) (lv := [_, _, _, _, _, _, _, _]) (by decide) rfl hD kR_loc (List.forall_mem_cons.mpr ⟨rfl, List.forall_mem_cons.mpr ⟨rfl, List.forall_mem_cons.mpr ⟨rfl, fun _ h => absurd h List.not_mem_nil⟩⟩⟩) (Nat.le_of_ble_eq_true rfl) rfl ?_
  intro J G
  have f22 : Cond.fieldLink RX4 22 "SharedPageModel" "leftOf" "[I" ∈ wsX4_woot := by decide +kernel
  have f25 : Cond.fieldLink RX4 25 "SharedPageModel" "rightOf" "[I" ∈ wsX4_woot := by decide +kernel
  have f47 : Cond.fieldLink RX4 47 "SharedPageModel" "row" "[I" ∈ wsX4_woot := by decide +kernel
  have f68 : Cond.fieldLink RX4 68 "SharedPageModel" "line" "[I" ∈ wsX4_woot := by decide +kernel
  have f105 : Cond.fieldLink RX4 105 "SharedPageModel" "looked" "I" ∈ wsX4_woot := by decide +kernel
  have hinX4 : ∀ w ∈ u_ws RX4 TX4 29, w ∈ wsX4_woot := fun w h => List.mem_cons_of_mem _ (List.mem_append_right _ h)
  have hlen0 := hI.1.1
  have fin : ∀ (n : Nat) (l r d : Int) (M1 : sjM) (x5 x6 x7 : Option Value), wF M M1 → -1 ≤ l → l < r → r ≤ X 0 0 → r - l ≤ 1 → M1 0 1 = iI ((M 0 1).toInt + d) → (aWootF T X (aMark T c) n l r).1 = (aWoot T X c).1 → d + (aWootF T X (aMark T c) n l r).2 = (aWoot T X c).2 → J 25 M1 L [some (.ref (ad 0)), some (.int (iI i)), some (.int (iI c)), some (.int (iI l)), some (.int (iI r)), x5, x6, x7] [] := by
    intro n l r d M1 x5 x6 x7 hF1 hl0 hlr hrx h1 hd1 hR1 hR2
    refine g_iload (pc := 25) G dX4_woot_25 rfl ?_
    refine g_iload_n (pc := 27) G dX4_woot_27 rfl ?_
    refine g_isub (pc := 28) G dX4_woot_28 ?_
    refine g_iconst (pc := 29) G dX4_woot_29 ?_
    refine g_icmp_le (pc := 30) G (by omega) (by omega) 244 dX4_woot_30 (by decide) (fun h30 => ?_) (fun h30 => ?_)
    · -- 30 t
      refine g_aload_n (pc := 244) G dX4_woot_244 rfl ?_
      refine g_iload_n (pc := 245) G dX4_woot_245 rfl ?_
      refine g_iload_n (pc := 246) G dX4_woot_246 rfl ?_
      refine g_iload (pc := 247) G dX4_woot_247 rfl ?_
      refine g_call (pc := 249) (n := 3) (As := [_, _, _]) G (kX4_lay hD i hi0 hi1 c r hc.1 hc.2.2 (by omega) M1 L T X _ (wF_X hF1 hX) hI hrx h60 hn) gX4_woot_X4_lay oModel rfl rfl hdX4_lay rfl rfl ⟨Nat.le_of_ble_eq_true rfl, Nat.le_of_ble_eq_true rfl⟩ rfl rfl (Nat.le_of_ble_eq_true rfl) dX4_woot_249 ?_
      rintro _ M2 _ ⟨rfl, rfl, hon, hko, hx2⟩
      have hr9 : (aWootF T X (aMark T c) n l r) = (r, 0) := by
        cases n with
        | zero => rw [aWootF]
        | succ n => rw [aWootF, if_neg (by omega)]
      rw [hr9] at hR1 hR2
      refine g_vret (pc := 252) G dX4_woot_252 ?_
      refine ⟨rfl, rfl, ?_, ?_, ?_, ?_⟩
      · exact onR_tr (wF_on hF1 i) hon
      · rw [← hR1]; exact hx2
      · rw [hko 0 (by omega) (by omega) (by omega), hd1]; congr 1; dsimp only at hR2; omega
      · rw [hko 0 (by omega) (by omega) (by omega)]; exact hF1.2 2 (by omega)
    · -- 30 f
      exact absurd h30 (by omega)
  have loopA : ∀ (n : Nat) (l r d : Int) (M1 : sjM) (x5 x6 x7 : Option Value), wF M M1 → -1 ≤ l → l < r → r ≤ X 0 0 → psi (lowK key X l) (uppK key X r) (tg T c) = key c → r - l - 1 ≤ n → M1 0 1 = iI ((M 0 1).toInt + d) → (aWootF T X (aMark T c) n l r).1 = (aWoot T X c).1 → d + (aWootF T X (aMark T c) n l r).2 = (aWoot T X c).2 → J 25 M1 L [some (.ref (ad 0)), some (.int (iI i)), some (.int (iI c)), some (.int (iI l)), some (.int (iI r)), x5, x6, x7] [] := by
    intro n
    induction n with
    | zero => intro l r d M1 x5 x6 x7 hF1 hl0 hlr hrx hp hnb hd1 hR1 hR2; exact fin 0 l r d M1 x5 x6 x7 hF1 hl0 hlr hrx (by omega) hd1 hR1 hR2
    | succ n ih =>
      intro l r d M1 x5 x6 x7 hF1 hl0 hlr hrx hp hnb hd1 hR1 hR2
      by_cases hgo : 1 < r - l
      · obtain ⟨v1, v2, v3, v7, v8, v9, v4⟩ := woot_turn hw hG.1.2.2.2.2.1 hI.1 hI.2 hc hn hl0 hrx hgo hp
        rw [aWootF, if_pos hgo] at hR1 hR2
        generalize hRW : aRow T X (aMark T c) l r (r - l - 1).toNat (l + 1) l = Rw at v1 v2 v3 v7 v8 v9 v4 hR1 hR2
        have hRk : aRk T X (aMark T c) l r l = Rw := by unfold aRk; rw [show r - (l + 1) = r - l - 1 by omega]; exact hRW
        dsimp only at hR1 hR2
        have afterC : ∀ (n2 : Int) (ln : Int → Int) (k : Int) (M3 : sjM) (x7 : Option Value), 1 ≤ n2 → n2 ≤ r - l → wF M M3 → (∀ j, 0 ≤ j → j ≤ n2 → M3 20 j = iI (ln j)) → 1 ≤ k → k ≤ n2 → Rw.1 = ln (k - 1) → Rw.2.1 = ln k → M3 0 1 = iI ((M 0 1).toInt + (d + (r - l - 1) + Rw.2.2)) → J 222 M3 L [some (.ref (ad 0)), some (.int (iI i)), some (.int (iI c)), some (.int (iI l)), some (.int (iI r)), some (.int (iI n2)), some (.int (iI k)), x7] [] := by
          intro n2 ln k M3 x7 hn1 hn2 hF3 hln hk0 hk1 e1 e2 hd3
          refine g_aload_n (pc := 222) G dX4_woot_222 rfl ?_
          refine g_getR (pc := 223) G hinX4 oModel rfl 23 (by decide) f68 rfl rfl dX4_woot_223 ?_
          refine g_iload (pc := 226) G dX4_woot_226 rfl ?_
          refine g_iconst (pc := 228) G dX4_woot_228 ?_
          refine g_isub (pc := 229) G dX4_woot_229 ?_
          refine g_iald (pc := 230) G rLine (by omega) dX4_woot_230 ?_
          refine g_top (ld (by rw [hln (k - 1) (by omega) (by omega), ← e1])) ?_
          refine g_istore_n (pc := 231) (lv' := [_, _, _, _, _, _, _, _]) G dX4_woot_231 (by decide) rfl ?_
          refine g_aload_n (pc := 232) G dX4_woot_232 rfl ?_
          refine g_getR (pc := 233) G hinX4 oModel rfl 23 (by decide) f68 rfl rfl dX4_woot_233 ?_
          refine g_iload (pc := 236) G dX4_woot_236 rfl ?_
          refine g_iald (pc := 238) G rLine (by omega) dX4_woot_238 ?_
          refine g_top (ld (by rw [hln k (by omega) (by omega), ← e2])) ?_
          refine g_istore (pc := 239) (lv' := [_, _, _, _, _, _, _, _]) G dX4_woot_239 (by decide) rfl ?_
          refine g_goto (pc := 241) G 25 dX4_woot_241 (by decide) ?_
          exact ih Rw.1 Rw.2.1 (d + (r - l - 1) + Rw.2.2) M3 _ _ _ hF3 v1 v2 v3 v4 (by omega) hd3 hR1 (by rw [← hR2]; omega)
        have exit0 : ∀ (n2 : Int) (ln : Int → Int) (k : Int) (M3 : sjM), 1 ≤ n2 → n2 ≤ r - l → wF M M3 → (∀ j, 0 ≤ j → j ≤ n2 → M3 20 j = iI (ln j)) → 1 ≤ k → k ≤ n2 → Rw.1 = ln (k - 1) → Rw.2.1 = ln k → M3 0 1 = iI ((M 0 1).toInt + (d + (r - l - 1) + Rw.2.2)) → J 148 M3 L [some (.ref (ad 0)), some (.int (iI i)), some (.int (iI c)), some (.int (iI l)), some (.int (iI r)), some (.int (iI n2)), some (.int (iI k)), some (.int (iI 0))] [] := by
          intro n2 ln k M3 hn1 hn2 hF3 hln hk0 hk1 e1 e2 hd3
          refine g_iload (pc := 148) G dX4_woot_148 rfl ?_
          refine g_if_eq (pc := 150) G (by omega) 222 dX4_woot_150 (by decide) (fun _ => ?_) (fun h => absurd h (by decide))
          exact afterC n2 ln k M3 _ hn1 hn2 hF3 hln hk0 hk1 e1 e2 hd3
        have loopC : ∀ (n2 : Int) (ln : Int → Int), lnOK T X l r ln n2 r → 1 ≤ n2 → n2 ≤ r - l → ln n2 = r → ∀ (dB : Int) (f : Nat) (k d3 : Int) (M3 : sjM), 1 ≤ k → k ≤ n2 → (n2 - k).toNat < f → wF M M3 → (∀ j, 0 ≤ j → j ≤ n2 → M3 20 j = iI (ln j)) → M3 0 1 = iI ((M 0 1).toInt + d3) → Rw.1 = (aRk T X (aMark T c) l r (ln (k - 1))).1 → Rw.2.1 = (aRk T X (aMark T c) l r (ln (k - 1))).2.1 → Rw.2.2 = (aRk T X (aMark T c) l r (ln (k - 1))).2.2 + (k - 1) → d3 = d + (r - l - 1) + (k - 1) → J 148 M3 L [some (.ref (ad 0)), some (.int (iI i)), some (.int (iI c)), some (.int (iI l)), some (.int (iI r)), some (.int (iI n2)), some (.int (iI k)), some (.int (iI 1))] [] := by
          intro n2 ln hl2 hn1 hn2 hlr2 dB f
          induction f with
          | zero => intro k d3 M3 _ _ h; omega
          | succ f ihc =>
            intro k d3 M3 hk0 hk1 hf hF3 hln hd3 hr1 hr2 hr3 hd
            refine g_iload (pc := 148) G dX4_woot_148 rfl ?_
            refine g_if_eq (pc := 150) G (by omega) 222 dX4_woot_150 (by decide) (fun h => absurd h (by decide)) (fun _ => ?_)
            refine g_iload (pc := 153) G dX4_woot_153 rfl ?_
            refine g_iload (pc := 155) G dX4_woot_155 rfl ?_
            refine g_icmp_ge (pc := 157) G (by omega) (by omega) 222 dX4_woot_157 (by decide) (fun h157 => ?_) (fun h157 => ?_)
            · -- 157 t
              have hkn : k = n2 := by omega
              have hrl := rk_last (mk := aMark T c) hl2
              rw [← hkn] at hrl
              rw [hrl] at hr1 hr2 hr3
              dsimp only at hr1 hr2 hr3
              --go
              exact afterC n2 ln k M3 _ hn1 hn2 hF3 hln (by omega) (by omega) (by rw [hr1]) (by rw [hr2, hkn, hlr2]) (by rw [hd3, hd, hr3]; congr 1; omega)
            · -- 157 f
              have hb := hl2.2.2.2.1 k (by omega) h157
              have hstep := rk_step (mk := aMark T c) hl2 hk0 h157
              have hl0 := hl2.2.2.2.1 0 (by omega) (by omega)
              have hll := (hl2.2.2.2.2.1 (k - 1) (by omega) (by omega)).1
              rw [show k - 1 + 1 = k by omega] at hll
              have hlp := (hl2.2.2.2.1 (k - 1) (by omega) (by omega)).1
              have hoc : aHasC T (X 1 (ln k)) := (hI.1.2.2.1 (ln k) (by omega) (by omega)).1
              rw [at_in (show 0 ≤ ln k by omega) (show ln k < X 0 0 by omega) (by omega)] at hstep
              --go
              refine g_aload_n (pc := 160) G dX4_woot_160 rfl ?_
              refine g_aload_n (pc := 161) G dX4_woot_161 rfl ?_
              refine g_getI (pc := 162) G hinX4 oModel rfl 19 (by decide) f105 rfl rfl dX4_woot_162 ?_
              refine g_top (ld (hd3)) ?_
              refine g_iconst (pc := 165) G dX4_woot_165 ?_
              refine g_iadd (pc := 166) G dX4_woot_166 ?_
              refine g_put (pc := 167) G tyX4 tyX4_ok nmX4 hinX4 oModel rfl 19 (by decide) pModel1 f105 rfl rfl rfl dX4_woot_167 ?_
              refine g_mem (fun M4 L4 hM4 hL4 => ?_)
              obtain rfl : L = L4 := hL4.symm
              have hF4 := wF_lk hF3 hM4
              have hln4 : ∀ j, 0 ≤ j → j ≤ n2 → M4 20 j = iI (ln j) := fun j h0 h1 => by rw [hM4, sjU_o (by omega)]; exact hln j h0 h1
              have hd4 : M4 0 1 = iI ((M 0 1).toInt + (d3 + 1)) := by rw [hM4, sjU_s, if_pos rfl, ← Int.add_assoc]
              clear hM4
              refine g_aload_n (pc := 170) G dX4_woot_170 rfl ?_
              refine g_iconst (pc := 171) G dX4_woot_171 ?_
              refine g_aload_n (pc := 172) G dX4_woot_172 rfl ?_
              refine g_getR (pc := 173) G hinX4 oModel rfl 13 (by decide) f47 rfl rfl dX4_woot_173 ?_
              refine g_bipush (pc := 176) G dX4_woot_176 rfl ?_
              refine g_iload_n (pc := 178) G dX4_woot_178 rfl ?_
              refine g_imul (pc := 179) G dX4_woot_179 ?_
              refine g_aload_n (pc := 180) G dX4_woot_180 rfl ?_
              refine g_getR (pc := 181) G hinX4 oModel rfl 23 (by decide) f68 rfl rfl dX4_woot_181 ?_
              refine g_iload (pc := 184) G dX4_woot_184 rfl ?_
              refine g_iald (pc := 186) G rLine (by omega) dX4_woot_186 ?_
              refine g_top (ld (hln4 k (by omega) (by omega))) ?_
              refine g_iadd (pc := 187) G dX4_woot_187 ?_
              refine g_iald (pc := 188) G rRow (by omega) dX4_woot_188 ?_
              refine g_top (ld ((wF_X hF4 hX).2.1 (ln k) (by omega) (by omega))) ?_
              refine g_call (pc := 189) (n := 2) (As := [_, _]) G (kX4_mark hD 0 (by omega) (by omega) (X 1 (ln k)) M4 L T (wF_T hF4 hT) (Or.inr (Or.inr hoc))) gX4_woot_X4_mark oModel rfl rfl hdX4_mark rfl rfl ⟨Nat.le_of_ble_eq_true rfl, Nat.le_of_ble_eq_true rfl⟩ rfl rfl (Nat.le_of_ble_eq_true rfl) dX4_woot_189 ?_
              rintro _ _ _ ⟨rfl, rfl, rfl⟩
              refine g_aload_n (pc := 192) G dX4_woot_192 rfl ?_
              refine g_iconst (pc := 193) G dX4_woot_193 ?_
              refine g_iload_n (pc := 194) G dX4_woot_194 rfl ?_
              refine g_call (pc := 195) (n := 2) (As := [_, _]) G (kX4_mark hD 0 (by omega) (by omega) c M4 L T (wF_T hF4 hT) (Or.inr (Or.inr hc))) gX4_woot_X4_mark oModel rfl rfl hdX4_mark rfl rfl ⟨Nat.le_of_ble_eq_true rfl, Nat.le_of_ble_eq_true rfl⟩ rfl rfl (Nat.le_of_ble_eq_true rfl) dX4_woot_195 ?_
              rintro _ _ _ ⟨rfl, rfl, rfl⟩
              refine g_icmp_ge (pc := 198) G (by have := mark_rg hG hoc; omega) (by have := mark_rg hG hc; omega) 205 dX4_woot_198 (by decide) (fun h198 => ?_) (fun h198 => ?_)
              · -- 198 t
                rw [if_neg (by omega)] at hstep
                rw [hstep] at hr1 hr2 hr3
                dsimp only at hr1 hr2 hr3
                --go
                refine g_iconst (pc := 205) G dX4_woot_205 ?_
                refine g_istore (pc := 206) (lv' := [_, _, _, _, _, _, _, _]) G dX4_woot_206 (by decide) rfl ?_
                refine g_iload (pc := 208) G dX4_woot_208 rfl ?_
                refine g_if_eq (pc := 210) G (by omega) 148 dX4_woot_210 (by decide) (fun _ => ?_) (fun h => absurd h (by decide))
                exact exit0 n2 ln k M4 hn1 hn2 hF4 hln4 (by omega) (by omega) (by rw [hr1]) (by rw [hr2]) (by rw [hd4, hd, hr3]; congr 1; omega)
              · -- 198 f
                rw [if_pos (by omega)] at hstep
                rw [hstep] at hr1 hr2 hr3
                dsimp only at hr1 hr2 hr3
                --go
                refine g_iconst (pc := 201) G dX4_woot_201 ?_
                refine g_goto (pc := 202) G 206 dX4_woot_202 (by decide) ?_
                refine g_istore (pc := 206) (lv' := [_, _, _, _, _, _, _, _]) G dX4_woot_206 (by decide) rfl ?_
                refine g_iload (pc := 208) G dX4_woot_208 rfl ?_
                refine g_if_eq (pc := 210) G (by omega) 148 dX4_woot_210 (by decide) (fun h => absurd h (by decide)) (fun _ => ?_)
                refine g_iload (pc := 213) G dX4_woot_213 rfl ?_
                refine g_iconst (pc := 215) G dX4_woot_215 ?_
                refine g_iadd (pc := 216) G dX4_woot_216 ?_
                refine g_istore (pc := 217) (lv' := [_, _, _, _, _, _, _, _]) G dX4_woot_217 (by decide) rfl ?_
                refine g_goto (pc := 219) G 148 dX4_woot_219 (by decide) ?_
                exact ihc (k + 1) (d3 + 1) M4 (by omega) (by omega) (by omega) hF4 hln4 hd4 (by rw [hr1, show k + 1 - 1 = k by omega]) (by rw [hr2, show k + 1 - 1 = k by omega]) (by rw [hr3, show k + 1 - 1 = k by omega]; omega) (by omega)
        have after133 : ∀ (n2 : Int) (ln : Int → Int) (M3 : sjM) (x6 x7 : Option Value), lnOK T X l r ln n2 r → n2 ≤ r - l → wF M M3 → (∀ j, 0 ≤ j → j < n2 → M3 20 j = iI (ln j)) → M3 0 1 = iI ((M 0 1).toInt + (d + (r - l - 1))) → J 133 M3 L [some (.ref (ad 0)), some (.int (iI i)), some (.int (iI c)), some (.int (iI l)), some (.int (iI r)), some (.int (iI n2)), x6, x7] [] := by
          intro n2 ln M3 x6 x7 hl2 hn2 hF3 hln hd3
          have hn1 := hl2.1
          refine g_aload_n (pc := 133) G dX4_woot_133 rfl ?_
          refine g_getR (pc := 134) G hinX4 oModel rfl 23 (by decide) f68 rfl rfl dX4_woot_134 ?_
          refine g_iload (pc := 137) G dX4_woot_137 rfl ?_
          refine g_iload (pc := 139) G dX4_woot_139 rfl ?_
          refine g_iast (pc := 141) G rLine (by omega) dX4_woot_141 ?_
          refine g_mem (fun M4 L4 hM4 hL4 => ?_)
          obtain rfl : L = L4 := hL4.symm
          have hF4 := wF_ln hF3 hM4
          have hln4 : ∀ j, 0 ≤ j → j ≤ n2 → M4 20 j = iI ((fun j => if j = n2 then r else ln j) j) := by
            intro j h0 h1
            show M4 20 j = iI (if j = n2 then r else ln j)
            rw [hM4, sjU_s]
            by_cases hj : j = n2
            · rw [if_pos hj, if_pos hj]
            · rw [if_neg hj, if_neg hj]; exact hln j h0 (by omega)
          have hd4 : M4 0 1 = iI ((M 0 1).toInt + (d + (r - l - 1))) := by rw [hM4, sjU_o (by omega)]; exact hd3
          clear hM4
          have e0 : (if (1 : Int) - 1 = n2 then r else ln (1 - 1)) = l := by
            rw [if_neg (by omega), show (1 : Int) - 1 = 0 by omega]; exact hl2.2.2.1
          refine g_iconst (pc := 142) G dX4_woot_142 ?_
          refine g_istore (pc := 143) (lv' := [_, _, _, _, _, _, _, _]) G dX4_woot_143 (by decide) rfl ?_
          refine g_iconst (pc := 145) G dX4_woot_145 ?_
          refine g_istore (pc := 146) (lv' := [_, _, _, _, _, _, _, _]) G dX4_woot_146 (by decide) rfl ?_
          exact loopC n2 (fun j => if j = n2 then r else ln j) (ln_R hl2) hn1 hn2 (if_pos rfl) (d + (r - l - 1)) _ 1 (d + (r - l - 1)) M4 (by omega) hn1 (Nat.lt_succ_self _) hF4 hln4 hd4 (by rw [e0, hRk]) (by rw [e0, hRk]) (by rw [e0, hRk]; omega) (by omega)
        have loopB : ∀ (f : Nat) (p n2 : Int) (ln : Int → Int) (M3 : sjM) (x7 : Option Value), l < p → p ≤ r → (r - p).toNat < f → lnOK T X l r ln n2 p → wF M M3 → (∀ j, 0 ≤ j → j < n2 → M3 20 j = iI (ln j)) → M3 0 1 = iI ((M 0 1).toInt + (d + (p - l - 1))) → J 48 M3 L [some (.ref (ad 0)), some (.int (iI i)), some (.int (iI c)), some (.int (iI l)), some (.int (iI r)), some (.int (iI n2)), some (.int (iI p)), x7] [] := by
          intro f
          induction f with
          | zero => intro p n2 ln M3 x7 _ _ h; omega
          | succ f ihb =>
            intro p n2 ln M3 x7 hp0 hp1 hf hl2 hF3 hln hd3
            have hn1 := hl2.1
            have hn2 := hl2.2.1
            refine g_iload (pc := 48) G dX4_woot_48 rfl ?_
            refine g_iload (pc := 50) G dX4_woot_50 rfl ?_
            refine g_icmp_ge (pc := 52) G (by omega) (by omega) 133 dX4_woot_52 (by decide) (fun h52 => ?_) (fun h52 => ?_)
            · -- 52 t
              have hpr : p = r := by omega
              --go
              rw [hpr] at hl2 hd3
              exact after133 n2 ln M3 _ _ hl2 (by omega) hF3 hln hd3
            · -- 52 f
              have hoc : aHasC T (X 1 p) := (hI.1.2.2.1 p (by omega) (by omega)).1
              have hpx := cp_at hI.1 (show 0 ≤ p by omega) (show p < X 0 0 by omega)
              have hat := at_in (X := X) (show 0 ≤ p by omega) (show p < X 0 0 by omega) (by omega)
              rw [hat] at hpx
              have hpl1 := pl_b hI.1 hpx.2.2.2.1
              have hpl2 := pl_b hI.1 hpx.2.2.2.2
              --go
              refine g_aload_n (pc := 55) G dX4_woot_55 rfl ?_
              refine g_aload_n (pc := 56) G dX4_woot_56 rfl ?_
              refine g_getI (pc := 57) G hinX4 oModel rfl 19 (by decide) f105 rfl rfl dX4_woot_57 ?_
              refine g_top (ld (hd3)) ?_
              refine g_iconst (pc := 60) G dX4_woot_60 ?_
              refine g_iadd (pc := 61) G dX4_woot_61 ?_
              refine g_put (pc := 62) G tyX4 tyX4_ok nmX4 hinX4 oModel rfl 19 (by decide) pModel1 f105 rfl rfl rfl dX4_woot_62 ?_
              refine g_mem (fun M4 L4 hM4 hL4 => ?_)
              obtain rfl : L = L4 := hL4.symm
              have hF4 := wF_lk hF3 hM4
              have hln4 : ∀ j, 0 ≤ j → j < n2 → M4 20 j = iI (ln j) := fun j h0 h1 => by rw [hM4, sjU_o (by omega)]; exact hln j h0 h1
              have hd4 : M4 0 1 = iI ((M 0 1).toInt + (d + (p + 1 - l - 1))) := by rw [hM4, sjU_s, if_pos rfl]; congr 1; omega
              clear hM4
              refine g_aload_n (pc := 65) G dX4_woot_65 rfl ?_
              refine g_getR (pc := 66) G hinX4 oModel rfl 13 (by decide) f47 rfl rfl dX4_woot_66 ?_
              refine g_bipush (pc := 69) G dX4_woot_69 rfl ?_
              refine g_iload_n (pc := 71) G dX4_woot_71 rfl ?_
              refine g_imul (pc := 72) G dX4_woot_72 ?_
              refine g_iload (pc := 73) G dX4_woot_73 rfl ?_
              refine g_iadd (pc := 75) G dX4_woot_75 ?_
              refine g_iald (pc := 76) G rRow (by omega) dX4_woot_76 ?_
              refine g_top (ld ((wF_X hF4 hX).2.1 p (by omega) (by omega))) ?_
              refine g_istore (pc := 77) (lv' := [_, _, _, _, _, _, _, _]) G dX4_woot_77 (by decide) rfl ?_
              refine g_aload_n (pc := 79) G dX4_woot_79 rfl ?_
              refine g_iload_n (pc := 80) G dX4_woot_80 rfl ?_
              refine g_aload_n (pc := 81) G dX4_woot_81 rfl ?_
              refine g_getR (pc := 82) G hinX4 oModel rfl 5 (by decide) f22 rfl rfl dX4_woot_82 ?_
              refine g_iload (pc := 85) G dX4_woot_85 rfl ?_
              refine g_iald (pc := 87) G rLeft (by have := hoc.1; have := hoc.2.2; omega) dX4_woot_87 ?_
              refine g_top (ld (rT0_left (wF_T hF4 hT) hoc)) ?_
              refine g_call (pc := 88) (n := 2) (As := [_, _]) G (kX4_place hD i hi0 hi1 (aLeft T (X 1 p)) M4 L T X _ (wF_X hF4 hX) hI hpx.2.2.2.1) gX4_woot_X4_place oModel rfl rfl hdX4_place rfl rfl ⟨Nat.le_of_ble_eq_true rfl, Nat.le_of_ble_eq_true rfl⟩ rfl rfl (Nat.le_of_ble_eq_true rfl) dX4_woot_88 ?_
              rintro _ _ _ ⟨rfl, rfl, rfl⟩
              refine g_iload_n (pc := 91) G dX4_woot_91 rfl ?_
              refine g_icmp_gt (pc := 92) G (by omega) (by omega) 127 dX4_woot_92 (by decide) (fun h92 => ?_) (fun h92 => ?_)
              · -- 92 t
                have hsp : ¬ aSpans T X (aAt X p) l r := by rw [hat]; intro w; have := w.1; omega
                --go
                refine g_iinc (pc := 127) (lv' := [_, _, _, _, _, _, _, _]) G dX4_woot_127 (by decide) rfl rfl ?_
                refine g_goto (pc := 130) G 48 dX4_woot_130 (by decide) ?_
                exact ihb (p + 1) n2 ln M4 _ (by omega) (by omega) (by omega) (ln_no hl2 hsp) hF4 hln4 hd4
              · -- 92 f
                refine g_aload_n (pc := 95) G dX4_woot_95 rfl ?_
                refine g_iload_n (pc := 96) G dX4_woot_96 rfl ?_
                refine g_aload_n (pc := 97) G dX4_woot_97 rfl ?_
                refine g_getR (pc := 98) G hinX4 oModel rfl 6 (by decide) f25 rfl rfl dX4_woot_98 ?_
                refine g_iload (pc := 101) G dX4_woot_101 rfl ?_
                refine g_iald (pc := 103) G rRight (by have := hoc.1; have := hoc.2.2; omega) dX4_woot_103 ?_
                refine g_top (ld (rT0_right (wF_T hF4 hT) hoc)) ?_
                refine g_call (pc := 104) (n := 2) (As := [_, _]) G (kX4_place hD i hi0 hi1 (aRight T (X 1 p)) M4 L T X _ (wF_X hF4 hX) hI hpx.2.2.2.2) gX4_woot_X4_place oModel rfl rfl hdX4_place rfl rfl ⟨Nat.le_of_ble_eq_true rfl, Nat.le_of_ble_eq_true rfl⟩ rfl rfl (Nat.le_of_ble_eq_true rfl) dX4_woot_104 ?_
                rintro _ _ _ ⟨rfl, rfl, rfl⟩
                refine g_iload (pc := 107) G dX4_woot_107 rfl ?_
                refine g_icmp_lt (pc := 109) G (by omega) (by omega) 127 dX4_woot_109 (by decide) (fun h109 => ?_) (fun h109 => ?_)
                · -- 109 t
                  have hsp : ¬ aSpans T X (aAt X p) l r := by rw [hat]; intro w; have := w.2; omega
                  --go
                  refine g_iinc (pc := 127) (lv' := [_, _, _, _, _, _, _, _]) G dX4_woot_127 (by decide) rfl rfl ?_
                  refine g_goto (pc := 130) G 48 dX4_woot_130 (by decide) ?_
                  exact ihb (p + 1) n2 ln M4 _ (by omega) (by omega) (by omega) (ln_no hl2 hsp) hF4 hln4 hd4
                · -- 109 f
                  have hsp : aSpans T X (aAt X p) l r := by rw [hat]; exact ⟨by omega, by omega⟩
                  --go
                  refine g_aload_n (pc := 112) G dX4_woot_112 rfl ?_
                  refine g_getR (pc := 113) G hinX4 oModel rfl 23 (by decide) f68 rfl rfl dX4_woot_113 ?_
                  refine g_iload (pc := 116) G dX4_woot_116 rfl ?_
                  refine g_iload (pc := 118) G dX4_woot_118 rfl ?_
                  refine g_iast (pc := 120) G rLine (by omega) dX4_woot_120 ?_
                  refine g_mem (fun M5 L5 hM5 hL5 => ?_)
                  obtain rfl : L = L5 := hL5.symm
                  have hF5 := wF_ln hF4 hM5
                  have hln5 : ∀ j, 0 ≤ j → j < n2 + 1 → M5 20 j = iI ((fun j => if j = n2 then p else ln j) j) := by
                    intro j h0 h1
                    show M5 20 j = iI (if j = n2 then p else ln j)
                    rw [hM5, sjU_s]
                    by_cases hj : j = n2
                    · rw [if_pos hj, if_pos hj]
                    · rw [if_neg hj, if_neg hj]; exact hln4 j h0 (by omega)
                  have hd5 : M5 0 1 = iI ((M 0 1).toInt + (d + (p + 1 - l - 1))) := by rw [hM5, sjU_o (by omega)]; exact hd4
                  clear hM5
                  refine g_iload (pc := 121) G dX4_woot_121 rfl ?_
                  refine g_iconst (pc := 123) G dX4_woot_123 ?_
                  refine g_iadd (pc := 124) G dX4_woot_124 ?_
                  refine g_istore (pc := 125) (lv' := [_, _, _, _, _, _, _, _]) G dX4_woot_125 (by decide) rfl ?_
                  refine g_iinc (pc := 127) (lv' := [_, _, _, _, _, _, _, _]) G dX4_woot_127 (by decide) rfl rfl ?_
                  refine g_goto (pc := 130) G 48 dX4_woot_130 (by decide) ?_
                  exact ihb (p + 1) (n2 + 1) (fun j => if j = n2 then p else ln j) M5 _ (by omega) (by omega) (by omega) (ln_yes hl2 hsp) hF5 hln5 hd5
        refine g_iload (pc := 25) G dX4_woot_25 rfl ?_
        refine g_iload_n (pc := 27) G dX4_woot_27 rfl ?_
        refine g_isub (pc := 28) G dX4_woot_28 ?_
        refine g_iconst (pc := 29) G dX4_woot_29 ?_
        refine g_icmp_le (pc := 30) G (by omega) (by omega) 244 dX4_woot_30 (by decide) (fun h30 => ?_) (fun h30 => ?_)
        · -- 30 t
          exact absurd h30 (by omega)
        · -- 30 f
          refine g_iconst (pc := 33) G dX4_woot_33 ?_
          refine g_istore (pc := 34) (lv' := [_, _, _, _, _, _, _, _]) G dX4_woot_34 (by decide) rfl ?_
          refine g_aload_n (pc := 36) G dX4_woot_36 rfl ?_
          refine g_getR (pc := 37) G hinX4 oModel rfl 23 (by decide) f68 rfl rfl dX4_woot_37 ?_
          refine g_iconst (pc := 40) G dX4_woot_40 ?_
          refine g_iload_n (pc := 41) G dX4_woot_41 rfl ?_
          refine g_iast (pc := 42) G rLine (by omega) dX4_woot_42 ?_
          refine g_mem (fun M4 L4 hM4 hL4 => ?_)
          obtain rfl : L = L4 := hL4.symm
          have hF4 := wF_ln hF1 hM4
          have h204 : M4 20 0 = iI l := by rw [hM4, sjU_s, if_pos rfl]
          have hd4 : M4 0 1 = iI ((M 0 1).toInt + d) := by rw [hM4, sjU_o (by omega)]; exact hd1
          clear hM4
          refine g_iload_n (pc := 43) G dX4_woot_43 rfl ?_
          refine g_iconst (pc := 44) G dX4_woot_44 ?_
          refine g_iadd (pc := 45) G dX4_woot_45 ?_
          refine g_istore (pc := 46) (lv' := [_, _, _, _, _, _, _, _]) G dX4_woot_46 (by decide) rfl ?_
          exact loopB _ (l + 1) 1 (fun _ => l) M4 _ (by omega) (by omega) (Nat.lt_succ_self _) (ln_start T X l r _ rfl) hF4 (fun j h0 h1 => by rw [show j = 0 by omega]; exact h204) (by rw [hd4]; congr 1; omega)
      · exact fin (n + 1) l r d M1 x5 x6 x7 hF1 hl0 hlr hrx (by omega) hd1 hR1 hR2
  refine g_aload_n (pc := 0) G dX4_woot_0 rfl ?_
  refine g_iload_n (pc := 1) G dX4_woot_1 rfl ?_
  refine g_aload_n (pc := 2) G dX4_woot_2 rfl ?_
  refine g_getR (pc := 3) G hinX4 oModel rfl 5 (by decide) f22 rfl rfl dX4_woot_3 ?_
  refine g_iload_n (pc := 6) G dX4_woot_6 rfl ?_
  refine g_iald (pc := 7) G rLeft (by have := hc.1; have := hc.2.2; omega) dX4_woot_7 ?_
  refine g_top (ld (rT0_left hT hc)) ?_
  refine g_call (pc := 8) (n := 2) (As := [_, _]) G (kX4_place hD i hi0 hi1 (aLeft T c) M L T X _ hX hI hil) gX4_woot_X4_place oModel rfl rfl hdX4_place rfl rfl ⟨Nat.le_of_ble_eq_true rfl, Nat.le_of_ble_eq_true rfl⟩ rfl rfl (Nat.le_of_ble_eq_true rfl) dX4_woot_8 ?_
  rintro _ _ _ ⟨rfl, rfl, rfl⟩
  refine g_istore_n (pc := 11) (lv' := [_, _, _, _, _, _, _, _]) G dX4_woot_11 (by decide) rfl ?_
  refine g_aload_n (pc := 12) G dX4_woot_12 rfl ?_
  refine g_iload_n (pc := 13) G dX4_woot_13 rfl ?_
  refine g_aload_n (pc := 14) G dX4_woot_14 rfl ?_
  refine g_getR (pc := 15) G hinX4 oModel rfl 6 (by decide) f25 rfl rfl dX4_woot_15 ?_
  refine g_iload_n (pc := 18) G dX4_woot_18 rfl ?_
  refine g_iald (pc := 19) G rRight (by have := hc.1; have := hc.2.2; omega) dX4_woot_19 ?_
  refine g_top (ld (rT0_right hT hc)) ?_
  refine g_call (pc := 20) (n := 2) (As := [_, _]) G (kX4_place hD i hi0 hi1 (aRight T c) M L T X _ hX hI hir) gX4_woot_X4_place oModel rfl rfl hdX4_place rfl rfl ⟨Nat.le_of_ble_eq_true rfl, Nat.le_of_ble_eq_true rfl⟩ rfl rfl (Nat.le_of_ble_eq_true rfl) dX4_woot_20 ?_
  rintro _ _ _ ⟨rfl, rfl, rfl⟩
  refine g_istore (pc := 23) (lv' := [_, _, _, _, _, _, _, _]) G dX4_woot_23 (by decide) rfl ?_
  obtain ⟨w1, w2, w3, w4⟩ := woot_start hw hG.1.2.2.2.2.1 hI.1 hI.2 hc hil hir
  exact loopA 60 _ _ 0 M _ _ _ ⟨fun _ _ _ => rfl, fun _ _ => rfl⟩ w1 w2 w3 w4 (by omega) (by rw [Int.add_zero, iI_of]) rfl (by rw [Int.zero_add]; rfl)
