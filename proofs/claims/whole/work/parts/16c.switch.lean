section SW
variable {J : Nat → sjM → sjL → List (Option Value) → List Value → Prop} {l : Launch} {R : Room} {ret : Option FieldType} {cc : ByteArray} {nL : Nat} {Ts : List Cond} {own : String} {D : va_G} {cI cZ cJ cT cC : ClassId} {N : Nat} {ad : Nat → Nat} {ct : sjM → sjL → Nat → va_E} {A : Nat → Prop} {post : Option Value → sjM → sjL → Prop} {pc : Nat} {M : sjM} {L : sjL} {lv lv' : List (Option Value)} {st : List Value}
theorem g_tabIn (G : sjG J l cc nL Ts own R ret D cI cZ cJ cT cC N ad ct A post) {a : Int} (ha : rng a) {dflt lo hi off : Int} {offs : Array Int} {len : Nat} (tgt : Nat) (hdg : decode cc pc = .ok (.tableswitch dflt lo hi offs, len)) (h1 : ¬ a < lo) (h2 : ¬ hi < a) (ho : offs[(a - lo).toNat]? = some off) (ht : (pc : Int) + off = (tgt : Int)) (k : J tgt M L lv st) : J pc M L lv (.int (iI a) :: st) := by
  obtain ⟨p, e, s, m, args, below, meth, c, F, hr, hlocks, rfl⟩ := G
  exact fun H locs ls hP hS hz hl => lv_tableIn F.1.1 F.1.2.1 hdg (by rw [iI_toInt ha]; exact h1) (by rw [iI_toInt ha]; exact h2) (by rw [iI_toInt ha]; exact ho) ht (k H locs ls hP hS hz hl)
theorem g_tabOut (G : sjG J l cc nL Ts own R ret D cI cZ cJ cT cC N ad ct A post) {a : Int} (ha : rng a) {dflt lo hi : Int} {offs : Array Int} {len : Nat} (tgt : Nat) (hdg : decode cc pc = .ok (.tableswitch dflt lo hi offs, len)) (h : a < lo ∨ hi < a) (ht : (pc : Int) + dflt = (tgt : Int)) (k : J tgt M L lv st) : J pc M L lv (.int (iI a) :: st) := by
  obtain ⟨p, e, s, m, args, below, meth, c, F, hr, hlocks, rfl⟩ := G
  exact fun H locs ls hP hS hz hl => lv_tableOut F.1.1 F.1.2.1 hdg (by rw [iI_toInt ha]; exact h) ht (k H locs ls hP hS hz hl)
end SW
def aLook (T X : aS) (w : Int) : Int := if w = 0 then T 0 1 else if w = 1 then T 0 0 else if w = 2 then X 0 0 else if w = 3 then X 0 1 else if w = 4 then X 0 2 else if w = 5 then X 0 3 else if w = 6 then X 0 4 else -1
def aMess (T : aS) (k w : Int) : Int := if w = 0 then aKind T k else if w = 1 then aMaker T k else if w = 2 then aMark T (aSubj T k) else if w = 3 then aMark T (aLeft T (aSubj T k)) else if w = 4 then aMark T (aRight T (aSubj T k)) else if w = 5 then aLetter T (aSubj T k) else -1
def aChar (T X : aS) (c w : Int) : Int := if w = 0 then aMark T c else if w = 1 then aLetter T c else if w = 2 then (if aSeen X c then 1 else 0) else if w = 3 then aPl X (aLeft T c) else if w = 4 then aPl X (aRight T c) else -1
theorem aLook_o {T X : aS} {w : Int} (h : w < 0 ∨ 6 < w) : aLook T X w = -1 := by
  unfold aLook
  rw [if_neg (by omega), if_neg (by omega), if_neg (by omega), if_neg (by omega), if_neg (by omega), if_neg (by omega), if_neg (by omega)]
theorem aMess_o {T : aS} {k w : Int} (h : w < 0 ∨ 5 < w) : aMess T k w = -1 := by
  unfold aMess
  rw [if_neg (by omega), if_neg (by omega), if_neg (by omega), if_neg (by omega), if_neg (by omega), if_neg (by omega)]
theorem aChar_o {T X : aS} {c w : Int} (h : w < 0 ∨ 4 < w) : aChar T X c w = -1 := by
  unfold aChar
  rw [if_neg (by omega), if_neg (by omega), if_neg (by omega), if_neg (by omega), if_neg (by omega)]
