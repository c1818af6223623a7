/-! the class's world: 89 cells. 0 the page; 1 texts, 2 copies, 3 spares; 4 the orders, 5 ways, 6 followers; 7 drawing; 8 written; 9 + 10 t + j: text t; 29 + 5 i + j: copy i (5 t + site; 10, 11 the spares) -/
def tI (i : Nat) : Nat := if i < 5 then 0 else if i < 10 then 1 else if i = 10 then 0 else 1
theorem tI_lt (i : Nat) : tI i < 2 := by unfold tI; (repeat' split) <;> omega
def fPage (ad : Nat → Nat) (M : sjM) : List Value := [.ref (ad 1), .ref (ad 2), .ref (ad 3), .ref (ad 4), .ref (ad 7), .ref (ad 8), .int (M 0 0)]
def fFree (ad : Nat → Nat) (_ : sjM) : List Value := [.ref (ad 5), .ref (ad 6)]
def fText (ad : Nat → Nat) (k : Nat) (w : Int32) (M : sjM) : List Value := [.int w, .ref (ad (k + 1)), .ref (ad (k + 2)), .ref (ad (k + 3)), .ref (ad (k + 4)), .ref (ad (k + 5)), .ref (ad (k + 6)), .ref (ad (k + 7)), .ref (ad (k + 8)), .ref (ad (k + 9)), .int (M k 0), .int (M k 1), .int (M k 2)]
def fCopy (ad : Nat → Nat) (k t : Nat) (M : sjM) : List Value := [.ref (ad (9 + 10 * t)), .ref (ad (k + 1)), .ref (ad (k + 2)), .ref (ad (k + 3)), .ref (ad (k + 4)), .int (M k 0), .int (M k 1), .int (M k 2), .int (M k 3), .int (M k 4), .int (M k 5), .int (M k 6)]
def wI (c : ClassId) (n k : Nat) (M : sjM) : va_E := .inl (c, n, .inl (fun j : Nat => M k (j : Int)))
def wooti (t : Nat) : Int32 := if t = 0 then 1 else 0
def kC (cI cZ cJ cT cC : ClassId) (ad : Nat → Nat) (M : sjM) (L : sjL) (k : Nat) : va_E :=
  if k < 9 then
    (if k = 0 then .inr (3, fPage ad M) else if k = 1 then .inl (cT, 2, .inr (.inr (.inr (.inr (fun j : Nat => some (ad (9 + 10 * (j : Int).toNat))))))) else if k = 2 then .inl (cC, 10, .inr (.inr (.inr (.inr (fun j : Nat => some (ad (29 + 5 * (j : Int).toNat))))))) else if k = 3 then .inl (cC, 2, .inr (.inr (.inr (.inr (fun j : Nat => some (ad (29 + 5 * (10 + (j : Int).toNat)))))))) else if k = 4 then .inr (1, fFree ad M) else if k = 5 then .inl (cJ, 4096, .inr (.inl (fun j : Nat => L k (j : Int)))) else if k = 6 then wI cI 12 k M else if k = 7 then wI cI 160 k M else wI cI 60 k M)
  else if k < 29 then
    (if (k - 9) % 10 = 0 then .inr (2, fText ad k (wooti ((k - 9) / 10)) M) else if (k - 9) % 10 < 6 then wI cI 60 k M else if (k - 9) % 10 < 9 then wI cI 160 k M else wI cI 5 k M)
  else
    (if (k - 29) % 5 = 0 then .inr (0, fCopy ad k (tI ((k - 29) / 5)) M) else if (k - 29) % 5 = 3 then wI cZ 60 k M else if (k - 29) % 5 = 4 then wI cI 160 k M else wI cI 60 k M)
section WC
variable {cI cZ cJ cT cC : ClassId} {ad : Nat → Nat}
theorem kC_loc : ∀ (M M' : sjM) (L L' : sjL) (k : Nat), M k = M' k → L k = L' k → kC cI cZ cJ cT cC ad M L k = kC cI cZ cJ cT cC ad M' L' k := by
  intro M M' L L' k h1 h2
  unfold kC fPage fFree fText fCopy wI
  by_cases h0 : k = 0
  · subst h0
    simp [h1]
  · simp [h0, h1, h2]
theorem oPage : sjO 89 (kC cI cZ cJ cT cC ad) 3 0 (fPage ad) := ⟨by omega, fun M L => by simp [kC]⟩
theorem oFree : sjO 89 (kC cI cZ cJ cT cC ad) 1 4 (fFree ad) := ⟨by omega, fun M L => by simp [kC]⟩
theorem oText (t : Nat) (ht : t < 2) : sjO 89 (kC cI cZ cJ cT cC ad) 2 (9 + 10 * t) (fText ad (9 + 10 * t) (wooti t)) := by
  refine ⟨by omega, fun M L => ?_⟩
  have h1 : ¬ (9 + 10 * t < 9) := by omega
  have h2 : 9 + 10 * t < 29 := by omega
  have h3 : (9 + 10 * t - 9) % 10 = 0 := by omega
  have h4 : (9 + 10 * t - 9) / 10 = t := by omega
  simp only [kC, h1, h2, h3, h4, if_true, if_false]
theorem oCopy (i : Nat) (hi : i < 12) : sjO 89 (kC cI cZ cJ cT cC ad) 0 (29 + 5 * i) (fCopy ad (29 + 5 * i) (tI i)) := by
  refine ⟨by omega, fun M L => ?_⟩
  have h1 : ¬ (29 + 5 * i < 9) := by omega
  have h2 : ¬ (29 + 5 * i < 29) := by omega
  have h3 : (29 + 5 * i - 29) % 5 = 0 := by omega
  have h4 : (29 + 5 * i - 29) / 5 = i := by omega
  simp only [kC, h1, h2, h3, h4, if_true, if_false]
theorem aTexts : sjR 89 (kC cI cZ cJ cT cC ad) cT 1 2 (fun z => ad (9 + 10 * z.toNat)) := ⟨by omega, by omega, fun M L => by simp [kC]⟩
theorem aCopies : sjR 89 (kC cI cZ cJ cT cC ad) cC 2 10 (fun z => ad (29 + 5 * z.toNat)) := ⟨by omega, by omega, fun M L => by simp [kC]⟩
theorem aSpares : sjR 89 (kC cI cZ cJ cT cC ad) cC 3 2 (fun z => ad (29 + 5 * (10 + z.toNat))) := ⟨by omega, by omega, fun M L => by simp [kC]⟩
theorem aWays : sjJ 89 (kC cI cZ cJ cT cC ad) cJ 5 4096 := ⟨by omega, by omega, fun M L => by simp [kC]⟩
theorem aFoll : sjI 89 (kC cI cZ cJ cT cC ad) cI 6 12 := ⟨by omega, by omega, fun M L => by simp [kC, wI]⟩
theorem aDraw : sjI 89 (kC cI cZ cJ cT cC ad) cI 7 160 := ⟨by omega, by omega, fun M L => by simp [kC, wI]⟩
theorem aWritten : sjI 89 (kC cI cZ cJ cT cC ad) cI 8 60 := ⟨by omega, by omega, fun M L => by simp [kC, wI]⟩
theorem aText60 (t j : Nat) (ht : t < 2) (h1 : 1 ≤ j) (h2 : j ≤ 5) : sjI 89 (kC cI cZ cJ cT cC ad) cI (9 + 10 * t + j) 60 := by
  refine ⟨by omega, by omega, fun M L => ?_⟩
  have a1 : ¬ (9 + 10 * t + j < 9) := by omega
  have a2 : 9 + 10 * t + j < 29 := by omega
  have a3 : ¬ ((9 + 10 * t + j - 9) % 10 = 0) := by omega
  have a4 : (9 + 10 * t + j - 9) % 10 < 6 := by omega
  simp only [kC, a1, a2, a3, a4, if_true, if_false, wI]
theorem aText160 (t j : Nat) (ht : t < 2) (h1 : 6 ≤ j) (h2 : j ≤ 8) : sjI 89 (kC cI cZ cJ cT cC ad) cI (9 + 10 * t + j) 160 := by
  refine ⟨by omega, by omega, fun M L => ?_⟩
  have a1 : ¬ (9 + 10 * t + j < 9) := by omega
  have a2 : 9 + 10 * t + j < 29 := by omega
  have a3 : ¬ ((9 + 10 * t + j - 9) % 10 = 0) := by omega
  have a4 : ¬ ((9 + 10 * t + j - 9) % 10 < 6) := by omega
  have a5 : (9 + 10 * t + j - 9) % 10 < 9 := by omega
  simp only [kC, a1, a2, a3, a4, a5, if_true, if_false, wI]
theorem aText5 (t : Nat) (ht : t < 2) : sjI 89 (kC cI cZ cJ cT cC ad) cI (9 + 10 * t + 9) 5 := by
  refine ⟨by omega, by omega, fun M L => ?_⟩
  have a1 : ¬ (9 + 10 * t + 9 < 9) := by omega
  have a2 : 9 + 10 * t + 9 < 29 := by omega
  have a3 : ¬ ((9 + 10 * t + 9 - 9) % 10 = 0) := by omega
  have a4 : ¬ ((9 + 10 * t + 9 - 9) % 10 < 6) := by omega
  have a5 : ¬ ((9 + 10 * t + 9 - 9) % 10 < 9) := by omega
  simp only [kC, a1, a2, a3, a4, a5, if_true, if_false, wI]
theorem aCopy60 (i j : Nat) (hi : i < 12) (h1 : 1 ≤ j) (h2 : j ≤ 2) : sjI 89 (kC cI cZ cJ cT cC ad) cI (29 + 5 * i + j) 60 := by
  refine ⟨by omega, by omega, fun M L => ?_⟩
  have a1 : ¬ (29 + 5 * i + j < 9) := by omega
  have a2 : ¬ (29 + 5 * i + j < 29) := by omega
  have a3 : ¬ ((29 + 5 * i + j - 29) % 5 = 0) := by omega
  have a4 : ¬ ((29 + 5 * i + j - 29) % 5 = 3) := by omega
  have a5 : ¬ ((29 + 5 * i + j - 29) % 5 = 4) := by omega
  simp only [kC, a1, a2, a3, a4, a5, if_true, if_false, wI]
theorem aCopyZ (i : Nat) (hi : i < 12) : sjI 89 (kC cI cZ cJ cT cC ad) cZ (29 + 5 * i + 3) 60 := by
  refine ⟨by omega, by omega, fun M L => ?_⟩
  have a1 : ¬ (29 + 5 * i + 3 < 9) := by omega
  have a2 : ¬ (29 + 5 * i + 3 < 29) := by omega
  have a3 : ¬ ((29 + 5 * i + 3 - 29) % 5 = 0) := by omega
  have a4 : (29 + 5 * i + 3 - 29) % 5 = 3 := by omega
  simp only [kC, a1, a2, a3, a4, if_true, if_false, wI]
  rfl
theorem aCopyS (i : Nat) (hi : i < 12) : sjI 89 (kC cI cZ cJ cT cC ad) cI (29 + 5 * i + 4) 160 := by
  refine ⟨by omega, by omega, fun M L => ?_⟩
  have a1 : ¬ (29 + 5 * i + 4 < 9) := by omega
  have a2 : ¬ (29 + 5 * i + 4 < 29) := by omega
  have a3 : ¬ ((29 + 5 * i + 4 - 29) % 5 = 0) := by omega
  have a4 : ¬ ((29 + 5 * i + 4 - 29) % 5 = 3) := by omega
  have a5 : (29 + 5 * i + 4 - 29) % 5 = 4 := by omega
  simp only [kC, a1, a2, a3, a4, a5, if_true, if_false, wI]
  rfl
theorem pPage : sjP 0 (fPage ad) 6 0 := ⟨fun _ => rfl, fun M x => by simp [fPage, sjU]⟩
theorem pText (k : Nat) (w : Int32) : sjP k (fText ad k w) 10 0 ∧ sjP k (fText ad k w) 11 1 ∧ sjP k (fText ad k w) 12 2 :=
  ⟨⟨fun _ => rfl, fun M x => by simp [fText, sjU]⟩, ⟨fun _ => rfl, fun M x => by simp [fText, sjU]⟩, ⟨fun _ => rfl, fun M x => by simp [fText, sjU]⟩⟩
theorem pCopy0 (k t : Nat) : sjP k (fCopy ad k t) 5 0 := ⟨fun _ => rfl, fun M x => by simp [fCopy, sjU]⟩
theorem pCopy1 (k t : Nat) : sjP k (fCopy ad k t) 6 1 := ⟨fun _ => rfl, fun M x => by simp [fCopy, sjU]⟩
theorem pCopy2 (k t : Nat) : sjP k (fCopy ad k t) 7 2 := ⟨fun _ => rfl, fun M x => by simp [fCopy, sjU]⟩
theorem pCopy3 (k t : Nat) : sjP k (fCopy ad k t) 8 3 := ⟨fun _ => rfl, fun M x => by simp [fCopy, sjU]⟩
theorem pCopy4 (k t : Nat) : sjP k (fCopy ad k t) 9 4 := ⟨fun _ => rfl, fun M x => by simp [fCopy, sjU]⟩
theorem pCopy5 (k t : Nat) : sjP k (fCopy ad k t) 10 5 := ⟨fun _ => rfl, fun M x => by simp [fCopy, sjU]⟩
theorem pCopy6 (k t : Nat) : sjP k (fCopy ad k t) 11 6 := ⟨fun _ => rfl, fun M x => by simp [fCopy, sjU]⟩
end WC
/-! the reference's world: 26 cells -/
def fModel (ad : Nat → Nat) (M : sjM) : List Value := [.int (M 0 0), .ref (ad 1), .ref (ad 2), .ref (ad 3), .ref (ad 4), .ref (ad 5), .ref (ad 6), .ref (ad 7), .ref (ad 8), .ref (ad 9), .ref (ad 10), .ref (ad 11), .ref (ad 12), .ref (ad 13), .ref (ad 14), .ref (ad 15), .ref (ad 16), .ref (ad 17), .ref (ad 18), .int (M 0 1), .int (M 0 2), .ref (ad 19), .int (M 0 3), .ref (ad 20), .ref (ad 21), .ref (ad 22), .ref (ad 23), .ref (ad 24), .ref (ad 25)]
def lenR (k : Nat) : Nat := match k with
  | 1 => 2 | 2 => 120 | 3 => 120 | 4 => 120 | 5 => 120 | 6 => 120 | 7 => 10 | 8 => 2 | 9 => 2 | 10 => 320 | 11 => 320 | 12 => 320 | 13 => 660 | 14 => 11 | 15 => 660 | 16 => 660 | 17 => 1760 | 18 => 10 | 19 => 60 | 20 => 62 | 21 => 60 | 22 => 60 | 23 => 160 | 24 => 12 | _ => 4096
def kR (cI cZ cJ : ClassId) (ad : Nat → Nat) (M : sjM) (L : sjL) (k : Nat) : va_E :=
  if k = 0 then .inr (4, fModel ad M) else if k = 25 then .inl (cJ, 4096, .inr (.inl (fun j : Nat => L k (j : Int)))) else if k = 10 ∨ k = 15 ∨ k = 16 ∨ k = 21 ∨ k = 22 then wI cZ (lenR k) k M else wI cI (lenR k) k M
section WR
variable {cI cZ cJ : ClassId} {ad : Nat → Nat}
theorem kR_loc : ∀ (M M' : sjM) (L L' : sjL) (k : Nat), M k = M' k → L k = L' k → kR cI cZ cJ ad M L k = kR cI cZ cJ ad M' L' k := by
  intro M M' L L' k h1 h2
  unfold kR fModel wI
  by_cases h0 : k = 0
  · subst h0
    simp [h1]
  · simp [h0, h1, h2]
theorem oModel : sjO 26 (kR cI cZ cJ ad) 4 0 (fModel ad) := ⟨by omega, fun M L => by simp [kR]⟩
theorem rWays : sjJ 26 (kR cI cZ cJ ad) cJ 25 4096 := ⟨by omega, by omega, fun M L => by simp [kR]⟩
theorem pModel0 : sjP 0 (fModel ad) 0 0 := ⟨fun _ => rfl, fun M x => by simp [fModel, sjU]⟩
theorem pModel1 : sjP 0 (fModel ad) 19 1 := ⟨fun _ => rfl, fun M x => by simp [fModel, sjU]⟩
theorem pModel2 : sjP 0 (fModel ad) 20 2 := ⟨fun _ => rfl, fun M x => by simp [fModel, sjU]⟩
theorem pModel3 : sjP 0 (fModel ad) 22 3 := ⟨fun _ => rfl, fun M x => by simp [fModel, sjU]⟩
theorem rMade : sjI 26 (kR cI cZ cJ ad) cI 1 2 := ⟨by omega, by omega, fun M L => by simp [kR, wI, lenR]⟩
theorem rSite : sjI 26 (kR cI cZ cJ ad) cI 2 120 := ⟨by omega, by omega, fun M L => by simp [kR, wI, lenR]⟩
theorem rClock : sjI 26 (kR cI cZ cJ ad) cI 3 120 := ⟨by omega, by omega, fun M L => by simp [kR, wI, lenR]⟩
theorem rLetter : sjI 26 (kR cI cZ cJ ad) cI 4 120 := ⟨by omega, by omega, fun M L => by simp [kR, wI, lenR]⟩
theorem rLeft : sjI 26 (kR cI cZ cJ ad) cI 5 120 := ⟨by omega, by omega, fun M L => by simp [kR, wI, lenR]⟩
theorem rRight : sjI 26 (kR cI cZ cJ ad) cI 6 120 := ⟨by omega, by omega, fun M L => by simp [kR, wI, lenR]⟩
theorem rClocks : sjI 26 (kR cI cZ cJ ad) cI 7 10 := ⟨by omega, by omega, fun M L => by simp [kR, wI, lenR]⟩
theorem rMsgs : sjI 26 (kR cI cZ cJ ad) cI 8 2 := ⟨by omega, by omega, fun M L => by simp [kR, wI, lenR]⟩
theorem rErases : sjI 26 (kR cI cZ cJ ad) cI 9 2 := ⟨by omega, by omega, fun M L => by simp [kR, wI, lenR]⟩
theorem rIsE : sjI 26 (kR cI cZ cJ ad) cZ 10 320 := ⟨by omega, by omega, fun M L => by simp [kR, wI, lenR]⟩
theorem rChar : sjI 26 (kR cI cZ cJ ad) cI 11 320 := ⟨by omega, by omega, fun M L => by simp [kR, wI, lenR]⟩
theorem rMaker : sjI 26 (kR cI cZ cJ ad) cI 12 320 := ⟨by omega, by omega, fun M L => by simp [kR, wI, lenR]⟩
theorem rRow : sjI 26 (kR cI cZ cJ ad) cI 13 660 := ⟨by omega, by omega, fun M L => by simp [kR, wI, lenR]⟩
theorem rMany : sjI 26 (kR cI cZ cJ ad) cI 14 11 := ⟨by omega, by omega, fun M L => by simp [kR, wI, lenR]⟩
theorem rHas : sjI 26 (kR cI cZ cJ ad) cZ 15 660 := ⟨by omega, by omega, fun M L => by simp [kR, wI, lenR]⟩
theorem rErased : sjI 26 (kR cI cZ cJ ad) cZ 16 660 := ⟨by omega, by omega, fun M L => by simp [kR, wI, lenR]⟩
theorem rState : sjI 26 (kR cI cZ cJ ad) cI 17 1760 := ⟨by omega, by omega, fun M L => by simp [kR, wI, lenR]⟩
theorem rLooks : sjI 26 (kR cI cZ cJ ad) cI 18 10 := ⟨by omega, by omega, fun M L => by simp [kR, wI, lenR]⟩
theorem rOut : sjI 26 (kR cI cZ cJ ad) cI 19 60 := ⟨by omega, by omega, fun M L => by simp [kR, wI, lenR]⟩
theorem rLine : sjI 26 (kR cI cZ cJ ad) cI 20 62 := ⟨by omega, by omega, fun M L => by simp [kR, wI, lenR]⟩
theorem rPassed : sjI 26 (kR cI cZ cJ ad) cZ 21 60 := ⟨by omega, by omega, fun M L => by simp [kR, wI, lenR]⟩
theorem rOpen : sjI 26 (kR cI cZ cJ ad) cZ 22 60 := ⟨by omega, by omega, fun M L => by simp [kR, wI, lenR]⟩
theorem rLeftR : sjI 26 (kR cI cZ cJ ad) cI 23 160 := ⟨by omega, by omega, fun M L => by simp [kR, wI, lenR]⟩
theorem rAhead : sjI 26 (kR cI cZ cJ ad) cI 24 12 := ⟨by omega, by omega, fun M L => by simp [kR, wI, lenR]⟩
end WR
