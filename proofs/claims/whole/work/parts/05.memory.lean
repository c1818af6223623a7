section SJM
variable {p : Program} {l : Launch} {e : Env} {R : Room} {s : State} {m : MethodId} {args : Array Value} {below : List Frame} {meth : Method} {c : Code} {cc : ByteArray} {nL : Nat} {Ts : List Cond} {own : String} {D : va_G} {cI cZ cJ cT cC : ClassId} {N : Nat} {ad : Nat → Nat} {ct : sjM → sjL → Nat → va_E} {A : Nat → Prop} {H0 : Heap} {Q : State → Prop} {pc : Nat} {M : sjM} {L : sjL} {lv lv' : List (Option Value)} {st : List Value}
theorem sj_iald (F : sjF p s m args c cc nL Ts own D cI cZ cJ cT cC N ad ct A) {k n : Nat} {z : Int} (hI : sjI N ct cI k n) (hz : 0 ≤ z ∧ z < n) (hdg : decode cc pc = .ok (.iaload, 1)) (kk : sj p l e R s m args below meth c D N ad ct A H0 nL Q (pc + 1) M L lv (.int (iI (M k z).toInt) :: st)) : sj p l e R s m args below meth c D N ad ct A H0 nL Q pc M L lv (.int (iI z) :: .ref (ad k) :: st) := by
  obtain ⟨hk, hn, hc⟩ := hI
  rw [iI_of] at kk
  intro H locs ls hP hS hsz hl
  refine va_iald (n := n) (f := fun j : Nat => M k (j : Int)) F.1.1 F.1.2.1 F.2.1 hP k 0 (by rw [sjW_get hk, hc]) rfl (iI_in hz.1 hz.2 hn) hdg ?_
  have h := iI_cl hz.1 (show z ≤ 5000 by omega)
  try dsimp only
  rw [h]
  exact kk H locs ls hP hS hsz hl
theorem sj_zald (F : sjF p s m args c cc nL Ts own D cI cZ cJ cT cC N ad ct A) {k n : Nat} {z : Int} (hI : sjI N ct cZ k n) (hz : 0 ≤ z ∧ z < n) (hdg : decode cc pc = .ok (.baload, 1)) (kk : sj p l e R s m args below meth c D N ad ct A H0 nL Q (pc + 1) M L lv (.int (iI (M k z).toInt) :: st)) : sj p l e R s m args below meth c D N ad ct A H0 nL Q pc M L lv (.int (iI z) :: .ref (ad k) :: st) := by
  obtain ⟨hk, hn, hc⟩ := hI
  rw [iI_of] at kk
  intro H locs ls hP hS hsz hl
  refine va_zald (n := n) (f := fun j : Nat => M k (j : Int)) F.1.1 F.1.2.1 F.2.1 hP k 1 (by rw [sjW_get hk, hc]) rfl (iI_in hz.1 hz.2 hn) hdg ?_
  have h := iI_cl hz.1 (show z ≤ 5000 by omega)
  try dsimp only
  rw [h]
  exact kk H locs ls hP hS hsz hl
theorem sj_lald (F : sjF p s m args c cc nL Ts own D cI cZ cJ cT cC N ad ct A) {k n : Nat} {z : Int} (hI : sjJ N ct cJ k n) (hz : 0 ≤ z ∧ z < n) (hdg : decode cc pc = .ok (.laload, 1)) (kk : sj p l e R s m args below meth c D N ad ct A H0 nL Q (pc + 1) M L lv (.long (L k z) :: st)) : sj p l e R s m args below meth c D N ad ct A H0 nL Q pc M L lv (.int (iI z) :: .ref (ad k) :: st) := by
  obtain ⟨hk, hn, hc⟩ := hI
  intro H locs ls hP hS hsz hl
  refine va_lald (n := n) (f := fun j : Nat => L k (j : Int)) F.1.1 F.1.2.1 F.2.1 hP k 2 (by rw [sjW_get hk, hc]) rfl (iI_in hz.1 hz.2 hn) hdg ?_
  have h := iI_cl hz.1 (show z ≤ 5000 by omega)
  try dsimp only
  rw [h]
  exact kk H locs ls hP hS hsz hl
theorem sj_aald (F : sjF p s m args c cc nL Ts own D cI cZ cJ cT cC N ad ct A) {k n : Nat} {z : Int} {cR : ClassId} {g : Int → Nat} (t0 : Nat) {C : String} (ht : (sjT cI cZ cJ cT cC)[t0]? = some (cR, .object C)) (hI : sjR N ct cR k n g) (hz : 0 ≤ z ∧ z < n) (hdg : decode cc pc = .ok (.aaload, 1)) (kk : sj p l e R s m args below meth c D N ad ct A H0 nL Q (pc + 1) M L lv (.ref (g z) :: st)) : sj p l e R s m args below meth c D N ad ct A H0 nL Q pc M L lv (.int (iI z) :: .ref (ad k) :: st) := by
  obtain ⟨hk, hn, hc⟩ := hI
  intro H locs ls hP hS hsz hl
  refine va_aldq (n := n) (f := fun j : Nat => some (g (j : Int))) F.1.1 F.1.2.1 F.2.1 hP k t0 (by rw [sjW_get hk, hc]) ht (iI_in hz.1 hz.2 hn) hdg ?_
  have h := iI_cl hz.1 (show z ≤ 5000 by omega)
  try dsimp only
  rw [h]
  exact kk H locs ls hP hS hsz hl
theorem sj_alenI (F : sjF p s m args c cc nL Ts own D cI cZ cJ cT cC N ad ct A) {k n : Nat} (hI : sjI N ct cI k n) (hdg : decode cc pc = .ok (.arraylength, 1)) (kk : sj p l e R s m args below meth c D N ad ct A H0 nL Q (pc + 1) M L lv (.int (iI n) :: st)) : sj p l e R s m args below meth c D N ad ct A H0 nL Q pc M L lv (.ref (ad k) :: st) := by
  obtain ⟨hk, hn, hc⟩ := hI
  intro H locs ls hP hS hsz hl
  exact va_alen F.1.1 F.1.2.1 F.2.1 hP k 0 (by rw [sjW_get hk, hc]) rfl (v := iI n) (by exact (Int32.ofInt_eq_ofNat).symm) hdg (kk H locs ls hP hS hsz hl)
theorem sj_alenJ (F : sjF p s m args c cc nL Ts own D cI cZ cJ cT cC N ad ct A) {k n : Nat} (hI : sjJ N ct cJ k n) (hdg : decode cc pc = .ok (.arraylength, 1)) (kk : sj p l e R s m args below meth c D N ad ct A H0 nL Q (pc + 1) M L lv (.int (iI n) :: st)) : sj p l e R s m args below meth c D N ad ct A H0 nL Q pc M L lv (.ref (ad k) :: st) := by
  obtain ⟨hk, hn, hc⟩ := hI
  intro H locs ls hP hS hsz hl
  exact va_alen F.1.1 F.1.2.1 F.2.1 hP k 2 (by rw [sjW_get hk, hc]) rfl (v := iI n) (by exact (Int32.ofInt_eq_ofNat).symm) hdg (kk H locs ls hP hS hsz hl)
theorem sj_alenR (F : sjF p s m args c cc nL Ts own D cI cZ cJ cT cC N ad ct A) {k n : Nat} {cR : ClassId} {g : Int → Nat} (t0 : Nat) {C : String} (ht : (sjT cI cZ cJ cT cC)[t0]? = some (cR, .object C)) (hI : sjR N ct cR k n g) (hdg : decode cc pc = .ok (.arraylength, 1)) (kk : sj p l e R s m args below meth c D N ad ct A H0 nL Q (pc + 1) M L lv (.int (iI n) :: st)) : sj p l e R s m args below meth c D N ad ct A H0 nL Q pc M L lv (.ref (ad k) :: st) := by
  obtain ⟨hk, hn, hc⟩ := hI
  intro H locs ls hP hS hsz hl
  exact va_alen F.1.1 F.1.2.1 F.2.1 hP k t0 (by rw [sjW_get hk, hc]) ht (v := iI n) (by exact (Int32.ofInt_eq_ofNat).symm) hdg (kk H locs ls hP hS hsz hl)
theorem sjW_put (F : sjF p s m args c cc nL Ts own D cI cZ cJ cT cC N ad ct A) {M' : sjM} {L' : sjL} {k : Nat} {a : va_E} (hk : k < N) (h1 : ∀ j, j ≠ k → M' j = M j) (h2 : ∀ j, j ≠ k → L' j = L j) (ha : ct M' L' k = a) : (sjW N ad (ct M L)).set k (ad k, a) = sjW N ad (ct M' L') :=
  sjW_set hk ha (fun j hj => F.2.2.2 M' M L' L j (h1 j hj) (h2 j hj))
theorem sj_iast (F : sjF p s m args c cc nL Ts own D cI cZ cJ cT cC N ad ct A) {k n : Nat} {z : Int} {x : Int32} (hI : sjI N ct cI k n) (hz : 0 ≤ z ∧ z < n) (hdg : decode cc pc = .ok (.iastore, 1)) (kk : sj p l e R s m args below meth c D N ad ct A H0 nL Q (pc + 1) (sjU M k z x) L lv st) : sj p l e R s m args below meth c D N ad ct A H0 nL Q pc M L lv (.int x :: .int (iI z) :: .ref (ad k) :: st) := by
  obtain ⟨hk, hn, hc⟩ := hI
  intro H locs ls hP hS hsz hl
  have hin := iI_in hz.1 hz.2 hn
  have hcell : (sjW N ad (ct M L))[k]? = some (ad k, .inl (cI, n, .inl (fun j : Nat => M k (j : Int)))) := by rw [sjW_get hk, hc]
  refine W.iast F.1.1 F.1.2.1 (hP k _ hcell) ((F.2.1.2 0 _ rfl).1 n (fun j => .int (M k (j : Int)))) (fun q => by cases q) (by show ¬ (iI z < 0 ∨ (arrV _ _ _).slots.size ≤ _); rw [arrV_size]; exact hin) rfl rfl hdg fun H1 e z1 oq => ?_
  have hA := (F.2.2.1 (ct M L)).2 k _ hcell
  have hput : (sjW N ad (ct M L)).set k (ad k, .inl (cI, n, .inl (fun j : Nat => sjU M k z x k (j : Int)))) = sjW N ad (ct (sjU M k z x) L) := sjW_put F hk (fun j hj => sjU_o hj) (fun j _ => rfl) (hc _ _)
  refine kk H1 _ ls ?_ (hS.put z1 oq hA) (z1.trans hsz) hl
  rw [← hput]
  refine hP.set (F.2.2.1 (ct M L)) hcell ?_ oq
  show H1[ad k]? = some (vp_cell _ _)
  rw [e]
  rw [vp_cell_i, vp_cell_i, arrV_store]
  congr 2
  funext q
  have h := iI_cl hz.1 (show z ≤ 5000 by omega)
  by_cases hq : q = (iI z).toNatClampNeg
  · subst hq
    simp [updV, sjU, h]
  · have hq2 : ¬ ((q : Int) = z) := fun w => hq (by omega)
    simp [updV, sjU, hq, hq2]
theorem sj_last (F : sjF p s m args c cc nL Ts own D cI cZ cJ cT cC N ad ct A) {k n : Nat} {z : Int} {x : Int64} (hI : sjJ N ct cJ k n) (hz : 0 ≤ z ∧ z < n) (hdg : decode cc pc = .ok (.lastore, 1)) (kk : sj p l e R s m args below meth c D N ad ct A H0 nL Q (pc + 1) M (sjV L k z x) lv st) : sj p l e R s m args below meth c D N ad ct A H0 nL Q pc M L lv (.long x :: .int (iI z) :: .ref (ad k) :: st) := by
  obtain ⟨hk, hn, hc⟩ := hI
  intro H locs ls hP hS hsz hl
  have hin := iI_in hz.1 hz.2 hn
  have hcell : (sjW N ad (ct M L))[k]? = some (ad k, .inl (cJ, n, .inr (.inl (fun j : Nat => L k (j : Int))))) := by rw [sjW_get hk, hc]
  refine W.last F.1.1 F.1.2.1 (hP k _ hcell) ((F.2.1.2 2 _ rfl).1 n (fun j => .long (L k (j : Int)))) (fun q => by cases q) (by show ¬ (iI z < 0 ∨ (arrV _ _ _).slots.size ≤ _); rw [arrV_size]; exact hin) rfl rfl hdg fun H1 e z1 oq => ?_
  have hA := (F.2.2.1 (ct M L)).2 k _ hcell
  have hput : (sjW N ad (ct M L)).set k (ad k, .inl (cJ, n, .inr (.inl (fun j : Nat => sjV L k z x k (j : Int))))) = sjW N ad (ct M (sjV L k z x)) := sjW_put F hk (fun j _ => rfl) (fun j hj => sjV_o hj) (hc _ _)
  refine kk H1 _ ls ?_ (hS.put z1 oq hA) (z1.trans hsz) hl
  rw [← hput]
  refine hP.set (F.2.2.1 (ct M L)) hcell ?_ oq
  show H1[ad k]? = some (vp_cell _ _)
  rw [e]
  rw [vp_cell_l, vp_cell_l, arrV_store]
  congr 2
  funext q
  have h := iI_cl hz.1 (show z ≤ 5000 by omega)
  by_cases hq : q = (iI z).toNatClampNeg
  · subst hq
    simp [updV, sjV, h]
  · have hq2 : ¬ ((q : Int) = z) := fun w => hq (by omega)
    simp [updV, sjV, hq, hq2]
end SJM
