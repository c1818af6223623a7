/-! the drawing of shuffle: the seed's upper half, modulo how many are left -/
def up16 (s : Int) : Nat := (iI s).toBitVec.toNat / 65536
theorem nI_self (x : Int32) : nI x.toBitVec.toNat = x := by
  apply Int32.toBitVec_inj.mp
  apply BitVec.eq_of_toNat_eq
  rw [pk_tn (by have := x.toBitVec.isLt; omega)]
theorem nI_iI (n : Nat) : nI n = iI (n : Int) := by
  unfold nI iI
  exact (Int32.ofInt_eq_ofNat).symm
theorem ushr16 (s : Int) : ((iI s).toUInt32 >>> ((iI 16).toUInt32 &&& Int32.toUInt32 31)).toInt32 = iI (up16 s : Int) := by
  have h := pk_ushrN (n := (iI s).toBitVec.toNat) (by have := (iI s).toBitVec.isLt; omega) (iI 16) 16 (by decide)
  rw [nI_self] at h
  rw [h, nI_iI]
  rfl
theorem up16_lt (s : Int) : up16 s < 65536 := by
  have := (iI s).toBitVec.isLt
  unfold up16
  omega
theorem rem16 (s r : Int) (h0 : 0 < r) (h1 : r ≤ 160) : iI (up16 s : Int) - iI (up16 s : Int) / iI r * iI r = iI ((up16 s : Int) % r) := by
  have hs := up16_lt s
  have h := pk_rem (a := up16 s) (d := r.toNat) (by omega) (by omega) (by omega)
  rw [nI_iI, nI_iI, nI_iI, show ((r.toNat : Nat) : Int) = r by omega] at h
  rw [h]
  congr 1
  rw [Int.natCast_emod, show ((r.toNat : Nat) : Int) = r by omega]
