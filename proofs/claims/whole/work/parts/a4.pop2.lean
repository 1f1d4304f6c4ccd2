theorem sh_N {x : Int64} {k : Int32} {j : Nat} (hk : (Int64.toUInt64 (Int32.toInt64 k)) &&& Int64.toUInt64 63 = UInt64.ofNat j) (hj : j < 64) : (shL x k).toBitVec.toNat = x.toBitVec.toNat / 2 ^ j := by
  unfold shL
  rw [hk]
  show (x.toUInt64 >>> UInt64.ofNat j).toBitVec.toNat = _
  show (x.toUInt64 >>> UInt64.ofNat j).toNat = _
  rw [UInt64.toNat_shiftRight, UInt64.toNat_ofNat', show j % 2 ^ 64 % 64 = j by omega, Nat.shiftRight_eq_div_pow]
  rfl
def s64a (x : Int64) : Int64 := x - (shL x 1 &&& 6148914691236517205)
def s64b (x : Int64) : Int64 := (x &&& 3689348814741910323) + (shL x 2 &&& 3689348814741910323)
def s64c (x : Int64) : Int64 := (x + shL x 4) &&& 1085102592571150095
def s64d (x : Int64) : Int64 := x + shL x 8
def s64e (x : Int64) : Int64 := x + shL x 16
def s64f (x : Int64) : Int64 := x + shL x 32
theorem pcL_e (x : Int64) : pcL x = (s64f (s64e (s64d (s64c (s64b (s64a x)))))).toInt32 &&& 127 := rfl
theorem k85 : (6148914691236517205 : Int64).toBitVec.toNat = mkB 85 8 := by decide +kernel
theorem k51 : (3689348814741910323 : Int64).toBitVec.toNat = mkB 51 8 := by decide +kernel
theorem k15 : (1085102592571150095 : Int64).toBitVec.toNat = mkB 15 8 := by decide +kernel
theorem s64a_N {x : Int64} : (s64a x).toBitVec.toNat = swA 8 x.toBitVec.toNat := by
  have hx : x.toBitVec.toNat < 2 ^ 64 := x.toBitVec.isLt
  have e1 : (shL x 1 &&& 6148914691236517205).toBitVec.toNat = (x.toBitVec.toNat / 2) &&& mkB 85 8 := by
    rw [Int64.toBitVec_and, BitVec.toNat_and, sh_N (k := 1) (j := 1) (by decide +kernel) (by decide), k85]
  have e2 := swA_le (k := 8) (x := x.toBitVec.toNat)
  unfold s64a swA
  rw [Int64.toBitVec_sub, BitVec.toNat_sub, e1]
  omega
theorem s64b_N {x : Int64} {n0 : Nat} (h : x.toBitVec.toNat = swA 8 n0) : (s64b x).toBitVec.toNat = swB 8 n0 ∧ swB 8 n0 ≤ 7378697629483820646 := by
  have l1 : swA 8 n0 &&& mkB 51 8 ≤ mkB 51 8 := Nat.and_le_right
  have l2 : (swA 8 n0 / 4) &&& mkB 51 8 ≤ mkB 51 8 := Nat.and_le_right
  have m : mkB 51 8 = 3689348814741910323 := by decide +kernel
  have e1 : (x &&& 3689348814741910323).toBitVec.toNat = swA 8 n0 &&& mkB 51 8 := by rw [Int64.toBitVec_and, BitVec.toNat_and, h, k51]
  have e2 : (shL x 2 &&& 3689348814741910323).toBitVec.toNat = (swA 8 n0 / 4) &&& mkB 51 8 := by
    rw [Int64.toBitVec_and, BitVec.toNat_and, sh_N (k := 2) (j := 2) (by decide +kernel) (by decide), h, k51]
  unfold s64b swB
  rw [Int64.toBitVec_add, BitVec.toNat_add, e1, e2]
  omega
theorem s64c_N {x : Int64} {n0 : Nat} (h : x.toBitVec.toNat = swB 8 n0) (hl : swB 8 n0 ≤ 7378697629483820646) : (s64c x).toBitVec.toNat = swC 8 n0 ∧ swC 8 n0 ≤ 1085102592571150095 := by
  have l1 : (swB 8 n0 + swB 8 n0 / 16) &&& mkB 15 8 ≤ mkB 15 8 := Nat.and_le_right
  have m : mkB 15 8 = 1085102592571150095 := by decide +kernel
  have e1 : (x + shL x 4).toBitVec.toNat = swB 8 n0 + swB 8 n0 / 16 := by
    rw [Int64.toBitVec_add, BitVec.toNat_add, sh_N (k := 4) (j := 4) (by decide +kernel) (by decide), h]
    omega
  refine ⟨?_, by unfold swC; omega⟩
  unfold s64c swC
  rw [Int64.toBitVec_and, BitVec.toNat_and, e1, k15]
