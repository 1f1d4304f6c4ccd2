/-- how many of the lowest k bits are set -/
def pcN : Nat → Nat → Nat
  | 0, _ => 0
  | k + 1, x => x % 2 + pcN k (x / 2)
theorem pcN_z : ∀ k : Nat, pcN k 0 = 0
  | 0 => rfl
  | k + 1 => by show 0 % 2 + pcN k (0 / 2) = 0; rw [show 0 / 2 = 0 from rfl, pcN_z k]
theorem pcN_add : ∀ (i k x : Nat), x < 2 ^ i → i < k → pcN k (x + 2 ^ i) = pcN k x + 1
  | 0, k + 1, x, hx, _ => by
    obtain rfl : x = 0 := by omega
    show (0 + 2 ^ 0) % 2 + pcN k ((0 + 2 ^ 0) / 2) = 0 % 2 + pcN k (0 / 2) + 1
    rw [show (0 + 2 ^ 0) / 2 = 0 from rfl, show 0 / 2 = 0 from rfl, pcN_z]
  | i + 1, k + 1, x, hx, hk => by
    show (x + 2 ^ (i + 1)) % 2 + pcN k ((x + 2 ^ (i + 1)) / 2) = x % 2 + pcN k (x / 2) + 1
    rw [Nat.pow_succ] at hx ⊢
    rw [show (x + 2 ^ i * 2) % 2 = x % 2 by omega, show (x + 2 ^ i * 2) / 2 = x / 2 + 2 ^ i by omega, pcN_add i k (x / 2) (by omega) (by omega)]
    omega
/-- a mask, byte by byte -/
def mkB (u : Nat) : Nat → Nat
  | 0 => 0
  | k + 1 => u + 256 * mkB u k
theorem and_sp {p q u w : Nat} (hp : p < 256) (hu : u < 256) : (p + 256 * q) &&& (u + 256 * w) = (p &&& u) + 256 * (q &&& w) := by
  have h1 : ((p + 256 * q) &&& (u + 256 * w)) % 2 ^ 8 = p &&& u := by
    rw [Nat.and_mod_two_pow, show (p + 256 * q) % 2 ^ 8 = p by omega, show (u + 256 * w) % 2 ^ 8 = u by omega]
  have h2 : ((p + 256 * q) &&& (u + 256 * w)) / 2 ^ 8 = q &&& w := by
    rw [Nat.and_div_two_pow, show (p + 256 * q) / 2 ^ 8 = q by omega, show (u + 256 * w) / 2 ^ 8 = w by omega]
  omega
def swA (k x : Nat) : Nat := x - ((x / 2) &&& mkB 85 k)
def swB (k x : Nat) : Nat := (swA k x &&& mkB 51 k) + ((swA k x / 4) &&& mkB 51 k)
def swC (k x : Nat) : Nat := (swB k x + swB k x / 16) &&& mkB 15 k
theorem by_1 : ∀ (v : Fin 256) (z : Fin 2), (v.val / 2 + 128 * z.val) &&& 85 = (v.val / 2) &&& 85 := by decide +kernel
theorem by_2 : ∀ v : Fin 256, (v.val / 2) &&& 85 ≤ v.val ∧ v.val - ((v.val / 2) &&& 85) < 256 ∧ ((v.val - ((v.val / 2) &&& 85)) &&& 51) + (((v.val - ((v.val / 2) &&& 85)) / 4) &&& 51) ≤ 68 ∧ (((v.val - ((v.val / 2) &&& 85)) &&& 51) + (((v.val - ((v.val / 2) &&& 85)) / 4) &&& 51)) % 16 ≤ 4 := by decide +kernel
theorem by_3 : ∀ (v : Fin 256) (z : Fin 4), (v.val / 4 + 64 * z.val) &&& 51 = (v.val / 4) &&& 51 := by decide +kernel
def c8 (v : Nat) : Nat := ((((v - ((v / 2) &&& 85)) &&& 51) + (((v - ((v / 2) &&& 85)) / 4) &&& 51)) + (((v - ((v / 2) &&& 85)) &&& 51) + (((v - ((v / 2) &&& 85)) / 4) &&& 51)) / 16) &&& 15
theorem by_4 : ∀ v : Fin 256, c8 v.val = pcN 8 v.val := by decide +kernel
theorem swA_le {k x : Nat} : (x / 2) &&& mkB 85 k ≤ x := Nat.le_trans Nat.and_le_left (by omega)
theorem swA_s {k v y : Nat} (hv : v < 256) : swA (k + 1) (v + 256 * y) = (v - ((v / 2) &&& 85)) + 256 * swA k y := by
  unfold swA
  have e := by_1 ⟨v, hv⟩ ⟨y % 2, by omega⟩
  dsimp only at e
  have h1 := (by_2 ⟨v, hv⟩).1
  dsimp only at h1
  have h2 := swA_le (k := k) (x := y)
  rw [show (v + 256 * y) / 2 = (v / 2 + 128 * (y % 2)) + 256 * (y / 2) by omega, show mkB 85 (k + 1) = 85 + 256 * mkB 85 k from rfl, and_sp (by omega) (by decide), e]
  omega
theorem swB_s {k v y : Nat} (hv : v < 256) : swB (k + 1) (v + 256 * y) = (((v - ((v / 2) &&& 85)) &&& 51) + (((v - ((v / 2) &&& 85)) / 4) &&& 51)) + 256 * swB k y := by
  have h2 := (by_2 ⟨v, hv⟩).2.1
  dsimp only at h2
  unfold swB
  rw [swA_s hv]
  generalize v - ((v / 2) &&& 85) = a at h2 ⊢
  have e := by_3 ⟨a, h2⟩ ⟨swA k y % 4, by omega⟩
  dsimp only at e
  generalize swA k y = z at e ⊢
  rw [show mkB 51 (k + 1) = 51 + 256 * mkB 51 k from rfl, and_sp h2 (by decide), show (a + 256 * z) / 4 = (a / 4 + 64 * (z % 4)) + 256 * (z / 4) by omega, and_sp (by omega) (by decide), e]
  omega
theorem swB_4 : ∀ (k x : Nat), x < 256 ^ k → swB k x % 16 ≤ 4
  | 0, x, _ => by show ((swA 0 x &&& 0) + ((swA 0 x / 4) &&& 0)) % 16 ≤ 4; rw [Nat.and_zero, Nat.and_zero]; decide
  | k + 1, x, hx => by
    have e := swB_s (k := k) (v := x % 256) (y := x / 256) (by omega)
    rw [show x % 256 + 256 * (x / 256) = x by omega] at e
    have h := (by_2 ⟨x % 256, by omega⟩).2.2.2
    dsimp only at h
    rw [e]
    omega
theorem swC_s {k v y : Nat} (hv : v < 256) (hy : y < 256 ^ k) : swC (k + 1) (v + 256 * y) = c8 v + 256 * swC k y := by
  have h4 := swB_4 k y hy
  have h3 := (by_2 ⟨v, hv⟩).2.2.1
  dsimp only at h3
  unfold swC c8
  rw [swB_s hv]
  generalize ((v - ((v / 2) &&& 85)) &&& 51) + (((v - ((v / 2) &&& 85)) / 4) &&& 51) = b at h3 ⊢
  generalize swB k y = z at h4 ⊢
  rw [show b + 256 * z + (b + 256 * z) / 16 = (b + b / 16 + 16 * (z % 16)) + 256 * (z + z / 16) by omega, show mkB 15 (k + 1) = 15 + 256 * mkB 15 k from rfl, and_sp (by omega) (by decide)]
  rw [show (15 : Nat) = 2 ^ 4 - 1 from rfl, Nat.and_two_pow_sub_one_eq_mod, Nat.and_two_pow_sub_one_eq_mod]
  omega
theorem pcN_8 {v y : Nat} (k : Nat) (hv : v < 256) : pcN (8 + k) (v + 256 * y) = pcN 8 v + pcN k y := by
  rw [show 8 + k = k + 8 by omega]
  show (v + 256 * y) % 2 + ((v + 256 * y) / 2 % 2 + ((v + 256 * y) / 2 / 2 % 2 + ((v + 256 * y) / 2 / 2 / 2 % 2 + ((v + 256 * y) / 2 / 2 / 2 / 2 % 2 + ((v + 256 * y) / 2 / 2 / 2 / 2 / 2 % 2 + ((v + 256 * y) / 2 / 2 / 2 / 2 / 2 / 2 % 2 + ((v + 256 * y) / 2 / 2 / 2 / 2 / 2 / 2 / 2 % 2 + pcN k ((v + 256 * y) / 2 / 2 / 2 / 2 / 2 / 2 / 2 / 2)))))))) = (v % 2 + (v / 2 % 2 + (v / 2 / 2 % 2 + (v / 2 / 2 / 2 % 2 + (v / 2 / 2 / 2 / 2 % 2 + (v / 2 / 2 / 2 / 2 / 2 % 2 + (v / 2 / 2 / 2 / 2 / 2 / 2 % 2 + (v / 2 / 2 / 2 / 2 / 2 / 2 / 2 % 2 + 0)))))))) + pcN k y
  rw [show (v + 256 * y) / 2 / 2 / 2 / 2 / 2 / 2 / 2 / 2 = y by omega]
  generalize pcN k y = z
  omega
/-- the bytes of the third step are the bytes' own counts -/
def sbB : Nat → Nat → Nat
  | 0, _ => 0
  | k + 1, x => x % 256 + sbB k (x / 256)
theorem sw_sum : ∀ (k x : Nat), x < 256 ^ k → sbB k (swC k x) = pcN (8 * k) x ∧ ∀ j, swC k x / 256 ^ j % 256 ≤ 8
  | 0, x, _ => ⟨rfl, fun j => by show ((swB 0 x + swB 0 x / 16) &&& 0) / 256 ^ j % 256 ≤ 8; rw [Nat.and_zero, Nat.zero_div]; decide⟩
  | k + 1, x, hx => by
    rw [Nat.pow_succ] at hx
    have hy : x / 256 < 256 ^ k := Nat.div_lt_of_lt_mul (by rw [Nat.mul_comm]; exact hx)
    have e := swC_s (k := k) (v := x % 256) (y := x / 256) (by omega) hy
    rw [show x % 256 + 256 * (x / 256) = x by omega] at e
    obtain ⟨h1, h2⟩ := sw_sum k (x / 256) hy
    have h3 := by_4 ⟨x % 256, by omega⟩
    dsimp only at h3
    have h8 : c8 (x % 256) < 16 := Nat.lt_of_le_of_lt Nat.and_le_right (by decide)
    have h9 : pcN 8 (x % 256) ≤ 8 := (by decide +kernel : ∀ v : Fin 256, pcN 8 v.val ≤ 8) ⟨x % 256, by omega⟩
    have e8 := pcN_8 (v := x % 256) (y := x / 256) (8 * k) (by omega)
    rw [show x % 256 + 256 * (x / 256) = x by omega] at e8
    refine ⟨?_, fun j => ?_⟩
    · show swC (k + 1) x % 256 + sbB k (swC (k + 1) x / 256) = pcN (8 * (k + 1)) x
      rw [show 8 * (k + 1) = 8 + 8 * k by omega, e8, e, show (c8 (x % 256) + 256 * swC k (x / 256)) % 256 = c8 (x % 256) by omega, show (c8 (x % 256) + 256 * swC k (x / 256)) / 256 = swC k (x / 256) by omega, h1, h3]
    · match j with
      | 0 => rw [e, h3]; show (pcN 8 (x % 256) + 256 * swC k (x / 256)) / 1 % 256 ≤ 8; rw [Nat.div_one]; omega
      | j + 1 => rw [e, Nat.pow_succ, Nat.mul_comm, ← Nat.div_div_eq_div_mul, show (c8 (x % 256) + 256 * swC k (x / 256)) / 256 = swC k (x / 256) by omega]; exact h2 j
theorem sh_N {x : Int64} {k : Int32} {j : Nat} (hk : (Int64.toUInt64 (Int32.toInt64 k)) &&& Int64.toUInt64 63 = UInt64.ofNat j) (hj : j < 64) : (shL x k).toBitVec.toNat = x.toBitVec.toNat / 2 ^ j := by
  unfold shL
  rw [hk]
  show (x.toUInt64 >>> UInt64.ofNat j).toBitVec.toNat = _
  show (x.toUInt64 >>> UInt64.ofNat j).toNat = _
  rw [UInt64.toNat_shiftRight, UInt64.toNat_ofNat', show j % 2 ^ 64 % 64 = j by omega, Nat.shiftRight_eq_div_pow]
  rfl
def s64a (x : Int64) : Int64 := x - (shL x 1 &&& 6148914691236517205)
def s64b (x : Int64) : Int64 := (x &&& 3689348814741910323) + (shL x 2 &&& 3689348814741910323)
def s64c (x : Int64) : Int64 := (x + shL x 4) &&& 1085102592571150095
def s64d (x : Int64) : Int64 := x + shL x 8
def s64e (x : Int64) : Int64 := x + shL x 16
def s64f (x : Int64) : Int64 := x + shL x 32
theorem pcL_e (x : Int64) : pcL x = (s64f (s64e (s64d (s64c (s64b (s64a x)))))).toInt32 &&& 127 := rfl
theorem s64a_N {x : Int64} : (s64a x).toBitVec.toNat = swA 8 x.toBitVec.toNat := by
  have hx : x.toBitVec.toNat < 2 ^ 64 := x.toBitVec.isLt
  have e1 : (shL x 1 &&& 6148914691236517205).toBitVec.toNat = (x.toBitVec.toNat / 2) &&& mkB 85 8 := by
    rw [Int64.toBitVec_and, BitVec.toNat_and, sh_N (k := 1) (j := 1) (by decide) (by decide)]; rfl
  have e2 := swA_le (k := 8) (x := x.toBitVec.toNat)
  unfold s64a swA
  rw [Int64.toBitVec_sub, BitVec.toNat_sub, e1]
  omega
theorem s64b_N {x : Int64} {n0 : Nat} (h : x.toBitVec.toNat = swA 8 n0) : (s64b x).toBitVec.toNat = swB 8 n0 ∧ swB 8 n0 ≤ 7378697629483820646 := by
  have l1 : swA 8 n0 &&& mkB 51 8 ≤ mkB 51 8 := Nat.and_le_right
  have l2 : (swA 8 n0 / 4) &&& mkB 51 8 ≤ mkB 51 8 := Nat.and_le_right
  have m : mkB 51 8 = 3689348814741910323 := rfl
  have e1 : (x &&& 3689348814741910323).toBitVec.toNat = swA 8 n0 &&& mkB 51 8 := by rw [Int64.toBitVec_and, BitVec.toNat_and, h]; rfl
  have e2 : (shL x 2 &&& 3689348814741910323).toBitVec.toNat = (swA 8 n0 / 4) &&& mkB 51 8 := by
    rw [Int64.toBitVec_and, BitVec.toNat_and, sh_N (k := 2) (j := 2) (by decide) (by decide), h]; rfl
  unfold s64b swB
  rw [Int64.toBitVec_add, BitVec.toNat_add, e1, e2]
  omega
theorem s64c_N {x : Int64} {n0 : Nat} (h : x.toBitVec.toNat = swB 8 n0) (hl : swB 8 n0 ≤ 7378697629483820646) : (s64c x).toBitVec.toNat = swC 8 n0 ∧ swC 8 n0 ≤ 1085102592571150095 := by
  have l1 : (swB 8 n0 + swB 8 n0 / 16) &&& mkB 15 8 ≤ mkB 15 8 := Nat.and_le_right
  have m : mkB 15 8 = 1085102592571150095 := rfl
  have e1 : (x + shL x 4).toBitVec.toNat = swB 8 n0 + swB 8 n0 / 16 := by
    rw [Int64.toBitVec_add, BitVec.toNat_add, sh_N (k := 4) (j := 4) (by decide) (by decide), h]
    omega
  refine ⟨?_, by unfold swC; omega⟩
  unfold s64c swC
  rw [Int64.toBitVec_and, BitVec.toNat_and, e1]
  rfl
theorem s64_ad {x : Int64} {k : Int32} {j c : Nat} (hk : (Int64.toUInt64 (Int32.toInt64 k)) &&& Int64.toUInt64 63 = UInt64.ofNat j) (hj : j < 64) (h : x.toBitVec.toNat = c) (hc : c < 2 ^ 63) : (x + shL x k).toBitVec.toNat = c + c / 2 ^ j := by
  have := Nat.div_le_self c (2 ^ j)
  rw [Int64.toBitVec_add, BitVec.toNat_add, sh_N hk hj, h]
  exact Nat.mod_eq_of_lt (by omega)
theorem and127 {x : Int64} {c : Nat} (h : x.toBitVec.toNat = c) : x.toInt32 &&& 127 = nI (c % 128) := by
  refine Int32.toBitVec_inj.mp (BitVec.eq_of_toNat_eq ?_)
  rw [Int32.toBitVec_and, BitVec.toNat_and, nI_toNat (by omega)]
  show (x.toBitVec.signExtend 32).toNat &&& 127 = c % 128
  rw [BitVec.signExtend_eq_setWidth_of_le _ (by decide), BitVec.toNat_setWidth, h, show (127 : Nat) = 2 ^ 7 - 1 from rfl, Nat.and_two_pow_sub_one_eq_mod]
  omega
theorem sum8 {c v0 v1 v2 v3 v4 v5 v6 v7 : Nat} (e : c = v0 + 256 * (v1 + 256 * (v2 + 256 * (v3 + 256 * (v4 + 256 * (v5 + 256 * (v6 + 256 * v7))))))) (h0 : v0 ≤ 8) (h1 : v1 ≤ 8) (h2 : v2 ≤ 8) (h3 : v3 ≤ 8) (h4 : v4 ≤ 8) (h5 : v5 ≤ 8) (h6 : v6 ≤ 8) (h7 : v7 ≤ 8) : (c + c / 2 ^ 8 + (c + c / 2 ^ 8) / 2 ^ 16 + (c + c / 2 ^ 8 + (c + c / 2 ^ 8) / 2 ^ 16) / 2 ^ 32) % 128 = v0 + (v1 + (v2 + (v3 + (v4 + (v5 + (v6 + (v7 + 0))))))) := by
  have e1 : c / 2 ^ 8 = v1 + 256 * (v2 + 256 * (v3 + 256 * (v4 + 256 * (v5 + 256 * (v6 + 256 * v7))))) := by omega
  have e2 : c + c / 2 ^ 8 = (v0 + v1) + 256 * (v1 + v2) + 65536 * ((v2 + v3) + 256 * (v3 + v4) + 65536 * ((v4 + v5) + 256 * (v5 + v6) + 65536 * ((v6 + v7) + 256 * v7))) := by omega
  generalize c + c / 2 ^ 8 = d at e2 ⊢
  have e3 : d / 2 ^ 16 = (v2 + v3) + 256 * (v3 + v4) + 65536 * ((v4 + v5) + 256 * (v5 + v6) + 65536 * ((v6 + v7) + 256 * v7)) := by omega
  have e4 : d + d / 2 ^ 16 = (v0 + v1 + v2 + v3) + 256 * (v1 + v2 + v3 + v4) + 65536 * ((v2 + v3 + v4 + v5) + 256 * (v3 + v4 + v5 + v6)) + 4294967296 * ((v4 + v5 + v6 + v7) + 256 * (v5 + v6 + v7) + 65536 * ((v6 + v7) + 256 * v7)) := by omega
  generalize d + d / 2 ^ 16 = g at e4 ⊢
  have e5 : g / 2 ^ 32 = (v4 + v5 + v6 + v7) + 256 * (v5 + v6 + v7) + 65536 * ((v6 + v7) + 256 * v7) := by omega
  rw [e5, e4]
  omega
theorem pcL_N (x : Int64) : pcL x = nI (pcN 64 x.toBitVec.toNat) := by
  have hx : x.toBitVec.toNat < 256 ^ 8 := x.toBitVec.isLt
  obtain ⟨b1, b2⟩ := s64b_N (s64a_N (x := x))
  obtain ⟨c1, c2⟩ := s64c_N b1 b2
  obtain ⟨w1, w2⟩ := sw_sum 8 x.toBitVec.toNat hx
  rw [pcL_e]
  generalize swC 8 x.toBitVec.toNat = c at c1 c2 w1 w2
  have d1 := s64_ad (k := 8) (j := 8) (by decide) (by decide) c1 (by omega)
  have d2 := s64_ad (k := 16) (j := 16) (by decide) (by decide) d1 (by omega)
  have d3 := s64_ad (k := 32) (j := 32) (by decide) (by decide) d2 (by omega)
  rw [and127 (x := s64f (s64e (s64d (s64c (s64b (s64a x)))))) d3]
  have g0 := w2 0; have g1 := w2 1; have g2 := w2 2; have g3 := w2 3; have g4 := w2 4; have g5 := w2 5; have g6 := w2 6; have g7 := w2 7
  have q : sbB 8 c = c % 256 + (c / 256 % 256 + (c / 256 / 256 % 256 + (c / 256 / 256 / 256 % 256 + (c / 256 / 256 / 256 / 256 % 256 + (c / 256 / 256 / 256 / 256 / 256 % 256 + (c / 256 / 256 / 256 / 256 / 256 / 256 % 256 + (c / 256 / 256 / 256 / 256 / 256 / 256 / 256 % 256 + 0))))))) := rfl
  have s8 := sum8 (c := c) (v0 := c % 256) (v1 := c / 256 % 256) (v2 := c / 256 / 256 % 256) (v3 := c / 256 / 256 / 256 % 256) (v4 := c / 256 / 256 / 256 / 256 % 256) (v5 := c / 256 / 256 / 256 / 256 / 256 % 256) (v6 := c / 256 / 256 / 256 / 256 / 256 / 256 % 256) (v7 := c / 256 / 256 / 256 / 256 / 256 / 256 / 256 % 256) (by omega) (by omega) (by omega) (by omega) (by omega) (by omega) (by omega) (by omega) (by omega)
  rw [s8, ← q, w1]
/-- how many sets began it -/
theorem bgS_lt {B : Nat → Bool} : ∀ k : Nat, k ≤ 64 → (bgS B k).toBitVec.toNat < 2 ^ k ∧ pcN 64 (bgS B k).toBitVec.toNat = cnB B k
  | 0, _ => ⟨by decide, by show pcN 64 0 = 0; exact pcN_z 64⟩
  | k + 1, hk => by
    obtain ⟨h1, h2⟩ := bgS_lt (B := B) k (by omega)
    have hp : 2 ^ k < 2 ^ (k + 1) := Nat.pow_lt_pow_right (by decide) (by omega)
    by_cases hB : B k = true
    · have e : bgS B (k + 1) = bgS B k ||| ((1 : Int64) <<< ((nI k).toInt64 &&& 63)) := if_pos hB
      have e2 : cnB B (k + 1) = cnB B k + 1 := if_pos hB
      have e3 : (bgS B (k + 1)).toBitVec.toNat = (bgS B k).toBitVec.toNat + 2 ^ k := by
        rw [e, Int64.toBitVec_or, BitVec.toNat_or, bit1 k (by omega), BitVec.toNat_twoPow, Nat.mod_eq_of_lt (Nat.pow_lt_pow_right (by decide) (by omega)), Nat.or_two_pow_eq_add_of_lt h1]
      rw [e3, e2, pcN_add k 64 _ h1 (by omega), h2]
      exact ⟨by rw [Nat.pow_succ]; omega, rfl⟩
    · have e : bgS B (k + 1) = bgS B k := if_neg hB
      have e2 : cnB B (k + 1) = cnB B k := if_neg hB
      rw [e, e2]
      exact ⟨Nat.lt_trans h1 hp, h2⟩
theorem pc_cn {B : Nat → Bool} {k : Nat} (hk : k ≤ 64) : pcL (bgS B k) = nI (cnB B k) := by rw [pcL_N, (bgS_lt k hk).2]
