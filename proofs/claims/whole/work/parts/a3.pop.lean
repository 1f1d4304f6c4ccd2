/-- how many of the lowest k bits are set -/
def pcN : Nat → Nat → Nat
  | 0, _ => 0
  | k + 1, x => x % 2 + pcN k (x / 2)
theorem pcN_z : ∀ k : Nat, pcN k 0 = 0
  | 0 => rfl
  | k + 1 => by show 0 % 2 + pcN k (0 / 2) = 0; rw [show 0 / 2 = 0 from rfl, pcN_z k]
theorem pcN_add : ∀ (i k x : Nat), x < 2 ^ i → i < k → pcN k (x + 2 ^ i) = pcN k x + 1
  | 0, k + 1, x, hx, _ => by
    obtain rfl : x = 0 := by omega
    show (0 + 2 ^ 0) % 2 + pcN k ((0 + 2 ^ 0) / 2) = 0 % 2 + pcN k (0 / 2) + 1
    rw [show (0 + 2 ^ 0) / 2 = 0 from rfl, pcN_z]
  | i + 1, k + 1, x, hx, hk => by
    show (x + 2 ^ (i + 1)) % 2 + pcN k ((x + 2 ^ (i + 1)) / 2) = x % 2 + pcN k (x / 2) + 1
    rw [Nat.pow_succ] at hx ⊢
    rw [show (x + 2 ^ i * 2) % 2 = x % 2 by omega, show (x + 2 ^ i * 2) / 2 = x / 2 + 2 ^ i by omega, pcN_add i k (x / 2) (by omega) (by omega)]
    omega
/-- a mask, byte by byte -/
def mkB (u : Nat) : Nat → Nat
  | 0 => 0
  | k + 1 => u + 256 * mkB u k
theorem and_sp {p q u w : Nat} (hp : p < 256) (hu : u < 256) : (p + 256 * q) &&& (u + 256 * w) = (p &&& u) + 256 * (q &&& w) := by
  have h1 : ((p + 256 * q) &&& (u + 256 * w)) % 2 ^ 8 = p &&& u := by
    rw [Nat.and_mod_two_pow, show (p + 256 * q) % 2 ^ 8 = p by omega, show (u + 256 * w) % 2 ^ 8 = u by omega]
  have h2 : ((p + 256 * q) &&& (u + 256 * w)) / 2 ^ 8 = q &&& w := by
    rw [Nat.and_div_two_pow, show (p + 256 * q) / 2 ^ 8 = q by omega, show (u + 256 * w) / 2 ^ 8 = w by omega]
  omega
def swA (k x : Nat) : Nat := x - ((x / 2) &&& mkB 85 k)
def swB (k x : Nat) : Nat := (swA k x &&& mkB 51 k) + ((swA k x / 4) &&& mkB 51 k)
def swC (k x : Nat) : Nat := (swB k x + swB k x / 16) &&& mkB 15 k
theorem by_1 : ∀ (v : Fin 256) (z : Fin 2), (v.val / 2 + 128 * z.val) &&& 85 = (v.val / 2) &&& 85 := by decide +kernel
theorem by_2 : ∀ v : Fin 256, (v.val / 2) &&& 85 ≤ v.val ∧ v.val - ((v.val / 2) &&& 85) < 256 ∧ ((v.val - ((v.val / 2) &&& 85)) &&& 51) + (((v.val - ((v.val / 2) &&& 85)) / 4) &&& 51) ≤ 68 ∧ (((v.val - ((v.val / 2) &&& 85)) &&& 51) + (((v.val - ((v.val / 2) &&& 85)) / 4) &&& 51)) % 16 ≤ 4 := by decide +kernel
theorem by_3 : ∀ (v : Fin 256) (z : Fin 4), (v.val / 4 + 64 * z.val) &&& 51 = (v.val / 4) &&& 51 := by decide +kernel
def cb8 (v : Nat) : Nat := ((((v - ((v / 2) &&& 85)) &&& 51) + (((v - ((v / 2) &&& 85)) / 4) &&& 51)) + (((v - ((v / 2) &&& 85)) &&& 51) + (((v - ((v / 2) &&& 85)) / 4) &&& 51)) / 16) &&& 15
theorem by_4 : ∀ v : Fin 256, cb8 v.val = pcN 8 v.val := by decide +kernel
theorem swA_le {k x : Nat} : (x / 2) &&& mkB 85 k ≤ x := Nat.le_trans Nat.and_le_left (by omega)
theorem swA_s {k v y : Nat} (hv : v < 256) : swA (k + 1) (v + 256 * y) = (v - ((v / 2) &&& 85)) + 256 * swA k y := by
  unfold swA
  have e := by_1 ⟨v, hv⟩ ⟨y % 2, by omega⟩
  dsimp only at e
  have h1 := (by_2 ⟨v, hv⟩).1
  dsimp only at h1
  have h2 := swA_le (k := k) (x := y)
  rw [show (v + 256 * y) / 2 = (v / 2 + 128 * (y % 2)) + 256 * (y / 2) by omega, show mkB 85 (k + 1) = 85 + 256 * mkB 85 k from rfl, and_sp (by omega) (by decide), e]
  omega
theorem swB_s {k v y : Nat} (hv : v < 256) : swB (k + 1) (v + 256 * y) = (((v - ((v / 2) &&& 85)) &&& 51) + (((v - ((v / 2) &&& 85)) / 4) &&& 51)) + 256 * swB k y := by
  have h2 := (by_2 ⟨v, hv⟩).2.1
  dsimp only at h2
  unfold swB
  rw [swA_s hv]
  generalize v - ((v / 2) &&& 85) = a at h2 ⊢
  have e := by_3 ⟨a, h2⟩ ⟨swA k y % 4, by omega⟩
  dsimp only at e
  generalize swA k y = z at e ⊢
  rw [show mkB 51 (k + 1) = 51 + 256 * mkB 51 k from rfl, and_sp h2 (by decide), show (a + 256 * z) / 4 = (a / 4 + 64 * (z % 4)) + 256 * (z / 4) by omega, and_sp (by omega) (by decide), e]
  omega
theorem swB_4 : ∀ (k x : Nat), x < 256 ^ k → swB k x % 16 ≤ 4
  | 0, x, _ => by show ((swA 0 x &&& 0) + ((swA 0 x / 4) &&& 0)) % 16 ≤ 4; rw [Nat.and_zero, Nat.and_zero]; decide
  | k + 1, x, hx => by
    have e := swB_s (k := k) (v := x % 256) (y := x / 256) (by omega)
    rw [show x % 256 + 256 * (x / 256) = x by omega] at e
    have h := (by_2 ⟨x % 256, by omega⟩).2.2.2
    dsimp only at h
    rw [e]
    omega
theorem swC_s {k v y : Nat} (hv : v < 256) (hy : y < 256 ^ k) : swC (k + 1) (v + 256 * y) = cb8 v + 256 * swC k y := by
  have h4 := swB_4 k y hy
  have h3 := (by_2 ⟨v, hv⟩).2.2.1
  dsimp only at h3
  unfold swC cb8
  rw [swB_s hv]
  generalize ((v - ((v / 2) &&& 85)) &&& 51) + (((v - ((v / 2) &&& 85)) / 4) &&& 51) = b at h3 ⊢
  generalize swB k y = z at h4 ⊢
  rw [show b + 256 * z + (b + 256 * z) / 16 = (b + b / 16 + 16 * (z % 16)) + 256 * (z + z / 16) by omega, show mkB 15 (k + 1) = 15 + 256 * mkB 15 k from rfl, and_sp (by omega) (by decide)]
  rw [show (15 : Nat) = 2 ^ 4 - 1 from rfl, Nat.and_two_pow_sub_one_eq_mod, Nat.and_two_pow_sub_one_eq_mod]
  omega
theorem pcN_app : ∀ (j k v y : Nat), v < 2 ^ j → pcN (j + k) (v + 2 ^ j * y) = pcN j v + pcN k y
  | 0, k, v, y, hv => by
    obtain rfl : v = 0 := by omega
    rw [Nat.zero_add, Nat.zero_add, Nat.pow_zero, Nat.one_mul]
    show pcN k y = 0 + pcN k y
    omega
  | j + 1, k, v, y, hv => by
    rw [show j + 1 + k = (j + k) + 1 by omega]
    show (v + 2 ^ (j + 1) * y) % 2 + pcN (j + k) ((v + 2 ^ (j + 1) * y) / 2) = (v % 2 + pcN j (v / 2)) + pcN k y
    rw [Nat.pow_succ] at hv ⊢
    have e0 : 2 ^ j * 2 * y = 2 * (2 ^ j * y) := by rw [Nat.mul_comm (2 ^ j) 2, Nat.mul_assoc]
    rw [e0, show (v + 2 * (2 ^ j * y)) % 2 = v % 2 by omega, show (v + 2 * (2 ^ j * y)) / 2 = v / 2 + 2 ^ j * y by omega, pcN_app j k (v / 2) y (by omega)]
    omega
theorem pcN_8 {v y : Nat} (k : Nat) (hv : v < 256) : pcN (8 + k) (v + 256 * y) = pcN 8 v + pcN k y := pcN_app 8 k v y hv
/-- the bytes of the third step are the bytes' own counts -/
def sbB : Nat → Nat → Nat
  | 0, _ => 0
  | k + 1, x => x % 256 + sbB k (x / 256)
def alB : Nat → Nat → Prop
  | 0, _ => True
  | k + 1, x => x % 256 ≤ 8 ∧ alB k (x / 256)
theorem sw_sum : ∀ (k x : Nat), x < 256 ^ k → sbB k (swC k x) = pcN (8 * k) x ∧ alB k (swC k x)
  | 0, x, _ => ⟨rfl, trivial⟩
  | k + 1, x, hx => by
    rw [Nat.pow_succ] at hx
    have hy : x / 256 < 256 ^ k := Nat.div_lt_of_lt_mul (by rw [Nat.mul_comm]; exact hx)
    have e := swC_s (k := k) (v := x % 256) (y := x / 256) (by omega) hy
    rw [show x % 256 + 256 * (x / 256) = x by omega] at e
    obtain ⟨h1, h2⟩ := sw_sum k (x / 256) hy
    have h3 := by_4 ⟨x % 256, by omega⟩
    dsimp only at h3
    have h8 : cb8 (x % 256) < 16 := Nat.lt_of_le_of_lt Nat.and_le_right (by decide)
    have h9 : pcN 8 (x % 256) ≤ 8 := (by decide +kernel : ∀ v : Fin 256, pcN 8 v.val ≤ 8) ⟨x % 256, by omega⟩
    have e8 := pcN_8 (v := x % 256) (y := x / 256) (8 * k) (by omega)
    rw [show x % 256 + 256 * (x / 256) = x by omega] at e8
    refine ⟨?_, ?_⟩
    · show swC (k + 1) x % 256 + sbB k (swC (k + 1) x / 256) = pcN (8 * (k + 1)) x
      rw [show 8 * (k + 1) = 8 + 8 * k by omega, e8, e, show (cb8 (x % 256) + 256 * swC k (x / 256)) % 256 = cb8 (x % 256) by omega, show (cb8 (x % 256) + 256 * swC k (x / 256)) / 256 = swC k (x / 256) by omega, h1, h3]
    · show swC (k + 1) x % 256 ≤ 8 ∧ alB k (swC (k + 1) x / 256)
      rw [e, show (cb8 (x % 256) + 256 * swC k (x / 256)) % 256 = cb8 (x % 256) by omega, show (cb8 (x % 256) + 256 * swC k (x / 256)) / 256 = swC k (x / 256) by omega, h3]
      exact ⟨h9, h2⟩
