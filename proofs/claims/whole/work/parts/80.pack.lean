theorem i32shl {x : Int32} {k : Nat} (hk : k < 32) : (x <<< (nI k &&& 31)).toBitVec = x.toBitVec <<< k := by
  show x.toBitVec <<< ((nI k &&& 31).toBitVec.smod 32#32) = _
  rw [BitVec.shiftLeft_eq', smd k hk]
theorem i32shl5 {x : Int32} : (x <<< ((5 : Int32) &&& 31)).toBitVec = x.toBitVec <<< 5 := i32shl (k := 5) (by decide)
theorem shl_or5 (a b : Int32) : (a ||| b) <<< ((5 : Int32) &&& 31) = a <<< ((5 : Int32) &&& 31) ||| b <<< ((5 : Int32) &&& 31) := by
  apply Int32.toBitVec_inj.mp
  rw [Int32.toBitVec_or, i32shl5, i32shl5, i32shl5, Int32.toBitVec_or, BitVec.shiftLeft_or_distrib]
theorem shl5k (a : Int32) {m : Nat} (hm : m < 5) : (a <<< (nI (5 * m) &&& 31)) <<< ((5 : Int32) &&& 31) = a <<< (nI (5 * (m + 1)) &&& 31) := by
  apply Int32.toBitVec_inj.mp
  rw [i32shl5, i32shl (by omega), i32shl (by omega), ← BitVec.shiftLeft_add, show 5 * m + 5 = 5 * (m + 1) by omega]
theorem shl0 (a : Int32) : a <<< (nI (5 * 0) &&& 31) = a := by
  apply Int32.toBitVec_inj.mp
  rw [i32shl (k := 5 * 0) (by decide)]
  exact BitVec.shiftLeft_zero _
theorem z_or (a : Int32) : 0 ||| a = a := by apply Int32.toBitVec_inj.mp; rw [Int32.toBitVec_or]; exact BitVec.zero_or
theorem or_z (a : Int32) : a ||| 0 = a := by apply Int32.toBitVec_inj.mp; rw [Int32.toBitVec_or]; exact BitVec.or_zero
/-- the letters of the first k places, s places on -/
def lbT (f : Nat → Int32) (p s : Nat) : Nat → Int32
  | 0 => 0
  | k + 1 => lbT f p s k ||| ((f (p + k) - 97 + 1) <<< (nI (5 * (s - k)) &&& 31))
theorem lbT_up {f : Nat → Int32} {p s : Nat} (hs : s < 5) : ∀ k : Nat, k ≤ s + 1 → (lbT f p s k) <<< ((5 : Int32) &&& 31) = lbT f p (s + 1) k
  | 0, _ => rfl
  | k + 1, h => by
    show (lbT f p s k ||| _) <<< _ = lbT f p (s + 1) k ||| _
    rw [shl_or5, lbT_up hs k (by omega), shl5k _ (by omega), show s - k + 1 = s + 1 - k by omega]
theorem pkr_lt {f : Nat → Int32} {p e : Nat} : ∀ k : Nat, p + k ≤ e → k ≤ 6 → pkR f p e (k) = (if k = 0 then 0 else lbT f p (k - 1) k)
  | 0, _, _ => rfl
  | k + 1, h1, h2 => by
    rw [if_neg (by omega)]
    show (pkR f p e k <<< ((5 : Int32) &&& 31)) ||| (if p + k < e then f (p + k) - 97 + 1 else 0) = lbT f p k (k + 1)
    rw [if_pos (by omega), pkr_lt k (by omega) (by omega)]
    by_cases h : k = 0
    · subst h
      rw [if_pos rfl]
      show (0 : Int32) <<< _ ||| _ = 0 ||| _
      rw [show ((0 : Int32) <<< ((5 : Int32) &&& 31)) = 0 by decide, shl0]
    · rw [if_neg h, lbT_up (by omega) k (by omega), show k - 1 + 1 = k by omega]
      show _ = lbT f p k k ||| _
      rw [Nat.sub_self, shl0]
theorem pkr_ge {f : Nat → Int32} {p k : Nat} : ∀ j : Nat, 0 < k → k + j ≤ 6 → pkR f p (p + k) (k + j) = lbT f p (k + j - 1) k
  | 0, h1, h2 => by rw [Nat.add_zero, pkr_lt k (by omega) (by omega), if_neg (by omega)]
  | j + 1, h1, h2 => by
    show (pkR f p (p + k) (k + j) <<< ((5 : Int32) &&& 31)) ||| (if p + (k + j) < p + k then _ else 0) = _
    rw [if_neg (by omega), or_z, pkr_ge j h1 (by omega), lbT_up (by omega) k (by omega), show k + j - 1 + 1 = k + (j + 1) - 1 by omega]
theorem lbS_T {f : Nat → Int32} {p : Nat} : ∀ k : Nat, k ≤ 6 → lbS f p k = lbT f p 5 k
  | 0, _ => rfl
  | k + 1, h => by
    show lbS f p k ||| ltB (f (p + k)) k = lbT f p 5 k ||| _
    rw [lbS_T k (by omega), show ltB (f (p + k)) k = _ from if_pos (by omega)]
theorem lbS_pk {f : Nat → Int32} {p k : Nat} (h0 : 0 < k) (h : k ≤ 6) : lbS f p k = pkR f p (p + k) 6 := by
  rw [lbS_T k h]
  have := pkr_ge (f := f) (p := p) (6 - k) h0 (by omega)
  rw [show k + (6 - k) = 6 by omega] at this
  exact this.symm
