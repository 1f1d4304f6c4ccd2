theorem s64_ad {x : Int64} {k : Int32} {j c : Nat} (hk : (Int64.toUInt64 (Int32.toInt64 k)) &&& Int64.toUInt64 63 = UInt64.ofNat j) (hj : j < 64) (h : x.toBitVec.toNat = c) (hc : c < 2 ^ 63) : (x + shL x k).toBitVec.toNat = c + c / 2 ^ j := by
  have := Nat.div_le_self c (2 ^ j)
  rw [Int64.toBitVec_add, BitVec.toNat_add, sh_N hk hj, h]
  exact Nat.mod_eq_of_lt (by omega)
theorem and127 {x : Int64} {c : Nat} (h : x.toBitVec.toNat = c) : x.toInt32 &&& 127 = nI (c % 128) := by
  refine Int32.toBitVec_inj.mp (BitVec.eq_of_toNat_eq ?_)
  rw [Int32.toBitVec_and, BitVec.toNat_and, nI_toNat (by omega)]
  show (x.toBitVec.signExtend 32).toNat &&& 127 = c % 128
  rw [BitVec.signExtend_eq_setWidth_of_le _ (by decide), BitVec.toNat_setWidth, h, show (127 : Nat) = 2 ^ 7 - 1 from rfl, Nat.and_two_pow_sub_one_eq_mod]
  omega
theorem sum8 {c r1 r2 r3 r4 r5 r6 r7 v0 v1 v2 v3 v4 v5 v6 v7 : Nat} (e0 : c = v0 + 256 * r1) (e1 : r1 = v1 + 256 * r2) (e2 : r2 = v2 + 256 * r3) (e3 : r3 = v3 + 256 * r4) (e4 : r4 = v4 + 256 * r5) (e5 : r5 = v5 + 256 * r6) (e6 : r6 = v6 + 256 * r7) (e7 : r7 = v7) (h0 : v0 ≤ 8) (h1 : v1 ≤ 8) (h2 : v2 ≤ 8) (h3 : v3 ≤ 8) (h4 : v4 ≤ 8) (h5 : v5 ≤ 8) (h6 : v6 ≤ 8) (h7 : v7 ≤ 8) : (c + c / 256 + (c + c / 256) / 65536 + (c + c / 256 + (c + c / 256) / 65536) / 4294967296) % 128 = v0 + (v1 + (v2 + (v3 + (v4 + (v5 + (v6 + (v7 + 0))))))) := by
  have q1 : c / 256 = r1 := by clear e1 e2 e3 e4 e5 e6 e7; omega
  have q2 : c + r1 = (v0 + v1) + 256 * (v1 + v2) + 65536 * (r2 + r3) := by clear e3 e4 e5 e6 e7; omega
  have q3 : (c + r1) / 65536 = r2 + r3 := by rw [q2]; clear e0 e1 e2 e3 e4 e5 e6 e7 q1 q2; omega
  have q4 : r2 + r3 = (v2 + v3) + 256 * (v3 + v4) + 65536 * (r4 + r5) := by clear e0 e1 e5 e6 e7 q1 q2 q3; omega
  have q5 : r4 + r5 = (v4 + v5) + 256 * (v5 + v6) + 65536 * (r6 + r7) := by clear e0 e1 e2 e3 e7 q1 q2 q3 q4; omega
  have q6 : r6 + r7 = (v6 + v7) + 256 * v7 := by clear e0 e1 e2 e3 e4 e5 q1 q2 q3 q4 q5; omega
  rw [q1, q3, q2]
  clear e0 e1 e2 e3 e4 e5 e6 e7 q1 q2 q3
  generalize r2 + r3 = s2 at q4 ⊢
  generalize r4 + r5 = s4 at q4 q5
  generalize r6 + r7 = s6 at q5 q6
  have q7 : (v0 + v1) + 256 * (v1 + v2) + 65536 * s2 + s2 = (v0 + v1 + v2 + v3) + 256 * (v1 + v2 + v3 + v4) + 65536 * ((v2 + v3 + v4 + v5) + 256 * (v3 + v4 + v5 + v6)) + 4294967296 * (s4 + s6) := by clear q6; omega
  rw [q7]
  clear q7 q4
  have q8 : ((v0 + v1 + v2 + v3) + 256 * (v1 + v2 + v3 + v4) + 65536 * ((v2 + v3 + v4 + v5) + 256 * (v3 + v4 + v5 + v6)) + 4294967296 * (s4 + s6)) / 4294967296 = s4 + s6 := by clear q5 q6; omega
  rw [q8]
  clear q8
  omega
theorem dB (c : Nat) : ∃ v r : Nat, c % 256 = v ∧ c / 256 = r ∧ c = v + 256 * r := ⟨_, _, rfl, rfl, by omega⟩
theorem pcL_N (x : Int64) : pcL x = nI (pcN 64 x.toBitVec.toNat) := by
  have hx : x.toBitVec.toNat < 256 ^ 8 := x.toBitVec.isLt
  obtain ⟨b1, b2⟩ := s64b_N (s64a_N (x := x))
  obtain ⟨c1, c2⟩ := s64c_N b1 b2
  obtain ⟨w1, w2⟩ := sw_sum 8 x.toBitVec.toNat hx
  rw [pcL_e]
  generalize swC 8 x.toBitVec.toNat = c at c1 c2 w1 w2
  have ad1 := s64_ad (k := 8) (j := 8) (by decide +kernel) (by decide) c1 (by omega)
  have ad2 := s64_ad (k := 16) (j := 16) (by decide +kernel) (by decide) ad1 (by omega)
  have ad3 := s64_ad (k := 32) (j := 32) (by decide +kernel) (by decide) ad2 (by omega)
  rw [and127 (x := s64f (s64e (s64d (s64c (s64b (s64a x)))))) ad3]
  obtain ⟨v0, r1, mm0, d0, e0⟩ := dB c
  have k0 : v0 ≤ 8 ∧ alB 7 r1 := by rw [← mm0, ← d0]; exact w2
  have s0 : sbB 8 c = v0 + sbB 7 r1 := by rw [← mm0, ← d0]; rfl
  obtain ⟨v1, r2, m1, d1, e1⟩ := dB r1
  have k1 : v1 ≤ 8 ∧ alB 6 r2 := by rw [← m1, ← d1]; exact k0.2
  have s1 : sbB 7 r1 = v1 + sbB 6 r2 := by rw [← m1, ← d1]; rfl
  obtain ⟨v2, r3, m2, d2, e2⟩ := dB r2
  have k2 : v2 ≤ 8 ∧ alB 5 r3 := by rw [← m2, ← d2]; exact k1.2
  have s2 : sbB 6 r2 = v2 + sbB 5 r3 := by rw [← m2, ← d2]; rfl
  obtain ⟨v3, r4, m3, d3, e3⟩ := dB r3
  have k3 : v3 ≤ 8 ∧ alB 4 r4 := by rw [← m3, ← d3]; exact k2.2
  have s3 : sbB 5 r3 = v3 + sbB 4 r4 := by rw [← m3, ← d3]; rfl
  obtain ⟨v4, r5, m4, d4, e4⟩ := dB r4
  have k4 : v4 ≤ 8 ∧ alB 3 r5 := by rw [← m4, ← d4]; exact k3.2
  have s4 : sbB 4 r4 = v4 + sbB 3 r5 := by rw [← m4, ← d4]; rfl
  obtain ⟨v5, r6, m5, d5, e5⟩ := dB r5
  have k5 : v5 ≤ 8 ∧ alB 2 r6 := by rw [← m5, ← d5]; exact k4.2
  have s5 : sbB 3 r5 = v5 + sbB 2 r6 := by rw [← m5, ← d5]; rfl
  obtain ⟨v6, r7, m6, d6, e6⟩ := dB r6
  have k6 : v6 ≤ 8 ∧ alB 1 r7 := by rw [← m6, ← d6]; exact k5.2
  have s6 : sbB 2 r6 = v6 + sbB 1 r7 := by rw [← m6, ← d6]; rfl
  obtain ⟨v7, r8, m7, d7, e7⟩ := dB r7
  have k7 : v7 ≤ 8 ∧ alB 0 r8 := by rw [← m7, ← d7]; exact k6.2
  have s7 : sbB 1 r7 = v7 + sbB 0 r8 := by rw [← m7, ← d7]; rfl
  have z : r8 = 0 := by clear ad1 ad2 ad3 s0 s1 s2 s3 s4 s5 s6 s7 k0 k1 k2 k3 k4 k5 k6 k7 w1 w2 c1 b1 b2 hx mm0 m1 m2 m3 m4 m5 m6 m7 d0 d1 d2 d3 d4 d5 d6 d7; omega
  subst z
  have s8 := sum8 e0 e1 e2 e3 e4 e5 e6 (by omega) k0.1 k1.1 k2.1 k3.1 k4.1 k5.1 k6.1 k7.1
  rw [show (2 : Nat) ^ 8 = 256 from rfl, show (2 : Nat) ^ 16 = 65536 from rfl, show (2 : Nat) ^ 32 = 4294967296 from rfl, s8, ← w1, s0, s1, s2, s3, s4, s5, s6, s7]
  rfl
/-- how many sets began it -/
theorem bgS_lt {B : Nat → Bool} : ∀ k : Nat, k ≤ 64 → (bgS B k).toBitVec.toNat < 2 ^ k ∧ pcN 64 (bgS B k).toBitVec.toNat = cnB B k
  | 0, _ => ⟨by show (0 : Int64).toBitVec.toNat < 2 ^ 0; decide, by show pcN 64 0 = 0; exact pcN_z 64⟩
  | k + 1, hk => by
    obtain ⟨h1, h2⟩ := bgS_lt (B := B) k (by omega)
    have hp : 2 ^ k < 2 ^ (k + 1) := Nat.pow_lt_pow_right (by decide) (by omega)
    by_cases hB : B k = true
    · have e : bgS B (k + 1) = bgS B k ||| ((1 : Int64) <<< ((nI k).toInt64 &&& 63)) := if_pos hB
      have e2 : cnB B (k + 1) = cnB B k + 1 := if_pos hB
      have e3 : (bgS B (k + 1)).toBitVec.toNat = (bgS B k).toBitVec.toNat + 2 ^ k := by
        rw [e, Int64.toBitVec_or, BitVec.toNat_or, bit1 k (by omega), BitVec.toNat_twoPow, Nat.mod_eq_of_lt (Nat.pow_lt_pow_right (by decide) (by omega)), Nat.or_two_pow_eq_add_of_lt h1]
      rw [e3, e2, pcN_add k 64 _ h1 (by omega), h2]
      exact ⟨by rw [Nat.pow_succ]; omega, rfl⟩
    · have e : bgS B (k + 1) = bgS B k := if_neg hB
      have e2 : cnB B (k + 1) = cnB B k := if_neg hB
      rw [e, e2]
      exact ⟨Nat.lt_trans h1 hp, h2⟩
theorem pc_cn {B : Nat → Bool} {k : Nat} (hk : k ≤ 64) : pcL (bgS B k) = nI (cnB B k) := by rw [pcL_N, (bgS_lt k hk).2]
