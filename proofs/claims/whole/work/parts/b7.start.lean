theorem X0.mv {N K : Mm} (h : X0 N) (e : ∀ k, k < 149 → K.1 k = N.1 k) : X0 K := by
  obtain ⟨h1, h2, h3, h4, ⟨h5, h6, h7, h8⟩, h9, h10, h11, h12⟩ := h
  unfold X0
  rw [e 0 (by decide), e 2 (by decide), e 4 (by decide), e 75 (by decide), e 77 (by decide), e 78 (by decide), e 79 (by decide), e 81 (by decide), e 82 (by decide), e 83 (by decide), e 84 (by decide), e 85 (by decide), e 86 (by decide), e 87 (by decide), e 88 (by decide), e 89 (by decide), e 90 (by decide), e 126 (by decide), e 128 (by decide), e 134 (by decide), e 144 (by decide)]
  exact ⟨h1, h2, h3, h4.mv (fun k b1 b2 => e k (by omega)), ⟨h5, h6, h7, h8⟩, h9, h10, h11, h12⟩
theorem ct0 : ctOk p0 := ⟨by decide, by decide, by decide, by decide, by decide, 8, rfl, by decide, by decide⟩
/-- the start: both objects as they are made -/
theorem inv_start {ly : Ly} {K : Mm} (hx : XW ly K.2.2) (p03 : K.2.2 0 3 = some 7) (p04 : K.2.2 0 4 = some 41) (p75 : K.2.2 75 0 = some 7 ∧ K.2.2 75 1 = some 14 ∧ K.2.2 75 2 = some 25 ∧ K.2.2 75 3 = some 28) (h0 : X0 K) (hR : RW ly K.2.2) (hr : R0 K) : INV ly K := by
  obtain ⟨h1, h2, h3, h4, ⟨⟨v1, v2, v3, v4, v5, v6⟩, h6, h7, v16, v19⟩, h9, h10, h11, h12⟩ := h0
  obtain ⟨⟨r1, r2, r3, r4, r5, r6, r7⟩, t1, ⟨t2, t3⟩, ⟨s1, s2, s3⟩, s4, s5, s6, s7⟩ := hr
  refine ⟨7, 41, 8, (⟨0, K.1 150, 0, -1⟩, p0, (vS K.1 75, 0, 0, 0, K.1 88, K.1 89), K.1 126, (0, -1, K.1 129, K.1 130, K.1 131, K.1 132, K.1 133), ⟨0, fun _ => dOf (vS K.1 75, 0, 0, 0, K.1 88, K.1 89)⟩, 0, (vS K.1 75, 0, 0, 0, K.1 88, K.1 89), K.1 127), ⟨hx, ⟨Or.inl ⟨rfl, rfl⟩, p03, p04⟩, ⟨by rw [h1]; rfl, fun j hj => absurd hj (Nat.not_lt_zero j), h3⟩, h2, h4, ⟨p75, rfl, v3.symm, v4, v1, v16, rfl, rfl, v19⟩, rfl, ⟨h10.1, h10.2, rfl, rfl, rfl, rfl, rfl⟩, ⟨h11, rfl, fun k hk => absurd hk (Nat.not_lt_zero k)⟩, ⟨by rw [h1]; rfl, fun q => absurd rfl q⟩, h12⟩, ⟨hR, ⟨r1, rfl⟩, ⟨r2, r3⟩, ⟨?_, ?_, fun r _ _ j hj => absurd hj (Nat.not_lt_zero j), fun k hk => ⟨0, by rw [t2]; rfl, by rw [t3]; rfl, Nat.zero_le _, fun kn _ i hi => absurd hi (Nat.not_lt_zero i)⟩, fun k hk => Or.inl rfl, t1 12 (by decide)⟩, ⟨⟨fun j hj => ?_, fun j hj => ?_, fun j hj => ?_, fun j hj => ?_, fun w hw => absurd hw (Nat.not_lt_zero w), ?_, ⟨s1, v6⟩, ?_, fun c hc => (h6 c hc).2.2.1, fun c hc => (h6 c hc).2.2.2.2.2⟩, ⟨(s6 0).1, Nat.zero_le _, fun j hj => absurd hj (Nat.not_lt_zero j), fun j hj => absurd hj (Nat.not_lt_zero j)⟩, (s6 0).2⟩, ?_, ⟨r6, r7, fun i hi => absurd hi (Nat.not_lt_zero i)⟩, ⟨r5, fun k hk => absurd hk (Nat.not_lt_zero k)⟩, ⟨r4, fun q => absurd rfl q⟩, fun b hb _ => ⟨⟨0, Nat.zero_le _, (s6 b).1⟩, Or.inl (s6 b).2⟩⟩, ⟨⟨Nat.zero_le _, fun j hj => absurd hj (Nat.not_lt_zero j)⟩, ⟨ct0, p0_ok, rfl, by decide, by decide⟩, ⟨Nat.zero_le _, Nat.zero_le _, fun i hi => absurd hi (Nat.not_lt_zero i), Or.inl rfl, 0, by decide, v5⟩, ⟨Nat.zero_le _, Or.inl rfl, fun i hi => absurd hi (Nat.not_lt_zero i)⟩, Nat.zero_le _, Or.inl rfl, fun q => absurd rfl q⟩⟩
  · intro k hk
    exact t1 k (by omega)
  · intro k hk
    rw [t1 (6 + k) (by omega), if_neg (by omega), if_neg (by omega), if_neg (by omega)]
    rfl
  · show K.1 173 (0 + j) = K.1 77 j
    rw [(s4 j hj).1, (h6 j hj).1]
  · show K.1 174 (0 + j) = K.1 78 j
    rw [(s4 j hj).2.1, (h6 j hj).2.1]
  · show K.1 175 (0 + j) = K.1 81 j
    rw [(s4 j hj).2.2.1, (h6 j hj).2.2.2.1]
  · show K.1 176 (0 + j) = K.1 82 j
    rw [(s4 j hj).2.2.2, (h6 j hj).2.2.2.2.1]
  · exact s3.trans v5.symm
  · exact s2.trans v2.symm
  · rw [s7, h9]; exact fun j hj => rfl
