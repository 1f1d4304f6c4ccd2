/-- the greatest up of k times on -/
def hgS (T : Sc → Sc) (s : Sc) (n : Nat) : Nat → Int32
  | 0 => 0
  | k + 1 => mx (hgS T s n k) (gr (itF (fun _ => T) (k + 1) s).1 n)
/-- what a scene's rows are in a later memory: all but what a time changes is as it was -/
def frS (J I : Nat → Nat → Int32) (a : Nat) : Prop := (∀ k, (k < a ∨ a + 16 < k ∨ k = a + 12 ∨ k = a + 13 ∨ k = a + 14 ∨ k = a + 15) → I k = J k) ∧ (∀ j, ¬ j = 7 → ¬ j = 14 → ¬ j = 15 → I a j = J a j)
theorem frS.rf {J : Nat → Nat → Int32} {a : Nat} : frS J J a := ⟨fun _ _ => rfl, fun _ _ _ _ => rfl⟩
theorem frS.tr {J I K : Nat → Nat → Int32} {a : Nat} (h1 : frS J I a) (h2 : frS I K a) : frS J K a := ⟨fun k hk => (h2.1 k hk).trans (h1.1 k hk), fun j a b c => (h2.2 j a b c).trans (h1.2 j a b c)⟩
theorem pasF_frS {M : Mm} {I : Nat → Nat → Int32} {a p c u v n nu nv nw : Nat} (h : frS M.1 I a) (hpa : p < a ∨ a + 16 < p) (hca : c + 5 < a ∨ a + 16 < c) (hua : u + 2 < a ∨ a + 16 < u) (hva : v + 2 < a ∨ a + 16 < v) : pasF n nw (I p 1) (I p 2) (I p 5) (I p 6) (I a 4) (I a 16) (I a 17) (I (a + 15)) (I (c + 1)) (I (c + 2)) (I (c + 3)) (I (c + 4)) (I (c + 5)) (fun m => valL m (I (u + 1)) nu) (fun m => valL m (I (v + 1)) nv) = pasF n nw (M.1 p 1) (M.1 p 2) (M.1 p 5) (M.1 p 6) (M.1 a 4) (M.1 a 16) (M.1 a 17) (M.1 (a + 15)) (M.1 (c + 1)) (M.1 (c + 2)) (M.1 (c + 3)) (M.1 (c + 4)) (M.1 (c + 5)) (fun m => valL m (M.1 (u + 1)) nu) (fun m => valL m (M.1 (v + 1)) nv) := by
  rw [h.1 p (by omega), h.1 (a + 15) (by omega), h.1 (c + 1) (by omega), h.1 (c + 2) (by omega), h.1 (c + 3) (by omega), h.1 (c + 4) (by omega), h.1 (c + 5) (by omega), h.1 (u + 1) (by omega), h.1 (v + 1) (by omega), h.2 4 (by decide) (by decide) (by decide), h.2 16 (by decide) (by decide) (by decide), h.2 17 (by decide) (by decide) (by decide)]
theorem tX9_passI {G : Gx} {l : Launch} {ly : Ly} {M : Mm} {a p c u v n nu nv nw : Nat} (hS : iScene ly M a) (h0 : M.2.2 a 0 = some p) (hp : ly[p]? = some (.inr 7)) (hpa : p < a ∨ a + 16 < p) (hn : M.1 p 0 = nI n) (hn12 : n ≤ 12) (h1 : M.2.2 a 1 = some c) (hcr : iCrowd ly M c) (hca : c + 5 < a ∨ a + 16 < c) (h2 : M.2.2 a 2 = some u) (hlu : iLaw ly M u) (hua : u + 2 < a ∨ a + 16 < u) (h3 : M.2.2 a 3 = some v) (hlv : iLaw ly M v) (hva : v + 2 < a ∨ a + 16 < v) (hnu : M.1 u 0 = nI nu) (hnu64 : nu ≤ 64) (hnv : M.1 v 0 = nI nv) (hnv64 : nv ≤ 64) (hnw : M.1 c 0 = nI nw) (hnw6 : nw ≤ 6) (hgl : ¬ 2 * M.1 p 6 + 1 = 0) {I : Nat → Nat → Int32} {L : Nat → Nat → Int64} {Q : Qt} (hf : frS M.1 I a) (hQ : ∀ (I' : Nat → Nat → Int32) (L' : Nat → Nat → Int64), frS M.1 I' a → vS I' a = pasF n nw (M.1 p 1) (M.1 p 2) (M.1 p 5) (M.1 p 6) (M.1 a 4) (M.1 a 16) (M.1 a 17) (M.1 (a + 15)) (M.1 (c + 1)) (M.1 (c + 2)) (M.1 (c + 3)) (M.1 (c + 4)) (M.1 (c + 5)) (fun m => valL m (M.1 (u + 1)) nu) (fun m => valL m (M.1 (v + 1)) nv) (vS I a) → Q none ly (I', L', M.2.2)) : Mt G l mX9_pass (5, 0, 0, false) [.ref a] ly (I, L, M.2.2) Q :=
  tX9_pass (M := (I, L, M.2.2)) (p := p) (c := c) (u := u) (v := v) (n := n) (nu := nu) (nv := nv) (nw := nw) hS h0 hp hpa ((congrFun (hf.1 p (by omega)) 0).trans hn) hn12 h1 hcr hca h2 hlu hua h3 hlv hva ((congrFun (hf.1 u (by omega)) 0).trans hnu) hnu64 ((congrFun (hf.1 v (by omega)) 0).trans hnv) hnv64 ((congrFun (hf.1 c (by omega)) 0).trans hnw) hnw6 (by show ¬ 2 * I p 6 + 1 = 0; rw [hf.1 p (by omega)]; exact hgl)
    (fun I' L' h1 h2 h3 => hQ I' L' (hf.tr ⟨h1, h2⟩) (by rw [← pasF_frS hf hpa hca hua hva]; exact h3))
theorem tX9_highest {G : Gx} {l : Launch} {ly : Ly} {M : Mm} {a p c u v n nu nv nw N : Nat} {lim : Int32} (hS : iScene ly M a) (h0 : M.2.2 a 0 = some p) (hp : ly[p]? = some (.inr 7)) (hpa : p < a ∨ a + 16 < p) (hn : M.1 p 0 = nI n) (hn12 : n ≤ 12) (h1 : M.2.2 a 1 = some c) (hcr : iCrowd ly M c) (hca : c + 5 < a ∨ a + 16 < c) (h2 : M.2.2 a 2 = some u) (hlu : iLaw ly M u) (hua : u + 2 < a ∨ a + 16 < u) (h3 : M.2.2 a 3 = some v) (hlv : iLaw ly M v) (hva : v + 2 < a ∨ a + 16 < v) (hnu : M.1 u 0 = nI nu) (hnu64 : nu ≤ 64) (hnv : M.1 v 0 = nI nv) (hnv64 : nv ≤ 64) (hnw : M.1 c 0 = nI nw) (hnw6 : nw ≤ 6) (hgl : ¬ 2 * M.1 p 6 + 1 = 0) (hN : N < 1000) {Q : Qt} (hQ : ∀ (I : Nat → Nat → Int32) (L : Nat → Nat → Int64) (k : Nat), k ≤ N → frS M.1 I a → vS I a = itF (fun _ => pasF n nw (M.1 p 1) (M.1 p 2) (M.1 p 5) (M.1 p 6) (M.1 a 4) (M.1 a 16) (M.1 a 17) (M.1 (a + 15)) (M.1 (c + 1)) (M.1 (c + 2)) (M.1 (c + 3)) (M.1 (c + 4)) (M.1 (c + 5)) (fun m => valL m (M.1 (u + 1)) nu) (fun m => valL m (M.1 (v + 1)) nv)) k (vS M.1 a) → (k = N ∨ lim < hgS (pasF n nw (M.1 p 1) (M.1 p 2) (M.1 p 5) (M.1 p 6) (M.1 a 4) (M.1 a 16) (M.1 a 17) (M.1 (a + 15)) (M.1 (c + 1)) (M.1 (c + 2)) (M.1 (c + 3)) (M.1 (c + 4)) (M.1 (c + 5)) (fun m => valL m (M.1 (u + 1)) nu) (fun m => valL m (M.1 (v + 1)) nv)) (vS M.1 a) n k) → (∀ j, j < k → ¬ lim < hgS (pasF n nw (M.1 p 1) (M.1 p 2) (M.1 p 5) (M.1 p 6) (M.1 a 4) (M.1 a 16) (M.1 a 17) (M.1 (a + 15)) (M.1 (c + 1)) (M.1 (c + 2)) (M.1 (c + 3)) (M.1 (c + 4)) (M.1 (c + 5)) (fun m => valL m (M.1 (u + 1)) nu) (fun m => valL m (M.1 (v + 1)) nv)) (vS M.1 a) n j) → Q (some (.int (hgS (pasF n nw (M.1 p 1) (M.1 p 2) (M.1 p 5) (M.1 p 6) (M.1 a 4) (M.1 a 16) (M.1 a 17) (M.1 (a + 15)) (M.1 (c + 1)) (M.1 (c + 2)) (M.1 (c + 3)) (M.1 (c + 4)) (M.1 (c + 5)) (fun m => valL m (M.1 (u + 1)) nu) (fun m => valL m (M.1 (v + 1)) nv)) (vS M.1 a) n k))) ly (I, L, M.2.2)) : Mt G l mX9_highest (6, 0, 0, false) [.ref a, .int (nI N), .int lim] ly M Q := by
  have hS0 := hS
  obtain ⟨s0, s1, s2, s3, s4, s5, s6, s7, s8, s9, s10, s11, s12, s13, s14, s15, s16, e0_5, e0_6, e0_8, e0_9, e0_10, e0_11, e0_12, e0_13, e1_0, e1_1, e1_2, e5_0, e5_1, e5_2, e12_1, e12_2⟩ := hS
  refine Mt.of (lv := [some (.ref a), some (.int (nI N)), some (.int lim), none, none]) rfl ?_
  obtain ⟨T, hT⟩ : ∃ T : Sc → Sc, T = pasF n nw (M.1 p 1) (M.1 p 2) (M.1 p 5) (M.1 p 6) (M.1 a 4) (M.1 a 16) (M.1 a 17) (M.1 (a + 15)) (M.1 (c + 1)) (M.1 (c + 2)) (M.1 (c + 3)) (M.1 (c + 4)) (M.1 (c + 5)) (fun m => valL m (M.1 (u + 1)) nu) (fun m => valL m (M.1 (v + 1)) nv) := ⟨_, rfl⟩
  rw [← hT] at hQ
  refine Rn.iconstv (v := 0) dX9_highest_0 ic_0 ?_
  refine Rn.istore_n (lv' := [some (.ref a), some (.int (nI N)), some (.int lim), some (.int 0), none]) dX9_highest_1 (by decide) rfl ?_
  refine Rn.iconstv (v := 0) dX9_highest_2 ic_0 ?_
  refine Rn.istore (lv' := [some (.ref a), some (.int (nI N)), some (.int lim), some (.int 0), some (.int 0)]) dX9_highest_3 (by decide) rfl ?_
  have loop : ∀ (k i : Nat) (I : Nat → Nat → Int32) (L : Nat → Nat → Int64), i + k = N → frS M.1 I a → vS I a = itF (fun _ => T) i (vS M.1 a) → (∀ j, j < i → ¬ lim < hgS T (vS M.1 a) n j) → Rn G l mX9_highest (6, 0, 0, false) 5 [some (.ref a), some (.int (nI N)), some (.int lim), some (.int (hgS T (vS M.1 a) n i)), some (.int (nI i))] [] ly (I, L, M.2.2) Q := by
    intro k
    induction k with
    | zero =>
      intro i I L hi hf hv hno
      refine Rn.iload dX9_highest_5 rfl ?_
      refine Rn.iload_n dX9_highest_7 rfl ?_
      refine Rn.icmp_ge dX9_highest_8 (fun hc => ?_) (fun hc => ?_)
      · skip
        refine Rn.iload_n dX9_highest_45 rfl ?_
        exact Rn.iret (ty := .int) dX9_highest_46 rfl rfl (hQ I L i (by omega) hf hv (Or.inl (by omega)) hno)
      · exact absurd (nI_le (a := N) (b := i) (by omega) (by omega)) hc
    | succ k ih =>
      intro i I L hi hf hv hno
      refine Rn.iload dX9_highest_5 rfl ?_
      refine Rn.iload_n dX9_highest_7 rfl ?_
      refine Rn.icmp_ge dX9_highest_8 (fun hc => ?_) (fun hc => ?_)
      · exact absurd hc (nI_ge (a := i) (b := N) (by omega) (by omega))
      · skip
        refine Rn.iload_n dX9_highest_11 rfl ?_
        refine Rn.iload_n dX9_highest_12 rfl ?_
        refine Rn.icmp_gt dX9_highest_13 (fun g2 => ?_) (fun g2 => ?_)
        · skip
          refine Rn.iload_n dX9_highest_45 rfl ?_
          exact Rn.iret (ty := .int) dX9_highest_46 rfl rfl (hQ I L i (by omega) hf hv (Or.inr g2) hno)
        · skip
          refine Rn.aload_n dX9_highest_16 rfl ?_
          refine Rn.callV0 dX9_highest_17 vX9_141 s0 (by decide) rfl (tX9_passI (M := M) (I := I) (L := L) (Q := fun v0 ly0 M0 => v0 = none ∧ ly0 = ly ∧ ∃ (I' : Nat → Nat → Int32) (L' : Nat → Nat → Int64), M0 = (I', L', M.2.2) ∧ frS M.1 I' a ∧ vS I' a = T (vS I a)) (p := p) (c := c) (u := u) (v := v) (n := n) (nu := nu) (nv := nv) (nw := nw) hS0 h0 hp hpa hn hn12 h1 hcr hca h2 hlu hua h3 hlv hva hnu hnu64 hnv hnv64 hnw hnw6 hgl hf (fun I' L' hf' hv' => ⟨rfl, rfl, I', L', rfl, hf', by rw [hT]; exact hv'⟩)) (by decide) ⟨(Nat.le_of_ble_eq_true rfl), (Nat.le_of_ble_eq_true rfl), (Nat.le_of_ble_eq_true rfl)⟩ (fun h => by cases h) (fun v1 ly1 M1 ⟨q1, q2, I', L', q3, hf', hv'⟩ => ?_)
          rw [q1, q2, q3]
          show Rn G l mX9_highest (6, 0, 0, false) 20 [some (.ref a), some (.int (nI N)), some (.int lim), some (.int (hgS T (vS M.1 a) n i)), some (.int (nI i))] [] ly (I', L', M.2.2) Q
          refine Rn.iload_n dX9_highest_20 rfl ?_
          refine Rn.aload_n dX9_highest_21 rfl ?_
          refine Rn.getR dX9_highest_22 fX9_12 rfl s0 e0_5 ?_
          refine Rn.aload_n dX9_highest_25 rfl ?_
          refine Rn.getR dX9_highest_26 fX9_48 rfl s0 h0 ?_
          refine Rn.getI dX9_highest_29 fX9_144 rfl hp ?_
          refine Rn.topI (y := M.1 p 0) ((congrFun (hf'.1 p (by omega)) 0)) ?_
          refine Rn.topI (y := nI n) (hn) ?_
          refine Rn.callV1 dX9_highest_32 vX9_147 s1 (by decide) rfl (tX10_greatest (M := (I', L', M.2.2)) (a := a + 1) (n := n) ⟨s1, s2, s3, s4, e1_0, e1_1, e1_2⟩ hn12) (by decide) ⟨(Nat.le_of_ble_eq_true rfl), (Nat.le_of_ble_eq_true rfl), (Nat.le_of_ble_eq_true rfl)⟩ (fun h => by cases h) (fun v1 ly1 M1 ⟨q1, q2, q3⟩ => ?_)
          rw [q1, q2, q3]
          have hv2 : vS I' a = itF (fun _ => T) (i + 1) (vS M.1 a) := by rw [hv', hv]; rfl
          refine Rn.mmax dX9_highest_35 jX9_126 jw_mmax ⟨(Nat.le_of_ble_eq_true rfl), (Nat.le_of_ble_eq_true rfl)⟩ ?_
          refine Rn.topI (y := hgS T (vS M.1 a) n (i + 1)) (by show mx _ (gr (I' (a + 2)) n) = mx _ (gr (itF (fun _ => T) (i + 1) (vS M.1 a)).1 n); rw [← hv2]; rfl) ?_
          refine Rn.istore_n (lv' := [some (.ref a), some (.int (nI N)), some (.int lim), some (.int (hgS T (vS M.1 a) n (i + 1))), some (.int (nI i))]) dX9_highest_38 (by decide) rfl ?_
          refine Rn.iincN (lv' := [some (.ref a), some (.int (nI N)), some (.int lim), some (.int (hgS T (vS M.1 a) n (i + 1))), some (.int (nI (i + 1)))]) dX9_highest_39 rfl (by decide) rfl ?_
          refine Rn.goto dX9_highest_42 ?_
          exact ih (i + 1) I' L' (by omega) hf' hv2 (lt_s hno g2)
  exact loop N 0 M.1 M.2.1 (by omega) frS.rf rfl lt_0
