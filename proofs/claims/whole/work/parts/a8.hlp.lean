theorem rAl.sc {I : Nat → Nat → Int32} {b nw t : Nat} {s s2 : Sc} (h : rAl I b nw t s) (hw : nw ≤ 6) (e : scE s2 s) : rAl I b nw t s2 := by
  obtain ⟨r1, r2, r3, r4, r5, r6, ⟨r7, r7b⟩, r8, r9, r10⟩ := h
  obtain ⟨e1, e2, e3, e4, ⟨e5, e6, e7, e8, e9⟩, e10, e11, e12⟩ := e
  refine ⟨r1.tr e1.sy, r2.tr e2.sy, r3.tr e3.sy, r4.tr e4.sy, fun w hw2 => ?_, r6.trans e10.symm, ⟨r7, e11.trans r7b⟩, r8.trans e12.symm, fun c hc => (e8 c hc).trans (r9 c hc), fun c hc => (e9 c hc).trans (r10 c hc)⟩
  rw [e5 w (by omega), e6 w (by omega), e7 w (by omega)]
  exact r5 w hw2
/-- a scene as it was copied -/
def cpN (K : Mm) (a : Nat) (Z : Sn) : Sn := (vS K.1 a, K.1 a 16, Z.t, Z.nf, K.1 (a + 13), K.1 (a + 14))
theorem cpN_P {M K : Mm} {a c pl n : Nat} {p : Pl} {Z : Sn} (hC : nsC M c pl p Z) (hP : nsP n Z) (hs : simS K a M c) : nsP n (cpN K a Z) := by
  obtain ⟨s1, s2, ⟨s3, s4, s5⟩, s6, s7, s8⟩ := hs
  obtain ⟨h1, h2, h3, h4, h5, h6, h7, h8, h9⟩ := hC
  obtain ⟨p1, p2, p3, p4, x, p5, p6⟩ := hP
  refine ⟨p1, p2, fun i hi => ?_, ?_, x, p5, ?_⟩
  · show (∃ c : Nat, c < n ∧ K.1 (a + 13) i = nI c) ∧ ∃ k : Nat, 1 ≤ k ∧ k ≤ 99 ∧ K.1 (a + 14) i = nI k
    have hi' : i < Z.nf := hi
    rw [s7 i (by omega), s8 i (by omega), ← h7, ← h8]
    exact p3 i hi
  · show K.1 a 16 = 0 ∨ K.1 a 16 = 1
    rw [s4, ← h3]
    exact p4
  · show (vS K.1 a).2.2.2.2.2.1 = nI x
    rw [s1.2.2.2.2.2.1, ← h2]
    exact p6
theorem cpN_C {M K : Mm} {a c pl n : Nat} {p : Pl} {Z : Sn} (hC : nsC M c pl p Z) (hn : n ≤ 12) (hP : nsP n Z) (hs : simS K a M c) (hr : K.2.2 a 0 = some pl ∧ K.2.2 a 1 = some (pl + 7) ∧ K.2.2 a 2 = some (pl + 18) ∧ K.2.2 a 3 = some (pl + 21)) : nsC K a pl p (cpN K a Z) := by
  obtain ⟨s1, s2, ⟨s3, s4, s5⟩, s6, s7, s8⟩ := hs
  obtain ⟨h1, h2, h3, h4, h5, h6, h7, h8, h9⟩ := hC
  obtain ⟨p1, p2, p3, p4, x, p5, p6⟩ := hP
  refine ⟨hr, rfl, rfl, s5.trans h4, s3.trans h5, s6.trans h6, rfl, rfl, fun j hj => ?_⟩
  show K.1 (a + 15) j = rfC (p.D 0 3) (K.1 (a + 13)) (K.1 (a + 14)) (fun _ => 0) Z.nf j
  rw [s2 j hj, h9 j hj, h7, h8]
  refine (rfC_E (g := fun _ => 0) (g' := fun _ => 0) s7.sy s8.sy Z.nf p2 (fun i hi => ?_)) j hj
  obtain ⟨⟨cc, c1, c2⟩, _⟩ := p3 i hi
  rw [← h7, c2]
  exact vp_in_nI (n := cc) (by omega) (by decide)
theorem cpN_R {M K : Mm} {I : Nat → Nat → Int32} {a b c pl nw n : Nat} {p : Pl} {Z : Sn} (hC : nsC M c pl p Z) (hP : nsP n Z) (hw : nw ≤ 6) (hs : simS K a M c) (hR : nsR I b nw Z) : nsR I b nw (cpN K a Z) := by
  obtain ⟨s1, s2, ⟨s3, s4, s5⟩, s6, s7, s8⟩ := hs
  obtain ⟨h1, h2, h3, h4, h5, h6, h7, h8, h9⟩ := hC
  obtain ⟨r1, ⟨r2, r3, r4, r5⟩, r6⟩ := hR
  have p2 := hP.2.1
  refine ⟨?_, ⟨r2, r3, fun j hj => ?_, fun j hj => ?_⟩, ?_⟩
  · show rAl I b nw Z.t (vS K.1 a)
    rw [h2] at r1
    exact r1.sc hw s1
  · have hj' : j < Z.nf := hj
    rw [r4 j hj, h7]
    exact (s7 j (by omega)).symm
  · have hj' : j < Z.nf := hj
    rw [r5 j hj, h8]
    exact (s8 j (by omega)).symm
  · rw [r6, h3]
    exact s4.symm
/-- going back, nobody comes -/
theorem unD_nf (kd wh bf : Int32) (D : D4) : (unD kd wh bf D).2.2.2 ≤ D.2.2.2 := by
  unfold unD
  repeat' split
  all_goals (show _ ≤ D.2.2.2; first | exact Nat.sub_le _ _ | exact Nat.le_refl _)
theorem ds_nf {I : Nat → Nat → Int32} {X : Sn} {nd : Nat} {Ds : Nat → D4} (h : dsC I X nd Ds) : ∀ d k : Nat, k + d ≤ nd → (Ds k).2.2.2 ≤ (Ds (k + d)).2.2.2
  | 0, _, _ => Nat.le_refl _
  | d + 1, k, hk => by
    have h1 := ds_nf h d k (by omega)
    have h2 := (h.2.2 (k + d) (by omega)).1
    have h3 := unD_nf (I 135 (k + d)) (I 136 (k + d)) (I 137 (k + d)) (Ds (k + d + 1))
    rw [← h2] at h3
    exact Nat.le_trans h1 h3
theorem ds_le {I : Nat → Nat → Int32} {X : Sn} {nd : Nat} {Ds : Nat → D4} (h : dsC I X nd Ds) {k : Nat} (hk : k ≤ nd) : (Ds k).2.2.2 ≤ X.nf := by
  have h1 := ds_nf h (nd - k) k (by omega)
  rw [show k + (nd - k) = nd by omega, h.2.1] at h1
  exact h1
/-- the states that can be brought back, one more -/
def dPu (nd : Nat) (Ds : Nat → D4) (D : D4) : Nat → D4 := if nd < 20 then (fun k => if k ≤ nd then Ds k else D) else (fun k => if k ≤ 19 then Ds (k + 1) else D)
theorem dA_lt {nd k : Nat} {f : Nat → Int32} {x : Int32} (h : nd < 20) : dA nd f x k = if k = nd then x else f k := by
  unfold dA
  rw [if_pos h]
  by_cases e : k = nd
  · subst e; rw [pk_us, if_pos rfl]
  · rw [pk_un e, if_neg e]
theorem dA_20 {k : Nat} {f : Nat → Int32} {x : Int32} (hk : k < 20) : dA 20 f x k = if k = 19 then x else f (k + 1) := by
  unfold dA
  rw [if_neg (by decide)]
  by_cases e : k = 19
  · subst e; rw [pk_us, if_pos rfl]
  · rw [pk_un e, if_neg e]
    unfold va_cpy
    rw [if_pos (by omega)]
    congr 1
    omega
theorem dsC.push {I J : Nat → Nat → Int32} {X X2 : Sn} {nd : Nat} {Ds : Nat → D4} {kd wh bf : Int32} (h : dsC I X nd Ds) (hnd : nd ≤ 20) (hk : okDd kd wh) (hu : unD kd wh bf (dOf X2) = dOf X) (e0 : J 134 0 = nI (dN nd)) (e1 : J 135 = dA nd (I 135) kd) (e2 : J 136 = dA nd (I 136) wh) (e3 : J 137 = dA nd (I 137) bf) : dsC J X2 (dN nd) (dPu nd Ds (dOf X2)) := by
  obtain ⟨h1, h2, h3⟩ := h
  rw [dsC, e1, e2, e3]
  refine ⟨e0, ?_, fun k hk2 => ?_⟩
  · unfold dPu dN
    by_cases q : nd < 20
    · rw [if_pos q, if_pos q]
      show (if nd + 1 ≤ nd then _ else _) = _
      rw [if_neg (by omega)]
    · rw [if_neg q, if_neg q]
      show (if 20 ≤ 19 then _ else _) = _
      rw [if_neg (by decide)]
  · by_cases q : nd < 20
    · have hn : dN nd = nd + 1 := if_pos q
      rw [hn] at hk2
      rw [dA_lt q, dA_lt q, dA_lt q]
      unfold dPu
      rw [if_pos q]
      show (if k ≤ nd then Ds k else dOf X2) = unD _ _ _ (if k + 1 ≤ nd then Ds (k + 1) else dOf X2) ∧ _
      by_cases e : k = nd
      · subst e
        rw [if_pos (Nat.le_refl _), if_neg (show ¬ k + 1 ≤ k by omega), if_pos rfl, if_pos rfl, if_pos rfl, hu]
        exact ⟨h2, hk⟩
      · rw [if_pos (show k ≤ nd by omega), if_pos (show k + 1 ≤ nd by omega), if_neg e, if_neg e, if_neg e]
        exact h3 k (by omega)
    · obtain rfl : nd = 20 := by omega
      have hn : dN 20 = 20 := rfl
      rw [hn] at hk2
      rw [dA_20 hk2, dA_20 hk2, dA_20 hk2]
      show (if k ≤ 19 then Ds (k + 1) else dOf X2) = unD _ _ _ (if k + 1 ≤ 19 then Ds (k + 1 + 1) else dOf X2) ∧ _
      by_cases e : k = 19
      · subst e
        rw [if_pos (Nat.le_refl _), if_neg (show ¬ 19 + 1 ≤ 19 by omega), if_pos rfl, if_pos rfl, if_pos rfl, hu]
        exact ⟨h2, hk⟩
      · rw [if_pos (show k ≤ 19 by omega), if_pos (show k + 1 ≤ 19 by omega), if_neg e, if_neg e, if_neg e]
        exact h3 (k + 1) (by omega)
theorem mkS_self (X : Sn) : mkS X.s (dOf X) = X.s := rfl
theorem ftR.eq {I : Nat → Nat → Int32} {b nf : Nat} {fc fk fc2 fk2 : Nat → Int32} (h : ftR I b nf fc fk) (e1 : eqN nf fc fc2) (e2 : eqN nf fk fk2) : ftR I b nf fc2 fk2 := ⟨h.1, h.2.1, h.2.2.1.tr e1, h.2.2.2.tr e2⟩
theorem dsR.push {M N Kf : Mm} {J : Nat → Nat → Int32} {X X2 : Sn} {nd nw : Nat} {Ds : Nat → D4} (hC : dsC J X nd Ds) (h : dsR M.1 nw X nd Ds) (h0 : nsR M.1 0 nw X) (hw : nw ≤ 6) (hnd : nd ≤ 20) (d : dpF M N nd) (e51 : Kf.1 149 51 = N.1 149 51) (cp : ∀ b, b ≠ 0 → cpB Kf.1 b N.1 b) (ht : X2.t = X.t) (hs : ∀ D, mkS X2.s D = mkS X.s D) (hf : eqN X.nf X.fc X2.fc ∧ eqN X.nf X.fk X2.fk) : dsR Kf.1 nw X2 (dN nd) (dPu nd Ds (dOf X2)) := by
  obtain ⟨d1, d2, d3, d4, d5, d6, d7, d8⟩ := d
  refine ⟨e51.trans d4, fun k hk => ?_⟩
  have c1 := cp (4 + k) (by omega)
  rw [ht, hs]
  by_cases q : k + 1 = dN nd
  · have c2 := c1.tr (d8 k q)
    have eD : dPu nd Ds (dOf X2) k = dOf X := by
      rw [← hC.2.1]
      unfold dPu
      by_cases q2 : nd < 20
      · have hn : dN nd = nd + 1 := if_pos q2
        rw [if_pos q2]
        show (if k ≤ nd then Ds k else _) = _
        rw [if_pos (by omega), show k = nd by omega]
      · obtain rfl : nd = 20 := by omega
        have hn : dN 20 = 20 := rfl
        rw [if_neg (by decide)]
        show (if k ≤ 19 then Ds (k + 1) else _) = _
        rw [if_pos (by omega), show k + 1 = 20 by omega]
    rw [eD, mkS_self]
    exact ⟨c2.al hw h0.1, (c2.ft h0.2.1).eq hf.1 hf.2, (c2.1 171 (by omega)).trans h0.2.2⟩
  · have c2 := c1.tr (d7 k (by omega))
    have hlt : k + dsh nd < nd := by
      unfold dsh
      by_cases q2 : nd < 20
      · have hn : dN nd = nd + 1 := if_pos q2
        rw [if_neg (show ¬ nd = 20 by omega)]; omega
      · obtain rfl : nd = 20 := by omega
        have hn : dN 20 = 20 := rfl
        rw [if_pos rfl]; omega
    have eD : dPu nd Ds (dOf X2) k = Ds (k + dsh nd) := by
      unfold dPu dsh
      by_cases q2 : nd < 20
      · have hn : dN nd = nd + 1 := if_pos q2
        rw [if_pos q2, if_neg (show ¬ nd = 20 by omega)]
        show (if k ≤ nd then Ds k else _) = _
        rw [if_pos (by omega), Nat.add_zero]
      · obtain rfl : nd = 20 := by omega
        have hn : dN 20 = 20 := rfl
        rw [if_neg (by decide), if_pos rfl]
        show (if k ≤ 19 then Ds (k + 1) else _) = _
        rw [if_pos (by omega)]
    obtain ⟨g1, g2, g3⟩ := h.2 (k + dsh nd) hlt
    have hle := ds_le hC (k := k + dsh nd) (by omega)
    rw [show 4 + (k + dsh nd) = 4 + k + dsh nd by omega] at g1 g2 g3
    rw [eD]
    exact ⟨c2.al hw g1, (c2.ft g2).eq (fun j hj => hf.1 j (by omega)) (fun j hj => hf.2 j (by omega)), (c2.1 171 (by omega)).trans g3⟩
