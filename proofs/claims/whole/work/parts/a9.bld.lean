theorem grC.mv {I J : Nat → Nat → Int32} {g : Gs} (h : grC I g) (e : ∀ a, 128 ≤ a → a ≤ 133 → J a = I a) : grC J g := by
  unfold grC
  rw [e 128 (by omega) (by omega), e 129 (by omega) (by omega), e 130 (by omega) (by omega), e 131 (by omega) (by omega), e 132 (by omega) (by omega), e 133 (by omega) (by omega)]
  exact h
theorem dsC.mv {I J : Nat → Nat → Int32} {X : Sn} {nd : Nat} {Ds : Nat → D4} (h : dsC I X nd Ds) (e : ∀ a, 134 ≤ a → a ≤ 137 → J a = I a) : dsC J X nd Ds := by
  unfold dsC
  rw [e 134 (by omega) (by omega), e 135 (by omega) (by omega), e 136 (by omega) (by omega), e 137 (by omega) (by omega)]
  exact h
theorem grR.mv {I J : Nat → Nat → Int32} {g : Gs} (h : grR I g) (e9 : J 149 70 = I 149 70 ∧ J 149 71 = I 149 71) (e : ∀ a, 190 ≤ a → a ≤ 194 → J a = I a) : grR J g := by
  unfold grR
  rw [e9.1, e9.2, e 190 (by omega) (by omega), e 191 (by omega) (by omega), e 192 (by omega) (by omega), e 193 (by omega) (by omega), e 194 (by omega) (by omega)]
  exact h
theorem dsR.cp {I J : Nat → Nat → Int32} {nw nd : Nat} {X : Sn} {Ds : Nat → D4} (h : dsR I nw X nd Ds) (hw : nw ≤ 6) (e : J 149 51 = I 149 51) (c : ∀ b, 4 ≤ b → cpB J b I b) : dsR J nw X nd Ds := by
  refine ⟨e.trans h.1, fun k hk => ?_⟩
  obtain ⟨g1, g2, g3⟩ := h.2 k hk
  have cc := c (4 + k) (by omega)
  exact ⟨cc.al hw g1, cc.ft g2, (cc.1 171 (by omega)).trans g3⟩
/-- groans alone have changed -/
theorem INV.gr {ly : Ly} {M K : Mm} {pl ps n : Nat} {A : Ab} {g2 : Gs} (hC : CA ly M pl ps A) (hR : RA ly M A) (hP : PA n A) (r : K.2.2 = M.2.2) (eC : ∀ a, a < 149 → (a < 128 ∨ 133 < a) → K.1 a = M.1 a) (hgC : grC K.1 g2) (eR : ∀ a, 150 ≤ a → (a < 190 ∨ 194 < a) → K.1 a = M.1 a) (e9 : ∀ j, j ≠ 0 → j ≠ 70 → j ≠ 71 → K.1 149 j = M.1 149 j) (hgR : grR K.1 g2) (hgP : grP g2) : INV ly K := by
  obtain ⟨⟨tp, f, q1, q2⟩, p, X, h, g, ⟨nd, Ds⟩, im, Y, h2⟩ := A
  have hw := hP.w6
  have hp := hC.p7
  obtain ⟨c1, ⟨c2, c3, c4⟩, ⟨c5, c6, c7⟩, c8, c9, c10, c11, c12, c13, ⟨c14, c15⟩, c16⟩ := hC
  obtain ⟨r1, r2, r3, r4, r5, r6, r7, r8, ⟨r9, r9b⟩, r10⟩ := hR
  obtain ⟨p1, p2, p3, p4, p5, p6, p7⟩ := hP
  have cp : ∀ b, cpB K.1 b M.1 b := fun b => cpB.eq (fun a ha => eR a (by omega) (by omega))
  refine ⟨pl, ps, n, (⟨tp, f, q1, q2⟩, p, X, h, g2, ⟨nd, Ds⟩, im, Y, h2), ⟨by rw [r]; exact c1, by rw [r]; exact ⟨c2, c3, c4⟩, ?_, ?_, c9.mv (fun k k1 k2 => eC k (by omega) (by omega)), c10.mv (fun k k1 k2 => eC k (by omega) (by omega)) (fun j _ => by rw [r]), ?_, hgC, c13.mv (fun a a1 a2 => eC a (by omega) (by omega)), ⟨?_, fun q => ⟨(c15 q).1.mv (fun k k1 k2 => eC k (by omega) (by omega)) (fun j _ => by rw [r]), ?_⟩⟩, ?_⟩, ⟨by rw [r]; exact r1, ?_, ?_, r4.mv (fun a a1 a2 => eR a (by omega) (by omega)), (cp 0).ns hw r5, ?_, hgR, r8.cp hw (e9 51 (by omega) (by omega) (by omega)) (fun b _ => cp b), ⟨(e9 50 (by omega) (by omega) (by omega)).trans r9, fun q => ⟨(cp 2).ns hw (r9b q).1, ?_⟩⟩, fun b hb => (cp b).gd (r10 b hb)⟩, ⟨p1, p2, p3, hgP, p5, p6, p7⟩⟩
  · rw [eC 0 (by omega) (by omega), eC 1 (by omega) (by omega), eC 4 (by omega) (by omega)]; exact ⟨c5, c6, c7⟩
  · rw [eC 2 (by omega) (by omega)]; exact c8
  · rw [eC 126 (by omega) (by omega)]; exact c11
  · rw [eC 0 (by omega) (by omega)]; exact c14
  · rw [eC 127 (by omega) (by omega)]; exact (c15 q).2
  · rw [eC 144 (by omega) (by omega)]; exact c16
  · rw [e9 2 (by omega) (by omega) (by omega), eR 150 (by omega) (by omega)]; exact r2
  · rw [e9 31 (by omega) (by omega) (by omega), e9 32 (by omega) (by omega) (by omega)]; exact r3
  · rw [eR 183 (by omega) (by omega)]; exact r6
  · rw [eR 183 (by omega) (by omega)]; exact (r9b q).2
/-- the scene that is has changed, its log, and what can be undone -/
theorem INV.sn {ly : Ly} {M K : Mm} {pl ps n nd2 : Nat} {A : Ab} {X2 : Sn} {hh : Nat → Int32} {Ds2 : Nat → D4} (hC : CA ly M pl ps A) (hR : RA ly M A) (hP : PA n A) (rX : XW ly K.2.2) (rR : RW ly K.2.2) (r0 : K.2.2 0 3 = M.2.2 0 3 ∧ K.2.2 0 4 = M.2.2 0 4) (r109 : ∀ j, j < 4 → K.2.2 109 j = M.2.2 109 j) (eC : ∀ a, a < 149 → (a < 75 ∨ 91 < a) → a ≠ 126 → (a < 134 ∨ 137 < a) → K.1 a = M.1 a) (hX : nsC K 75 pl A.p X2) (hh1 : K.1 126 = hh) (hD : dsC K.1 X2 nd2 Ds2) (eR : ∀ a, (150 ≤ a ∧ a ≤ 168) ∨ (190 ≤ a ∧ a ≤ 194) → K.1 a = M.1 a) (e9 : ∀ j, (j = 2 ∨ j = 31 ∨ j = 32 ∨ j = 50 ∨ j = 70 ∨ j = 71) → K.1 149 j = M.1 149 j) (hXR : nsR K.1 0 (A.p.ct 0) X2) (hh2 : eqN 60 (K.1 183) hh) (hDR : dsR K.1 (A.p.ct 0) X2 nd2 Ds2) (c2b : cpB K.1 2 M.1 2) (hh3 : eqN 60 (sh 60 (K.1 183)) (sh 60 (M.1 183))) (hgd : ∀ b, b < 24 → gdB K.1 b) (hPX : nsP n X2) (hnd : nd2 ≤ 20) : INV ly K := by
  obtain ⟨⟨tp, f, q1, q2⟩, p, X, h, g, ⟨nd, Ds⟩, im, Y, h2⟩ := A
  have hw := hP.w6
  have hp := hC.p7
  obtain ⟨c1, ⟨c2, c3, c4⟩, ⟨c5, c6, c7⟩, c8, c9, c10, c11, c12, c13, ⟨c14, c15⟩, c16⟩ := hC
  obtain ⟨r1, r2, r3, r4, r5, r6, r7, r8, ⟨r9, r9b⟩, r10⟩ := hR
  obtain ⟨p1, p2, p3, p4, p5, p6, p7⟩ := hP
  refine ⟨pl, ps, n, (⟨tp, f, q1, q2⟩, p, X2, hh, g, ⟨nd2, Ds2⟩, im, Y, h2), ⟨rX, ⟨c2, r0.1.trans c3, r0.2.trans c4⟩, ?_, ?_, c9.mv (fun k k1 k2 => eC k (by omega) (by omega) (by omega) (by omega)), hX, hh1, c12.mv (fun a a1 a2 => eC a (by omega) (by omega) (by omega) (by omega)), hD, ⟨?_, fun q => ⟨(c15 q).1.mv (fun k k1 k2 => eC k (by omega) (by omega) (by omega) (by omega)) r109, ?_⟩⟩, ?_⟩, ⟨rR, ?_, ?_, r4.mv (fun a a1 a2 => eR a (by omega)), hXR, hh2, r7.mv ⟨e9 70 (by omega), e9 71 (by omega)⟩ (fun a a1 a2 => eR a (by omega)), hDR, ⟨(e9 50 (by omega)).trans r9, fun q => ⟨c2b.ns hw (r9b q).1, hh3.tr (r9b q).2⟩⟩, hgd⟩, ⟨p1, p2, hPX, p4, hnd, p6, p7⟩⟩
  · rw [eC 0 (by omega) (by omega) (by omega) (by omega), eC 1 (by omega) (by omega) (by omega) (by omega), eC 4 (by omega) (by omega) (by omega) (by omega)]; exact ⟨c5, c6, c7⟩
  · rw [eC 2 (by omega) (by omega) (by omega) (by omega)]; exact c8
  · rw [eC 0 (by omega) (by omega) (by omega) (by omega)]; exact c14
  · rw [eC 127 (by omega) (by omega) (by omega) (by omega)]; exact (c15 q).2
  · rw [eC 144 (by omega) (by omega) (by omega) (by omega)]; exact c16
  · rw [e9 2 (by omega), eR 150 (by omega)]; exact r2
  · rw [e9 31 (by omega), e9 32 (by omega)]; exact r3
/-- an image has been kept -/
theorem INV.im {ly : Ly} {M K : Mm} {pl ps n : Nat} {A : Ab} {Y2 : Sn} {hh : Nat → Int32} (hC : CA ly M pl ps A) (hR : RA ly M A) (hP : PA n A) (rX : XW ly K.2.2) (rR : RW ly K.2.2) (r0 : K.2.2 0 3 = M.2.2 0 3 ∧ K.2.2 0 4 = M.2.2 0 4) (r75 : ∀ j, j < 4 → K.2.2 75 j = M.2.2 75 j) (eC : ∀ a, a < 149 → (a < 109 ∨ 125 < a) → a ≠ 127 → a ≠ 0 → K.1 a = M.1 a) (e0 : K.1 0 1 = M.1 0 1 ∧ K.1 0 8 = 1) (hY : nsC K 109 pl A.p Y2) (hh1 : K.1 127 = hh) (eR : ∀ a, (150 ≤ a ∧ a ≤ 168) ∨ (190 ≤ a ∧ a ≤ 194) → K.1 a = M.1 a) (e9 : ∀ j, (j = 2 ∨ j = 31 ∨ j = 32 ∨ j = 51 ∨ j = 70 ∨ j = 71) → K.1 149 j = M.1 149 j) (e50 : K.1 149 50 = 1) (hYR : nsR K.1 2 (A.p.ct 0) Y2) (hh2 : eqN 60 (sh 60 (K.1 183)) hh) (hh3 : eqN 60 (K.1 183) (M.1 183)) (c : ∀ b, b ≠ 2 → cpB K.1 b M.1 b) (hgd : ∀ b, b < 24 → gdB K.1 b) (hPY : nsP n Y2) : INV ly K := by
  obtain ⟨⟨tp, f, q1, q2⟩, p, X, h, g, ⟨nd, Ds⟩, im, Y, h2⟩ := A
  have hw := hP.w6
  have hp := hC.p7
  obtain ⟨c1, ⟨c2, c3, c4⟩, ⟨c5, c6, c7⟩, c8, c9, c10, c11, c12, c13, ⟨c14, c15⟩, c16⟩ := hC
  obtain ⟨r1, r2, r3, r4, r5, r6, r7, r8, ⟨r9, r9b⟩, r10⟩ := hR
  obtain ⟨p1, p2, p3, p4, p5, p6, p7⟩ := hP
  refine ⟨pl, ps, n, (⟨tp, f, q1, q2⟩, p, X, h, g, ⟨nd, Ds⟩, 1, Y2, hh), ⟨rX, ⟨c2, r0.1.trans c3, r0.2.trans c4⟩, ?_, ?_, c9.mv (fun k k1 k2 => eC k (by omega) (by omega) (by omega) (by omega)), c10.mv (fun k k1 k2 => eC k (by omega) (by omega) (by omega) (by omega)) r75, ?_, c12.mv (fun a a1 a2 => eC a (by omega) (by omega) (by omega) (by omega)), c13.mv (fun a a1 a2 => eC a (by omega) (by omega) (by omega) (by omega)), ⟨e0.2, fun q => ⟨hY, hh1⟩⟩, ?_⟩, ⟨rR, ?_, ?_, r4.mv (fun a a1 a2 => eR a (by omega)), (c 0 (by omega)).ns hw r5, hh3.tr r6, r7.mv ⟨e9 70 (by omega), e9 71 (by omega)⟩ (fun a a1 a2 => eR a (by omega)), r8.cp hw (e9 51 (by omega)) (fun b hb => c b (by omega)), ⟨e50, fun q => ⟨hYR, hh2⟩⟩, hgd⟩, ⟨p1, p2, p3, p4, p5, Or.inr rfl, fun _ => hPY⟩⟩
  · rw [e0.1, eC 1 (by omega) (by omega) (by omega) (by omega), eC 4 (by omega) (by omega) (by omega) (by omega)]; exact ⟨c5, c6, c7⟩
  · rw [eC 2 (by omega) (by omega) (by omega) (by omega)]; exact c8
  · rw [eC 126 (by omega) (by omega) (by omega) (by omega)]; exact c11
  · rw [eC 144 (by omega) (by omega) (by omega) (by omega)]; exact c16
  · rw [e9 2 (by omega), eR 150 (by omega)]; exact r2
  · rw [e9 31 (by omega), e9 32 (by omega)]; exact r3
