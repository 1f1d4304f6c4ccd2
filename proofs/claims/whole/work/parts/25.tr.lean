theorem vp_in_lt {x : Int32} {n : Nat} (h : vp_in x n) : x.toNatClampNeg < n := Nat.lt_of_not_le (fun e => h (Or.inr e))
theorem quX.tr2 {M N K : Mm} (h : quX M N) (g : quX N K) : quX M K := ⟨fun k a b c d e f => (g.1 k a b c d e f).trans (h.1 k a b c d e f), fun j a => (g.2.1 j a).trans (h.2.1 j a), fun k j a => (g.2.2 k j a).trans (h.2.2 k j a)⟩
theorem quX.xw {ly : Ly} {M N : Mm} (h : quX M N) (hX : XW ly M.2.2) : XW ly N.2.2 := by
  refine ⟨hX.1, fun q hq => ?_⟩
  rw [h.2.2 q.1 q.2.1]
  · exact hX.2 q hq
  · by_cases e : q.1 = 92
    · right
      have := xFin_sc q hq (by omega)
      omega
    · exact Or.inl e
theorem quX.at {M N : Mm} (h : quX M N) {k : Nat} (hk : k ≠ 0 ∧ k ≠ 91 ∧ (k < 92 ∨ 108 < k) ∧ (k < 138 ∨ 143 < k) ∧ k ≠ 147 ∧ k ≠ 148) : N.1 k = M.1 k := h.1 k hk.1 hk.2.1 hk.2.2.1 hk.2.2.2.1 hk.2.2.2.2.1 hk.2.2.2.2.2
theorem quX.p0 {M N : Mm} (h : quX M N) {pl : Nat} (hp : pl = 7 ∨ pl = 41) : N.1 pl = M.1 pl := h.at (by omega)
theorem quX.pk {M N : Mm} (h : quX M N) {pl k : Nat} (hp : pl = 7 ∨ pl = 41) (hk : k < 34) : N.1 (pl + k) = M.1 (pl + k) := h.at (by omega)
theorem quX.xs {ly : Ly} {M N : Mm} {pl n nw nu nv : Nat} (h : quX M N) (hXS : XS ly M pl n nw nu nv) : XS ly N pl n nw nu nv := by
  obtain ⟨hX, hpl, hp7, ⟨n0, n1, n2, n3⟩, ⟨hn, hn2, hn12⟩, ⟨hw1, hw2, hw6⟩, ⟨hu1, hu2, hv1, hv2⟩, hgl, hbb⟩ := hXS
  refine ⟨h.xw hX, (h.2.2 0 3 (by decide)).trans hpl, hp7, ⟨(h.2.2 75 0 (by decide)).trans n0, (h.2.2 75 1 (by decide)).trans n1, (h.2.2 75 2 (by decide)).trans n2, (h.2.2 75 3 (by decide)).trans n3⟩, ⟨?_, hn2, hn12⟩, ⟨?_, ?_, hw6⟩, ⟨?_, hu2, ?_, hv2⟩, ?_, ?_⟩
  · rw [h.at (k := pl) (by omega)]; exact hn
  · rw [h.at (k := pl + 1) (by omega)]; exact hw1
  · rw [h.at (k := pl + 7) (by omega)]; exact hw2
  · rw [h.at (k := pl + 18) (by omega)]; exact hu1
  · rw [h.at (k := pl + 21) (by omega)]; exact hv1
  · rw [h.at (k := pl) (by omega)]; exact hgl
  · rw [h.at (k := 75) (by omega)]; exact hbb
theorem quX.vs {M N : Mm} (h : quX M N) : vS N.1 75 = vS M.1 75 := by
  unfold vS vW
  rw [h.at (k := 75) (by omega), h.at (k := 75 + 2) (by omega), h.at (k := 75 + 3) (by omega), h.at (k := 75 + 6) (by omega), h.at (k := 75 + 7) (by omega), h.at (k := 75 + 9) (by omega), h.at (k := 75 + 10) (by omega), h.at (k := 75 + 11) (by omega), h.at (k := 75 + 4) (by omega), h.at (k := 75 + 8) (by omega)]
theorem vS_eq {I I' : Nat → Nat → Int32} {a : Nat} (h : ∀ k, k ≤ 11 → I (a + k) = I' (a + k)) : vS I a = vS I' a := by
  unfold vS vW
  rw [h 2 (by omega), h 3 (by omega), h 6 (by omega), h 7 (by omega), h 9 (by omega), h 10 (by omega), h 11 (by omega), h 4 (by omega), h 8 (by omega), show I a = I' a from h 0 (by omega)]
/-- a scene with other stages -/
def stgS (s : Sc) (g : Nat → Int32) : Sc := (s.1, s.2.1, s.2.2.1, s.2.2.2.1, (s.2.2.2.2.1.1, s.2.2.2.2.1.2.1, g, s.2.2.2.2.1.2.2.2.1, s.2.2.2.2.1.2.2.2.2), s.2.2.2.2.2.1, s.2.2.2.2.2.2.1, s.2.2.2.2.2.2.2)
/-- a scene with another push -/
def puS (s : Sc) (g : Nat → Int32) : Sc := (s.1, s.2.1, s.2.2.1, s.2.2.2.1, (s.2.2.2.2.1.1, s.2.2.2.2.1.2.1, s.2.2.2.2.1.2.2.1, g, s.2.2.2.2.1.2.2.2.2), s.2.2.2.2.2.1, s.2.2.2.2.2.2.1, s.2.2.2.2.2.2.2)
theorem sR_92 {N : Mm} {k j i : Nat} {x : Option Nat} (h : k ≠ 92 ∨ 4 ≤ j) (hi : i < 4) : (sR N 92 (va_up (N.2.2 92) i x)).2.2 k j = N.2.2 k j := by
  by_cases e : k = 92
  · subst e
    have h : 4 ≤ j := h.elim (fun h => absurd rfl h) id
    rw [sR_at, upR_n (by omega)]
  · rw [sR_ne e]
/-- only the trial has changed -/
def quT (N K : Mm) : Prop := (∀ k, (k < 92 ∨ 108 < k) → K.1 k = N.1 k) ∧ (∀ k j, (k ≠ 92 ∨ 4 ≤ j) → K.2.2 k j = N.2.2 k j)
theorem quT.tr {N K L : Mm} (h : quT N K) (g : quT K L) : quT N L := ⟨fun k a => (g.1 k a).trans (h.1 k a), fun k j a => (g.2 k j a).trans (h.2 k j a)⟩
theorem quT.rf {N : Mm} : quT N N := ⟨fun _ _ => rfl, fun _ _ _ => rfl⟩
/-- a time by a crowd (nw, its rows J) and two laws -/
def TG (I : Nat → Nat → Int32) (pl n nw : Nat) (J : Nat → Nat → Int32) (u nu v nv : Nat) (het bl upo : Int32) (ca : Nat → Int32) : Sc → Sc := pasF n nw (I pl 1) (I pl 2) (I pl 5) (I pl 6) het bl upo ca (J 1) (J 2) (J 3) (J 4) (J 5) (fun m => valL m (I (u + 1)) nu) (fun m => valL m (I (v + 1)) nv)
/-- the memory N, in a question asked at M: what the trial is -/
def Tr (ly : Ly) (M N : Mm) (pl n c nw : Nat) (J : Nat → Nat → Int32) (u nu v nv : Nat) (het bl upo : Int32) (ca : Nat → Int32) (nf : Nat) (fc fk : Nat → Int32) (s : Sc) : Prop :=
  quX M N ∧ (N.2.2 92 0 = some pl ∧ N.2.2 92 1 = some c ∧ N.2.2 92 2 = some u ∧ N.2.2 92 3 = some v) ∧ (N.1 c 0 = nI nw ∧ N.1 (c + 1) = J 1 ∧ N.1 (c + 2) = J 2 ∧ N.1 (c + 3) = J 3 ∧ N.1 (c + 4) = J 4 ∧ N.1 (c + 5) = J 5) ∧ (N.1 92 4 = het ∧ N.1 92 16 = bl ∧ N.1 92 17 = upo) ∧ eqN 12 (N.1 107) ca ∧ (N.1 104 0 = nI nf ∧ eqN 8 (N.1 105) fc ∧ eqN 8 (N.1 106) fk) ∧ scE (vS N.1 92) s
/-- crowds and laws that a trial may have -/
def okT (ly : Ly) (M : Mm) (pl n c nw u nu v nv : Nat) : Prop := XW ly M.2.2 ∧ (pl = 7 ∨ pl = 41) ∧ (M.1 pl 0 = nI n ∧ n ≤ 12) ∧ (c = pl + 7 ∨ c = 138) ∧ nw ≤ 6 ∧ (u = pl + 18 ∨ u = pl + 25 ∨ u = pl + 28 ∨ u = pl + 31) ∧ (M.1 u 0 = nI nu ∧ nu ≤ 64) ∧ (v = pl + 21 ∨ v = 144) ∧ (M.1 v 0 = nI nv ∧ nv ≤ 64) ∧ ¬ 2 * M.1 pl 6 + 1 = 0
theorem iPlan.may {ly : Ly} {M : Mm} {p u : Nat} (h : XW ly M.2.2) (hp : p = 7 ∨ p = 41) (hu : u = p + 18 ∨ u = p + 25 ∨ u = p + 28 ∨ u = p + 31) : iLaw ly M u := by
  rcases hp with rfl | rfl
  · rcases hu with rfl | rfl | rfl | rfl
    · exact xLaw25 h
    · exact xLaw32 h
    · exact xLaw35 h
    · exact xLaw38 h
  · rcases hu with rfl | rfl | rfl | rfl
    · exact xLaw59 h
    · exact xLaw66 h
    · exact xLaw69 h
    · exact xLaw72 h
theorem iPlan.sid {ly : Ly} {M : Mm} {p u : Nat} (h : XW ly M.2.2) (hp : p = 7 ∨ p = 41) (hu : u = p + 21 ∨ u = 144) : iLaw ly M u := by
  rcases hu with rfl | rfl
  · exact iPlan.side h hp
  · exact xLaw144 h
theorem iPlan.cro {ly : Ly} {M : Mm} {p u : Nat} (h : XW ly M.2.2) (hp : p = 7 ∨ p = 41) (hu : u = p + 7 ∨ u = 138) : iCrowd ly M u := by
  rcases hu with rfl | rfl
  · exact iPlan.crowd h hp
  · exact xCrowd138 h
theorem XS.ok {ly : Ly} {M : Mm} {pl n nw nu nv : Nat} (h : XS ly M pl n nw nu nv) : okT ly M pl n (pl + 7) nw (pl + 18) nu (pl + 21) nv := by
  obtain ⟨hX, hpl, hp7, ⟨n0, n1, n2, n3⟩, ⟨hn, hn2, hn12⟩, ⟨hw1, hw2, hw6⟩, ⟨hu1, hu2, hv1, hv2⟩, hgl, hbb⟩ := h
  exact ⟨hX, hp7, ⟨hn, hn12⟩, Or.inl rfl, hw6, Or.inl rfl, ⟨hu1, hu2⟩, Or.inl rfl, ⟨hv1, hv2⟩, hgl⟩
theorem TX_TG {I : Nat → Nat → Int32} {pl n nw nu nv : Nat} {het bl upo : Int32} {ca : Nat → Int32} : TX I pl n nw nu nv het bl upo ca = TG I pl n nw (fun k => I (pl + 7 + k)) (pl + 18) nu (pl + 21) nv het bl upo ca := rfl
theorem trNow {G : Gx} {l : Launch} {ly : Ly} {M N : Mm} {pl n nw nu nv nf : Nat} {z : Int32} (hz : z = 0 ∨ z = 1) (hXS : XS ly M pl n nw nu nv) (hF : M.1 87 0 = nI nf) (hq : quX M N) {Q : Qt} (hQ : ∀ K, Tr ly M K pl n (pl + 7) nw (fun k => M.1 (pl + 7 + k)) (pl + 18) nu (pl + 21) nv (M.1 75 4) 0 z (M.1 90) nf (M.1 88) (M.1 89) (vS M.1 75) → quT N K → Q none ly K) : Mt G l mX11_tryFromNow (4, 0, 0, false) [.ref 0, .int z] ly N Q := by
  refine tX11_tryFromNow hz (hq.xs hXS) (fun I h => hQ _ ?_ ⟨fun k hk => h.1 k hk, fun k j hk => rSc_hi hk⟩)
  obtain ⟨hX, hpl, hp7, ⟨n0, n1, n2, n3⟩, ⟨hn, hn2, hn12⟩, ⟨hw1, hw2, hw6⟩, ⟨hu1, hu2, hv1, hv2⟩, hgl, hbb⟩ := hXS
  obtain ⟨h0, h1, h2, h3, h4, h5, h6, h7, h8⟩ := h
  have hI : ∀ k, (k ≠ 0 ∧ k ≠ 91 ∧ (k < 92 ∨ 108 < k) ∧ (k < 138 ∨ 143 < k) ∧ k ≠ 147 ∧ k ≠ 148) → I k = M.1 k := fun k hk => (h0 k (by omega)).trans (hq.at hk)
  refine ⟨hq.tr2 (quX.tr h0), ⟨rfl, rfl, rfl, rfl⟩, ⟨?_, ?_, ?_, ?_, ?_, ?_⟩, ⟨?_, h4, h5⟩, ?_, ⟨?_, ?_, ?_⟩, ?_⟩
  · show I (pl + 7) 0 = nI nw
    rw [hI (pl + 7) (by omega)]; exact hw2
  · exact hI (pl + 7 + 1) (by omega)
  · exact hI (pl + 7 + 2) (by omega)
  · exact hI (pl + 7 + 3) (by omega)
  · exact hI (pl + 7 + 4) (by omega)
  · exact hI (pl + 7 + 5) (by omega)
  · rw [← hq.at (k := 75) (by omega)]; exact h3
  · rw [← hq.at (k := 90) (by omega)]; exact h2
  · rw [← hF, ← hq.at (k := 87) (by omega)]; exact h6
  · rw [← hq.at (k := 88) (by omega)]; exact h7
  · rw [← hq.at (k := 89) (by omega)]; exact h8
  · rw [← hq.vs]; exact h1
theorem trRest {G : Gx} {l : Launch} {ly : Ly} {M N : Mm} {pl n nw nu nv nf : Nat} (hXS : XS ly M pl n nw nu nv) (hF : M.1 87 0 = nI nf) (hq : quX M N) {Q : Qt} (hQ : ∀ K, Tr ly M K pl n (pl + 7) nw (fun k => M.1 (pl + 7 + k)) (pl + 18) nu (pl + 21) nv (M.1 75 4) 0 1 (M.1 90) nf (M.1 88) (M.1 89) (zsc (M.1 75 15) (fun _ => 0)) → quT N K → Q none ly K) : Mt G l mX11_tryFromRest (5, 0, 0, false) [.ref 0] ly N Q := by
  refine tX11_tryFromRest (hq.xs hXS) (fun I h => hQ _ ?_ ⟨fun k hk => h.1 k hk, fun k j hk => rSc_hi hk⟩)
  obtain ⟨hX, hpl, hp7, ⟨n0, n1, n2, n3⟩, ⟨hn, hn2, hn12⟩, ⟨hw1, hw2, hw6⟩, ⟨hu1, hu2, hv1, hv2⟩, hgl, hbb⟩ := hXS
  obtain ⟨h0, h1, h2, h3, h4, h5, h6, h7, h8⟩ := h
  have hI : ∀ k, (k ≠ 0 ∧ k ≠ 91 ∧ (k < 92 ∨ 108 < k) ∧ (k < 138 ∨ 143 < k) ∧ k ≠ 147 ∧ k ≠ 148) → I k = M.1 k := fun k hk => (h0 k (by omega)).trans (hq.at hk)
  refine ⟨hq.tr2 (quX.tr h0), ⟨rfl, rfl, rfl, rfl⟩, ⟨?_, ?_, ?_, ?_, ?_, ?_⟩, ⟨?_, h4, h5⟩, ?_, ⟨?_, ?_, ?_⟩, ?_⟩
  · show I (pl + 7) 0 = nI nw
    rw [hI (pl + 7) (by omega)]; exact hw2
  · exact hI (pl + 7 + 1) (by omega)
  · exact hI (pl + 7 + 2) (by omega)
  · exact hI (pl + 7 + 3) (by omega)
  · exact hI (pl + 7 + 4) (by omega)
  · exact hI (pl + 7 + 5) (by omega)
  · rw [← hq.at (k := 75) (by omega)]; exact h3
  · rw [← hq.at (k := 90) (by omega)]; exact h2
  · rw [← hF, ← hq.at (k := 87) (by omega)]; exact h6
  · rw [← hq.at (k := 88) (by omega)]; exact h7
  · rw [← hq.at (k := 89) (by omega)]; exact h8
  · rw [← hq.at (k := 75) (by omega)]; exact h1
/-- the trial's own time is TG's -/
theorem Tr.tm {ly : Ly} {M N : Mm} {pl n c nw : Nat} {J : Nat → Nat → Int32} {u nu v nv : Nat} {het bl upo : Int32} {ca : Nat → Int32} {nf : Nat} {fc fk : Nat → Int32} {s : Sc} (hok : okT ly M pl n c nw u nu v nv) (h : Tr ly M N pl n c nw J u nu v nv het bl upo ca nf fc fk s) (a b : Sc) (hab : scE a b) : scE (pasF n nw (N.1 pl 1) (N.1 pl 2) (N.1 pl 5) (N.1 pl 6) (N.1 92 4) (N.1 92 16) (N.1 92 17) (N.1 107) (N.1 (c + 1)) (N.1 (c + 2)) (N.1 (c + 3)) (N.1 (c + 4)) (N.1 (c + 5)) (fun m => valL m (N.1 (u + 1)) nu) (fun m => valL m (N.1 (v + 1)) nv) a) (TG M.1 pl n nw J u nu v nv het bl upo ca b) := by
  obtain ⟨hX, hp7, ⟨hn, hn12⟩, hc, hw6, hu, ⟨hu1, hu2⟩, hv, ⟨hv1, hv2⟩, hgl⟩ := hok
  obtain ⟨hq, ⟨p0, p1, p2, p3⟩, ⟨c0, c1, c2, c3, c4, c5⟩, ⟨e0, e1, e2⟩, hca, ⟨f0, f1, f2⟩, hs⟩ := h
  unfold TG
  rw [c1, c2, c3, c4, c5, e0, e1, e2, hq.at (k := pl) (by omega), hq.at (k := u + 1) (by omega), hq.at (k := v + 1) (by omega)]
  exact pasF_E hn12 hw6 hca hab
/-- what a time leaves of a trial -/
theorem Tr.fr {ly : Ly} {M N : Mm} {pl n c nw : Nat} {J : Nat → Nat → Int32} {u nu v nv : Nat} {het bl upo : Int32} {ca : Nat → Int32} {nf : Nat} {fc fk : Nat → Int32} {s : Sc} {s' : Sc} (hok : okT ly M pl n c nw u nu v nv) (h : Tr ly M N pl n c nw J u nu v nv het bl upo ca nf fc fk s) {I : Nat → Nat → Int32} {L : Nat → Nat → Int64} (hf : frS N.1 I 92) (hs : scE (vS I 92) s') : Tr ly M (I, L, N.2.2) pl n c nw J u nu v nv het bl upo ca nf fc fk s' := by
  obtain ⟨hX, hp7, ⟨hn, hn12⟩, hc, hw6, hu, ⟨hu1, hu2⟩, hv, ⟨hv1, hv2⟩, hgl⟩ := hok
  obtain ⟨hq, ⟨p0, p1, p2, p3⟩, ⟨c0, c1, c2, c3, c4, c5⟩, ⟨e0, e1, e2⟩, hca, ⟨f0, f1, f2⟩, hs0⟩ := h
  refine ⟨⟨fun k a b c d e f => (hf.1 k (by omega)).trans (hq.1 k a b c d e f), fun j a => (congrFun (hf.1 0 (by omega)) j).trans (hq.2.1 j a), hq.2.2⟩, ⟨p0, p1, p2, p3⟩, ⟨?_, ?_, ?_, ?_, ?_, ?_⟩, ⟨?_, ?_, ?_⟩, ?_, ⟨?_, ?_, ?_⟩, hs⟩
  · exact (congrFun (hf.1 c (by omega)) 0).trans c0
  · exact (hf.1 (c + 1) (by omega)).trans c1
  · exact (hf.1 (c + 2) (by omega)).trans c2
  · exact (hf.1 (c + 3) (by omega)).trans c3
  · exact (hf.1 (c + 4) (by omega)).trans c4
  · exact (hf.1 (c + 5) (by omega)).trans c5
  · exact (hf.2 4 (by decide) (by decide) (by decide)).trans e0
  · exact (hf.2 16 (by decide) (by decide) (by decide)).trans e1
  · exact (hf.2 17 (by decide) (by decide) (by decide)).trans e2
  · show eqN 12 (I 107) ca
    rw [hf.1 107 (by omega)]; exact hca
  · exact (congrFun (hf.1 104 (by omega)) 0).trans f0
  · show eqN 8 (I 105) fc
    rw [hf.1 105 (by omega)]; exact f1
  · show eqN 8 (I 106) fk
    rw [hf.1 106 (by omega)]; exact f2
theorem trPass {G : Gx} {l : Launch} {ly : Ly} {M N : Mm} {pl n c nw : Nat} {J : Nat → Nat → Int32} {u nu v nv : Nat} {het bl upo : Int32} {ca : Nat → Int32} {nf : Nat} {fc fk : Nat → Int32} {s : Sc} (hok : okT ly M pl n c nw u nu v nv) (h : Tr ly M N pl n c nw J u nu v nv het bl upo ca nf fc fk s) {Q : Qt} (hQ : ∀ K, Tr ly M K pl n c nw J u nu v nv het bl upo ca nf fc fk (TG M.1 pl n nw J u nu v nv het bl upo ca s) → quT N K → Q none ly K) : Mt G l mX9_pass (5, 0, 0, false) [.ref 92] ly N Q := by
  have ht := Tr.tm hok h
  have hfr := @Tr.fr ly M N pl n c nw J u nu v nv het bl upo ca nf fc fk s
  have hok0 := hok
  have h0 := h
  obtain ⟨hX, hp7, ⟨hn, hn12⟩, hc, hw6, hu, ⟨hu1, hu2⟩, hv, ⟨hv1, hv2⟩, hgl⟩ := hok
  obtain ⟨hq, ⟨p0, p1, p2, p3⟩, ⟨c0, c1, c2, c3, c4, c5⟩, ⟨e0, e1, e2⟩, hca, ⟨f0, f1, f2⟩, hs⟩ := h
  have hX' := hq.xw hX
  refine tX9_pass (a := 92) (p := pl) (c := c) (u := u) (v := v) (n := n) (nu := nu) (nv := nv) (nw := nw) (xScene92 hX') p0 (pc0 hX' hp7) (by omega) (by rw [hq.at (k := pl) (by omega)]; exact hn) hn12 p1 (iPlan.cro hX' hp7 hc) (by omega) p2 (iPlan.may hX' hp7 hu) (by omega) p3 (iPlan.sid hX' hp7 hv) (by omega) (by rw [hq.at (k := u) (by omega)]; exact hu1) hu2 (by rw [hq.at (k := v) (by omega)]; exact hv1) hv2 c0 hw6 (by rw [hq.at (k := pl) (by omega)]; exact hgl) ?_
  intro I L g1 g2 g3
  exact hQ _ (hfr hok0 h0 ⟨g1, g2⟩ (by rw [g3]; exact ht _ _ hs)) ⟨fun k hk => g1 k (by omega), fun _ _ _ => rfl⟩
theorem trHigh {G : Gx} {l : Launch} {ly : Ly} {M N : Mm} {pl n c nw : Nat} {J : Nat → Nat → Int32} {u nu v nv : Nat} {het bl upo : Int32} {ca : Nat → Int32} {nf : Nat} {fc fk : Nat → Int32} {s : Sc} {K : Nat} {lim : Int32} (hK : K < 1000) (hok : okT ly M pl n c nw u nu v nv) (h : Tr ly M N pl n c nw J u nu v nv het bl upo ca nf fc fk s) {Q : Qt} (hQ : ∀ N' k, k ≤ K → quX M N' → quT N N' → (k = K ∨ lim < hgS (TG M.1 pl n nw J u nu v nv het bl upo ca) s n k) → (∀ j, j < k → ¬ lim < hgS (TG M.1 pl n nw J u nu v nv het bl upo ca) s n j) → Q (some (.int (hgS (TG M.1 pl n nw J u nu v nv het bl upo ca) s n k))) ly N') : Mt G l mX9_highest (6, 0, 0, false) [.ref 92, .int (nI K), .int lim] ly N Q := by
  have ht := Tr.tm hok h
  have hfr := @Tr.fr ly M N pl n c nw J u nu v nv het bl upo ca nf fc fk s
  have hok0 := hok
  have h0 := h
  obtain ⟨hX, hp7, ⟨hn, hn12⟩, hc, hw6, hu, ⟨hu1, hu2⟩, hv, ⟨hv1, hv2⟩, hgl⟩ := hok
  obtain ⟨hq, ⟨p0, p1, p2, p3⟩, ⟨c0, c1, c2, c3, c4, c5⟩, ⟨e0, e1, e2⟩, hca, ⟨f0, f1, f2⟩, hs⟩ := h
  have hX' := hq.xw hX
  refine tX9_highest (a := 92) (p := pl) (c := c) (u := u) (v := v) (n := n) (nu := nu) (nv := nv) (nw := nw) (xScene92 hX') p0 (pc0 hX' hp7) (by omega) (by rw [hq.at (k := pl) (by omega)]; exact hn) hn12 p1 (iPlan.cro hX' hp7 hc) (by omega) p2 (iPlan.may hX' hp7 hu) (by omega) p3 (iPlan.sid hX' hp7 hv) (by omega) (by rw [hq.at (k := u) (by omega)]; exact hu1) hu2 (by rw [hq.at (k := v) (by omega)]; exact hv1) hv2 c0 hw6 (by rw [hq.at (k := pl) (by omega)]; exact hgl) hK ?_
  intro I L k hk g1 g2 g3 g4
  have he := fun j => hgS_E hn12 ht hs j
  rw [he k] at g3 ⊢
  exact hQ _ k hk (hfr hok0 h0 g1 (scE.rf)).1 ⟨fun k hk => g1.1 k (by omega), fun _ _ _ => rfl⟩ g3 (fun j hj => by rw [← he j]; exact g4 j hj)
theorem trHighAll {G : Gx} {l : Launch} {ly : Ly} {M N : Mm} {pl n c nw : Nat} {J : Nat → Nat → Int32} {u nu v nv : Nat} {het bl upo : Int32} {ca : Nat → Int32} {nf : Nat} {fc fk : Nat → Int32} {s : Sc} {K : Nat} (hK : K < 1000) (hok : okT ly M pl n c nw u nu v nv) (h : Tr ly M N pl n c nw J u nu v nv het bl upo ca nf fc fk s) {Q : Qt} (hQ : ∀ N', quX M N' → quT N N' → Q (some (.int (hgS (TG M.1 pl n nw J u nu v nv het bl upo ca) s n K))) ly N') : Mt G l mX9_highest (6, 0, 0, false) [.ref 92, .int (nI K), .int 100000] ly N Q := by
  refine trHigh hK hok h (fun N' k hk hq hu h1 h2 => ?_)
  have hk : k = K := h1.elim id (fun h => absurd h (hgS_nlt (fun s => gr_pas)))
  subst hk
  exact hQ N' hq hu
theorem trGr {G : Gx} {l : Launch} {ly : Ly} {M N : Mm} {pl n c nw : Nat} {J : Nat → Nat → Int32} {u nu v nv : Nat} {het bl upo : Int32} {ca : Nat → Int32} {nf : Nat} {fc fk : Nat → Int32} {s : Sc} (hok : okT ly M pl n c nw u nu v nv) (h : Tr ly M N pl n c nw J u nu v nv het bl upo ca nf fc fk s) : Mt G l mX10_greatest (2, 0, 0, false) [.ref 93, .int (nI n)] ly N (Is (some (.int (gr s.1 n))) ly N) := by
  have hX' := h.1.xw hok.1
  have e : gr (N.1 94) n = gr s.1 n := gr_E h.2.2.2.2.2.2.1 n hok.2.2.1.2
  rw [← e]
  exact tX10_greatest (a := 93) ⟨xc93 hX', xc94 hX', xc95 hX', xc96 hX', xp93_0 hX', xp93_1 hX', xp93_2 hX'⟩ hok.2.2.1.2
theorem trGs {G : Gx} {l : Launch} {ly : Ly} {M N : Mm} {pl n c nw : Nat} {J : Nat → Nat → Int32} {u nu v nv : Nat} {het bl upo : Int32} {ca : Nat → Int32} {nf : Nat} {fc fk : Nat → Int32} {s : Sc} (hok : okT ly M pl n c nw u nu v nv) (h : Tr ly M N pl n c nw J u nu v nv het bl upo ca nf fc fk s) : Mt G l mX10_greatest (2, 0, 0, false) [.ref 97, .int (nI n)] ly N (Is (some (.int (gr s.2.2.1 n))) ly N) := by
  have hX' := h.1.xw hok.1
  have e : gr (N.1 98) n = gr s.2.2.1 n := gr_E h.2.2.2.2.2.2.2.2.1 n hok.2.2.1.2
  rw [← e]
  exact tX10_greatest (a := 97) ⟨xc97 hX', xc98 hX', xc99 hX', xc100 hX', xp97_0 hX', xp97_1 hX', xp97_2 hX'⟩ hok.2.2.1.2
theorem rfC_E {c0 : Int32} {fc fc' fk fk' g g' : Nat → Int32} (h1 : eqN 8 fc fc') (h2 : eqN 8 fk fk') : ∀ k : Nat, k ≤ 8 → (∀ i, i < k → vp_in (fc i) 12) → eqN 12 (rfC c0 fc fk g k) (rfC c0 fc' fk' g' k)
  | 0, _, _ => fun j hj => (pre_lt (F := fun _ => c0) (g := g) hj).trans (pre_lt (F := fun _ => c0) (g := g') hj).symm
  | k + 1, hk, hc => by
    have ih := rfC_E (c0 := c0) (g := g) (g' := g') h1 h2 k (by omega) (fun i hi => hc i (by omega))
    have hb := hc k (by omega)
    unfold rfC
    rw [← h1 k (by omega), ← h2 k (by omega)]
    refine ih.up ?_
    rw [ih _ (vp_in_lt hb)]
theorem trFat {G : Gx} {l : Launch} {ly : Ly} {M N : Mm} {pl n c nw : Nat} {J : Nat → Nat → Int32} {u nu v nv : Nat} {het bl upo : Int32} {ca : Nat → Int32} {nf : Nat} {fc fk : Nat → Int32} {s : Sc} {x y : Int32} (hok : okT ly M pl n c nw u nu v nv) (h : Tr ly M N pl n c nw J u nu v nv het bl upo ca nf fc fk s) (hnf : nf < 8) (hfc : ∀ i, i < nf → vp_in (fc i) 12) (hx : vp_in x 12) {Q : Qt} (hQ : ∀ K, Tr ly M K pl n c nw J u nu v nv het bl upo (rfC (M.1 pl 3) (upd fc nf x) (upd fk nf y) (fun _ => 0) (nf + 1)) (nf + 1) (upd fc nf x) (upd fk nf y) s → quT N K → Q none ly K) : Mt G l mX9_addFat (3, 0, 0, false) [.ref 92, .int x, .int y] ly N Q := by
  obtain ⟨hX, hp7, ⟨hn, hn12⟩, hc, hw6, hu, ⟨hu1, hu2⟩, hv, ⟨hv1, hv2⟩, hgl⟩ := hok
  obtain ⟨hq, ⟨p0, p1, p2, p3⟩, ⟨c0, c1, c2, c3, c4, c5⟩, ⟨e0, e1, e2⟩, hca, ⟨f0, f1, f2⟩, hs⟩ := h
  have hX' := hq.xw hX
  refine tX9_addFat (a := 92) (p := pl) (n := nf) (xScene92 hX') p0 (pc0 hX' hp7) (by omega) f0 hnf hx (fun i hi => by rw [f1 i (by omega)]; exact hfc i hi) ?_
  intro I hf g12 g13 g14 g15
  have hI : ∀ k, (k < 104 ∨ 107 < k) → I k = N.1 k := fun k hk => hf k (by omega)
  have hfc' : ∀ i, i < nf + 1 → vp_in (upd (N.1 105) nf x i) 12 := by
    intro i hi
    by_cases e : i = nf
    · subst e; rw [pk_us]; exact hx
    · rw [pk_un e, f1 i (by omega)]; exact hfc i (by omega)
  refine hQ _ ⟨⟨fun k a b c d e f => (hI k (by omega)).trans (hq.1 k a b c d e f), fun j a => (congrFun (hI 0 (by omega)) j).trans (hq.2.1 j a), hq.2.2⟩, ⟨p0, p1, p2, p3⟩, ⟨?_, ?_, ?_, ?_, ?_, ?_⟩, ⟨?_, ?_, ?_⟩, ?_, ⟨?_, ?_, ?_⟩, ?_⟩ ?_
  · exact (congrFun (hI c (by omega)) 0).trans c0
  · exact (hI (c + 1) (by omega)).trans c1
  · exact (hI (c + 2) (by omega)).trans c2
  · exact (hI (c + 3) (by omega)).trans c3
  · exact (hI (c + 4) (by omega)).trans c4
  · exact (hI (c + 5) (by omega)).trans c5
  · exact (congrFun (hI 92 (by omega)) 4).trans e0
  · exact (congrFun (hI 92 (by omega)) 16).trans e1
  · exact (congrFun (hI 92 (by omega)) 17).trans e2
  · show eqN 12 (I 107) _
    rw [g15, hq.at (k := pl) (by omega)]
    exact rfC_E (f1.up rfl) (f2.up rfl) (nf + 1) (by omega) hfc'
  · exact (congrFun g12 0).trans rfl
  · show eqN 8 (I 105) _
    rw [g13]; exact f1.up rfl
  · show eqN 8 (I 106) _
    rw [g14]; exact f2.up rfl
  · show scE (vS I 92) s
    rw [vS_eq (I' := N.1) (fun k hk => hI (92 + k) (by omega))]
    exact hs
  · exact ⟨fun k hk => hI k (by omega), fun _ _ _ => rfl⟩
theorem Tr.s_bl {ly : Ly} {M N : Mm} {pl n c nw : Nat} {J : Nat → Nat → Int32} {u nu v nv : Nat} {het bl upo : Int32} {ca : Nat → Int32} {nf : Nat} {fc fk : Nat → Int32} {s : Sc} (hok : okT ly M pl n c nw u nu v nv) (h : Tr ly M N pl n c nw J u nu v nv het bl upo ca nf fc fk s) (x : Int32) : Tr ly M (sI N 92 (upd (N.1 92) 16 x)) pl n c nw J u nu v nv het x upo ca nf fc fk s := by
  obtain ⟨hX, hp7, ⟨hn, hn12⟩, hc, hw6, hu, ⟨hu1, hu2⟩, hv, ⟨hv1, hv2⟩, hgl⟩ := hok
  obtain ⟨hq, ⟨p0, p1, p2, p3⟩, ⟨c0, c1, c2, c3, c4, c5⟩, ⟨e0, e1, e2⟩, hca, ⟨f0, f1, f2⟩, hs⟩ := h
  exact ⟨⟨fun k a b c d e f => (sI_ne (by omega)).trans (hq.1 k a b c d e f), fun j a => (congrFun (sI_ne (show 0 ≠ 92 by decide)) j).trans (hq.2.1 j a), hq.2.2⟩, ⟨p0, p1, p2, p3⟩, ⟨(congrFun (sI_ne (show c ≠ 92 by omega)) 0).trans c0, (sI_ne (show c + 1 ≠ 92 by omega)).trans c1, (sI_ne (show c + 2 ≠ 92 by omega)).trans c2, (sI_ne (show c + 3 ≠ 92 by omega)).trans c3, (sI_ne (show c + 4 ≠ 92 by omega)).trans c4, (sI_ne (show c + 5 ≠ 92 by omega)).trans c5⟩, ⟨e0, rfl, e2⟩, hca, ⟨f0, f1, f2⟩, hs⟩
theorem Tr.s_het {ly : Ly} {M N : Mm} {pl n c nw : Nat} {J : Nat → Nat → Int32} {u nu v nv : Nat} {het bl upo : Int32} {ca : Nat → Int32} {nf : Nat} {fc fk : Nat → Int32} {s : Sc} (hok : okT ly M pl n c nw u nu v nv) (h : Tr ly M N pl n c nw J u nu v nv het bl upo ca nf fc fk s) (x : Int32) : Tr ly M (sI N 92 (upd (N.1 92) 4 x)) pl n c nw J u nu v nv x bl upo ca nf fc fk s := by
  obtain ⟨hX, hp7, ⟨hn, hn12⟩, hc, hw6, hu, ⟨hu1, hu2⟩, hv, ⟨hv1, hv2⟩, hgl⟩ := hok
  obtain ⟨hq, ⟨p0, p1, p2, p3⟩, ⟨c0, c1, c2, c3, c4, c5⟩, ⟨e0, e1, e2⟩, hca, ⟨f0, f1, f2⟩, hs⟩ := h
  exact ⟨⟨fun k a b c d e f => (sI_ne (by omega)).trans (hq.1 k a b c d e f), fun j a => (congrFun (sI_ne (show 0 ≠ 92 by decide)) j).trans (hq.2.1 j a), hq.2.2⟩, ⟨p0, p1, p2, p3⟩, ⟨(congrFun (sI_ne (show c ≠ 92 by omega)) 0).trans c0, (sI_ne (show c + 1 ≠ 92 by omega)).trans c1, (sI_ne (show c + 2 ≠ 92 by omega)).trans c2, (sI_ne (show c + 3 ≠ 92 by omega)).trans c3, (sI_ne (show c + 4 ≠ 92 by omega)).trans c4, (sI_ne (show c + 5 ≠ 92 by omega)).trans c5⟩, ⟨rfl, e1, e2⟩, hca, ⟨f0, f1, f2⟩, hs⟩
theorem Tr.s_upo {ly : Ly} {M N : Mm} {pl n c nw : Nat} {J : Nat → Nat → Int32} {u nu v nv : Nat} {het bl upo : Int32} {ca : Nat → Int32} {nf : Nat} {fc fk : Nat → Int32} {s : Sc} (hok : okT ly M pl n c nw u nu v nv) (h : Tr ly M N pl n c nw J u nu v nv het bl upo ca nf fc fk s) (x : Int32) : Tr ly M (sI N 92 (upd (N.1 92) 17 x)) pl n c nw J u nu v nv het bl x ca nf fc fk s := by
  obtain ⟨hX, hp7, ⟨hn, hn12⟩, hc, hw6, hu, ⟨hu1, hu2⟩, hv, ⟨hv1, hv2⟩, hgl⟩ := hok
  obtain ⟨hq, ⟨p0, p1, p2, p3⟩, ⟨c0, c1, c2, c3, c4, c5⟩, ⟨e0, e1, e2⟩, hca, ⟨f0, f1, f2⟩, hs⟩ := h
  exact ⟨⟨fun k a b c d e f => (sI_ne (by omega)).trans (hq.1 k a b c d e f), fun j a => (congrFun (sI_ne (show 0 ≠ 92 by decide)) j).trans (hq.2.1 j a), hq.2.2⟩, ⟨p0, p1, p2, p3⟩, ⟨(congrFun (sI_ne (show c ≠ 92 by omega)) 0).trans c0, (sI_ne (show c + 1 ≠ 92 by omega)).trans c1, (sI_ne (show c + 2 ≠ 92 by omega)).trans c2, (sI_ne (show c + 3 ≠ 92 by omega)).trans c3, (sI_ne (show c + 4 ≠ 92 by omega)).trans c4, (sI_ne (show c + 5 ≠ 92 by omega)).trans c5⟩, ⟨e0, e1, rfl⟩, hca, ⟨f0, f1, f2⟩, hs⟩
theorem Tr.s_ch {ly : Ly} {M N : Mm} {pl n c nw : Nat} {J : Nat → Nat → Int32} {u nu v nv : Nat} {het bl upo : Int32} {ca : Nat → Int32} {nf : Nat} {fc fk : Nat → Int32} {s : Sc} (hok : okT ly M pl n c nw u nu v nv) (h : Tr ly M N pl n c nw J u nu v nv het bl upo ca nf fc fk s) (x : Int32) : Tr ly M (sI N 92 (upd (N.1 92) 15 x)) pl n c nw J u nu v nv het bl upo ca nf fc fk ((s.1, s.2.1, s.2.2.1, s.2.2.2.1, s.2.2.2.2.1, s.2.2.2.2.2.1, s.2.2.2.2.2.2.1, x)) := by
  obtain ⟨hX, hp7, ⟨hn, hn12⟩, hc, hw6, hu, ⟨hu1, hu2⟩, hv, ⟨hv1, hv2⟩, hgl⟩ := hok
  obtain ⟨hq, ⟨p0, p1, p2, p3⟩, ⟨c0, c1, c2, c3, c4, c5⟩, ⟨e0, e1, e2⟩, hca, ⟨f0, f1, f2⟩, hs⟩ := h
  exact ⟨⟨fun k a b c d e f => (sI_ne (by omega)).trans (hq.1 k a b c d e f), fun j a => (congrFun (sI_ne (show 0 ≠ 92 by decide)) j).trans (hq.2.1 j a), hq.2.2⟩, ⟨p0, p1, p2, p3⟩, ⟨(congrFun (sI_ne (show c ≠ 92 by omega)) 0).trans c0, (sI_ne (show c + 1 ≠ 92 by omega)).trans c1, (sI_ne (show c + 2 ≠ 92 by omega)).trans c2, (sI_ne (show c + 3 ≠ 92 by omega)).trans c3, (sI_ne (show c + 4 ≠ 92 by omega)).trans c4, (sI_ne (show c + 5 ≠ 92 by omega)).trans c5⟩, ⟨e0, e1, e2⟩, hca, ⟨f0, f1, f2⟩, ⟨hs.1, hs.2.1, hs.2.2.1, hs.2.2.2.1, hs.2.2.2.2.1, hs.2.2.2.2.2.1, hs.2.2.2.2.2.2.1, rfl⟩⟩
theorem Tr.s_sg {ly : Ly} {M N : Mm} {pl n c nw : Nat} {J : Nat → Nat → Int32} {u nu v nv : Nat} {het bl upo : Int32} {ca : Nat → Int32} {nf : Nat} {fc fk : Nat → Int32} {s : Sc} (hok : okT ly M pl n c nw u nu v nv) (h : Tr ly M N pl n c nw J u nu v nv het bl upo ca nf fc fk s) {g' : Nat → Int32} (f : Nat → Int32) (hg : eqN 6 f g') : Tr ly M (sI N 103 f) pl n c nw J u nu v nv het bl upo ca nf fc fk (stgS s g') := by
  obtain ⟨hX, hp7, ⟨hn, hn12⟩, hc, hw6, hu, ⟨hu1, hu2⟩, hv, ⟨hv1, hv2⟩, hgl⟩ := hok
  obtain ⟨hq, ⟨p0, p1, p2, p3⟩, ⟨c0, c1, c2, c3, c4, c5⟩, ⟨e0, e1, e2⟩, hca, ⟨f0, f1, f2⟩, hs⟩ := h
  exact ⟨⟨fun k a b c d e f => (sI_ne (by omega)).trans (hq.1 k a b c d e f), fun j a => (congrFun (sI_ne (show 0 ≠ 103 by decide)) j).trans (hq.2.1 j a), hq.2.2⟩, ⟨p0, p1, p2, p3⟩, ⟨(congrFun (sI_ne (show c ≠ 103 by omega)) 0).trans c0, (sI_ne (show c + 1 ≠ 103 by omega)).trans c1, (sI_ne (show c + 2 ≠ 103 by omega)).trans c2, (sI_ne (show c + 3 ≠ 103 by omega)).trans c3, (sI_ne (show c + 4 ≠ 103 by omega)).trans c4, (sI_ne (show c + 5 ≠ 103 by omega)).trans c5⟩, ⟨e0, e1, e2⟩, hca, ⟨f0, f1, f2⟩, ⟨hs.1, hs.2.1, hs.2.2.1, hs.2.2.2.1, ⟨hs.2.2.2.2.1.1, hs.2.2.2.2.1.2.1, hg, hs.2.2.2.2.1.2.2.2.1, hs.2.2.2.2.1.2.2.2.2⟩, hs.2.2.2.2.2.1, hs.2.2.2.2.2.2.1, hs.2.2.2.2.2.2.2⟩⟩
theorem Tr.s_pu {ly : Ly} {M N : Mm} {pl n c nw : Nat} {J : Nat → Nat → Int32} {u nu v nv : Nat} {het bl upo : Int32} {ca : Nat → Int32} {nf : Nat} {fc fk : Nat → Int32} {s : Sc} (hok : okT ly M pl n c nw u nu v nv) (h : Tr ly M N pl n c nw J u nu v nv het bl upo ca nf fc fk s) {g' : Nat → Int32} (f : Nat → Int32) (hg : eqN 12 f g') : Tr ly M (sI N 96 f) pl n c nw J u nu v nv het bl upo ca nf fc fk (puS s g') := by
  obtain ⟨hX, hp7, ⟨hn, hn12⟩, hc, hw6, hu, ⟨hu1, hu2⟩, hv, ⟨hv1, hv2⟩, hgl⟩ := hok
  obtain ⟨hq, ⟨p0, p1, p2, p3⟩, ⟨c0, c1, c2, c3, c4, c5⟩, ⟨e0, e1, e2⟩, hca, ⟨f0, f1, f2⟩, hs⟩ := h
  exact ⟨⟨fun k a b c d e f => (sI_ne (by omega)).trans (hq.1 k a b c d e f), fun j a => (congrFun (sI_ne (show 0 ≠ 96 by decide)) j).trans (hq.2.1 j a), hq.2.2⟩, ⟨p0, p1, p2, p3⟩, ⟨(congrFun (sI_ne (show c ≠ 96 by omega)) 0).trans c0, (sI_ne (show c + 1 ≠ 96 by omega)).trans c1, (sI_ne (show c + 2 ≠ 96 by omega)).trans c2, (sI_ne (show c + 3 ≠ 96 by omega)).trans c3, (sI_ne (show c + 4 ≠ 96 by omega)).trans c4, (sI_ne (show c + 5 ≠ 96 by omega)).trans c5⟩, ⟨e0, e1, e2⟩, hca, ⟨f0, f1, f2⟩, ⟨hs.1, hs.2.1, hs.2.2.1, hs.2.2.2.1, ⟨hs.2.2.2.2.1.1, hs.2.2.2.2.1.2.1, hs.2.2.2.2.1.2.2.1, hg, hs.2.2.2.2.1.2.2.2.2⟩, hs.2.2.2.2.2.1, hs.2.2.2.2.2.2.1, hs.2.2.2.2.2.2.2⟩⟩
theorem trLeave {G : Gx} {l : Launch} {ly : Ly} {M N : Mm} {pl n c nw : Nat} {J : Nat → Nat → Int32} {u nu v nv : Nat} {het bl upo : Int32} {ca : Nat → Int32} {nf : Nat} {fc fk : Nat → Int32} {s : Sc} {x : Int32} (hok : okT ly M pl n c nw u nu v nv) (h : Tr ly M N pl n c nw J u nu v nv het bl upo ca nf fc fk s) {Q : Qt} (hQ : ∀ K, Tr ly M K pl n c nw J u nu v nv het bl upo ca nf fc fk (stgS s (lvO x s.2.2.2.2.1.2.2.1 6)) → quT N K → Q none ly K) : Mt G l mX9_leaveOnly (1, 0, 0, false) [.ref 92, .int x] ly N Q := by
  refine Mt.post (tX9_leaveOnly (a := 92) (xScene92 (h.1.xw hok.1))) ?_
  rintro v1 ly1 M1 ⟨rfl, rfl, rfl⟩
  exact hQ _ (Tr.s_sg hok h _ (lvO_E h.2.2.2.2.2.2.2.2.2.2.1.2.2.1 6)) ⟨fun k hk => sI_ne (by omega), fun _ _ _ => rfl⟩
theorem trDrop {G : Gx} {l : Launch} {ly : Ly} {M N : Mm} {pl n c nw : Nat} {J : Nat → Nat → Int32} {u nu v nv : Nat} {het bl upo : Int32} {ca : Nat → Int32} {nf : Nat} {fc fk : Nat → Int32} {s : Sc} (hnf : nf ≤ 8) (hfc : ∀ i, i < nf → vp_in (fc i) 12) (hok : okT ly M pl n c nw u nu v nv) (h : Tr ly M N pl n c nw J u nu v nv het bl upo ca nf fc fk s) {Q : Qt} (hQ : ∀ K, Tr ly M K pl n c nw J u nu v nv het bl upo (fun _ => M.1 pl 3) 0 fc fk s → quT N K → Q none ly K) : Mt G l mX9_dropAllFat (3, 0, 0, false) [.ref 92] ly N Q := by
  obtain ⟨hX, hp7, ⟨hn, hn12⟩, hc, hw6, hu, ⟨hu1, hu2⟩, hv, ⟨hv1, hv2⟩, hgl⟩ := hok
  obtain ⟨hq, ⟨p0, p1, p2, p3⟩, ⟨c0, c1, c2, c3, c4, c5⟩, ⟨e0, e1, e2⟩, hca, ⟨f0, f1, f2⟩, hs⟩ := h
  have hX' := hq.xw hX
  refine Mt.post (tX9_dropAllFat (a := 92) (p := pl) (n := nf) (xScene92 hX') p0 (pc0 hX' hp7) (by omega) f0 hnf (fun i hi => by rw [f1 i (by omega)]; exact hfc i hi)) ?_
  rintro v1 ly1 M1 ⟨rfl, rfl, rfl⟩
  have hI : ∀ k, k ≠ 104 → k ≠ 107 → (sI (sI N (92 + 12) (upd (N.1 (92 + 12)) 0 (nI 0))) (92 + 15) (rfC (N.1 pl 3) (N.1 (92 + 13)) (N.1 (92 + 14)) (N.1 (92 + 15)) 0)).1 k = N.1 k := fun k h1 h2 => (sI_ne h2).trans (sI_ne h1)
  refine hQ _ ⟨⟨fun k a b c d e f => (hI k (by omega) (by omega)).trans (hq.1 k a b c d e f), fun j a => (congrFun (hI 0 (by omega) (by omega)) j).trans (hq.2.1 j a), hq.2.2⟩, ⟨p0, p1, p2, p3⟩, ⟨?_, ?_, ?_, ?_, ?_, ?_⟩, ⟨e0, e1, e2⟩, ?_, ⟨rfl, f1, f2⟩, hs⟩ ⟨fun k hk => hI k (by omega) (by omega), fun _ _ _ => rfl⟩
  · exact (congrFun (hI c (by omega) (by omega)) 0).trans c0
  · exact (hI (c + 1) (by omega) (by omega)).trans c1
  · exact (hI (c + 2) (by omega) (by omega)).trans c2
  · exact (hI (c + 3) (by omega) (by omega)).trans c3
  · exact (hI (c + 4) (by omega) (by omega)).trans c4
  · exact (hI (c + 5) (by omega) (by omega)).trans c5
  · intro j hj
    refine (pre_lt (F := fun _ => N.1 pl 3) hj).trans ?_
    rw [hq.at (k := pl) (by omega)]
/-- rows beside the trial change -/
theorem Tr.out {ly : Ly} {M N : Mm} {pl n c nw : Nat} {J : Nat → Nat → Int32} {u nu v nv : Nat} {het bl upo : Int32} {ca : Nat → Int32} {nf : Nat} {fc fk : Nat → Int32} {s : Sc} (hok : okT ly M pl n c nw u nu v nv) (h : Tr ly M N pl n c nw J u nu v nv het bl upo ca nf fc fk s) {K : Mm} (hq2 : quX M K) (hR : K.2.2 = N.2.2) (hk : ∀ k, 92 ≤ k → k ≤ 108 → K.1 k = N.1 k) (hcr : ∀ k, k ≤ 5 → K.1 (c + k) = N.1 (c + k)) : Tr ly M K pl n c nw J u nu v nv het bl upo ca nf fc fk s := by
  obtain ⟨hX, hp7, ⟨hn, hn12⟩, hc, hw6, hu, ⟨hu1, hu2⟩, hv, ⟨hv1, hv2⟩, hgl⟩ := hok
  obtain ⟨hq, ⟨p0, p1, p2, p3⟩, ⟨c0, c1, c2, c3, c4, c5⟩, ⟨e0, e1, e2⟩, hca, ⟨f0, f1, f2⟩, hs⟩ := h
  refine ⟨hq2, ⟨by rw [hR]; exact p0, by rw [hR]; exact p1, by rw [hR]; exact p2, by rw [hR]; exact p3⟩, ⟨(congrFun (hcr 0 (by omega)) 0).trans c0, (hcr 1 (by omega)).trans c1, (hcr 2 (by omega)).trans c2, (hcr 3 (by omega)).trans c3, (hcr 4 (by omega)).trans c4, (hcr 5 (by omega)).trans c5⟩, ⟨(congrFun (hk 92 (by omega) (by omega)) 4).trans e0, (congrFun (hk 92 (by omega) (by omega)) 16).trans e1, (congrFun (hk 92 (by omega) (by omega)) 17).trans e2⟩, ?_, ⟨(congrFun (hk 104 (by omega) (by omega)) 0).trans f0, ?_, ?_⟩, ?_⟩
  · rw [hk 107 (by omega) (by omega)]; exact hca
  · rw [hk 105 (by omega) (by omega)]; exact f1
  · rw [hk 106 (by omega) (by omega)]; exact f2
  · rw [vS_eq (I' := N.1) (fun k hk' => hk (92 + k) (by omega) (by omega))]; exact hs
/-- another law -/
theorem Tr.s_u {ly : Ly} {M N : Mm} {pl n c nw : Nat} {J : Nat → Nat → Int32} {u nu v nv : Nat} {het bl upo : Int32} {ca : Nat → Int32} {nf : Nat} {fc fk : Nat → Int32} {s : Sc} (hok : okT ly M pl n c nw u nu v nv) (h : Tr ly M N pl n c nw J u nu v nv het bl upo ca nf fc fk s) (u' : Nat) : Tr ly M (sR N 92 (va_up (N.2.2 92) 2 (some u'))) pl n c nw J u' nu v nv het bl upo ca nf fc fk s := by
  obtain ⟨hX, hp7, ⟨hn, hn12⟩, hc, hw6, hu, ⟨hu1, hu2⟩, hv, ⟨hv1, hv2⟩, hgl⟩ := hok
  obtain ⟨hq, ⟨p0, p1, p2, p3⟩, ⟨c0, c1, c2, c3, c4, c5⟩, ⟨e0, e1, e2⟩, hca, ⟨f0, f1, f2⟩, hs⟩ := h
  exact ⟨⟨hq.1, hq.2.1, fun k j hkj => (sR_92 hkj (by decide)).trans (hq.2.2 k j hkj)⟩, ⟨p0, p1, rfl, p3⟩, ⟨c0, c1, c2, c3, c4, c5⟩, ⟨e0, e1, e2⟩, hca, ⟨f0, f1, f2⟩, hs⟩
theorem Tr.s_v {ly : Ly} {M N : Mm} {pl n c nw : Nat} {J : Nat → Nat → Int32} {u nu v nv : Nat} {het bl upo : Int32} {ca : Nat → Int32} {nf : Nat} {fc fk : Nat → Int32} {s : Sc} (hok : okT ly M pl n c nw u nu v nv) (h : Tr ly M N pl n c nw J u nu v nv het bl upo ca nf fc fk s) (v' : Nat) : Tr ly M (sR N 92 (va_up (N.2.2 92) 3 (some v'))) pl n c nw J u nu v' nv het bl upo ca nf fc fk s := by
  obtain ⟨hX, hp7, ⟨hn, hn12⟩, hc, hw6, hu, ⟨hu1, hu2⟩, hv, ⟨hv1, hv2⟩, hgl⟩ := hok
  obtain ⟨hq, ⟨p0, p1, p2, p3⟩, ⟨c0, c1, c2, c3, c4, c5⟩, ⟨e0, e1, e2⟩, hca, ⟨f0, f1, f2⟩, hs⟩ := h
  exact ⟨⟨hq.1, hq.2.1, fun k j hkj => (sR_92 hkj (by decide)).trans (hq.2.2 k j hkj)⟩, ⟨p0, p1, p2, rfl⟩, ⟨c0, c1, c2, c3, c4, c5⟩, ⟨e0, e1, e2⟩, hca, ⟨f0, f1, f2⟩, hs⟩
theorem Tr.s_n {ly : Ly} {M N : Mm} {pl n c nw : Nat} {J : Nat → Nat → Int32} {u nu v nv : Nat} {het bl upo : Int32} {ca : Nat → Int32} {nf : Nat} {fc fk : Nat → Int32} {s : Sc} {nu' nv' : Nat} (h : Tr ly M N pl n c nw J u nu v nv het bl upo ca nf fc fk s) : Tr ly M N pl n c nw J u nu' v nv' het bl upo ca nf fc fk s := h
theorem Tr.s_c {ly : Ly} {M N : Mm} {pl n c nw : Nat} {J : Nat → Nat → Int32} {u nu v nv : Nat} {het bl upo : Int32} {ca : Nat → Int32} {nf : Nat} {fc fk : Nat → Int32} {s : Sc} (hok : okT ly M pl n c nw u nu v nv) (h : Tr ly M N pl n c nw J u nu v nv het bl upo ca nf fc fk s) {J' : Nat → Nat → Int32} {w' : Nat} (h0 : N.1 138 0 = nI w') (h1 : N.1 139 = J' 1) (h2 : N.1 140 = J' 2) (h3 : N.1 141 = J' 3) (h4 : N.1 142 = J' 4) (h5 : N.1 143 = J' 5) : Tr ly M (sR N 92 (va_up (N.2.2 92) 1 (some 138))) pl n 138 w' J' u nu v nv het bl upo ca nf fc fk s := by
  obtain ⟨hX, hp7, ⟨hn, hn12⟩, hc, hw6, hu, ⟨hu1, hu2⟩, hv, ⟨hv1, hv2⟩, hgl⟩ := hok
  obtain ⟨hq, ⟨p0, p1, p2, p3⟩, ⟨c0, c1, c2, c3, c4, c5⟩, ⟨e0, e1, e2⟩, hca, ⟨f0, f1, f2⟩, hs⟩ := h
  exact ⟨⟨hq.1, hq.2.1, fun k j hkj => (sR_92 hkj (by decide)).trans (hq.2.2 k j hkj)⟩, ⟨p0, rfl, p2, p3⟩, ⟨h0, h1, h2, h3, h4, h5⟩, ⟨e0, e1, e2⟩, hca, ⟨f0, f1, f2⟩, hs⟩
