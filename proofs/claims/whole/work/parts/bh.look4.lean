theorem lookA {G : Gx} {l : Launch} {ly : Ly} {M : Mm} {j k nw : Nat} (ho : ly[196]? = some (.inl (3, 1))) (hI : INV ly M) (hw : M.1 151 6 = nI nw) (hw6 : nw ≤ 6) (hj : j < nw) (hk : k ≤ 4) : ∃ r : Int32, Mt G l mX11_look (2, 0, 0, false) [.ref 0, .int (nI j), .int (nI k)] ly M (Is (some (.int r)) ly M) ∧ PrR G l ly (nI j) (nI k) 0 (sL M 196 (vp_updL (M.2.1 196) 0 r.toInt64)) := by
  obtain ⟨pl, ps, n, A, hC, hR, hP⟩ := hI
  have hX := hC.1
  have hpl := hC.2.1.2.1
  have hp7 : pl = 7 ∨ pl = 41 := hC.2.1.1.elim (fun h => Or.inl h.1) (fun h => Or.inr h.1)
  have c6 := hP.w6
  have hw2 : M.1 151 6 = nI (A.p.ct 0) := hR.2.2.2.1.2.1 0 (by decide)
  obtain rfl : A.p.ct 0 = nw := nI_inj (by omega) (by omega) (hw2.symm.trans hw)
  have hwC : M.1 (pl + 1) 0 = nI (A.p.ct 0) ∧ A.p.ct 0 ≤ 6 := ⟨hC.2.2.2.2.1.2.1 0 (by decide), hw6⟩
  have w1 := hR.2.2.2.2.1.1.2.2.2.2.1 j hj
  rw [show A.X.s = vS M.1 75 from hC.2.2.2.2.2.1.2.1] at w1
  have w2 : wk1 A.X.t (M.1 177 j) (M.1 178 j) (M.1 179 j) (M.1 84 j) (M.1 85 j) (M.1 86 j) := by
    rw [show 6 * 0 + j = j by omega] at w1
    exact w1
  have e0 : (if M.1 86 j = 1 then M.1 84 j else -1) = M.1 177 j := w2.2.2.1.symm
  have e3 : M.1 85 j = M.1 178 j := w2.1.symm
  have e4 : M.1 86 j = M.1 179 j := w2.2.1.symm
  have d1 : ∀ r, 5 ≤ r → r ≤ 6 → M.1 (pl + cOf r) j = M.1 (rCl r) j := fun r a b => by
    have hkn : knD r = 0 := if_pos (by omega)
    exact (hC.2.2.2.2.1.2.2.2.1 r (by omega) (by omega) j (by rw [hkn]; exact hj)).trans (hR.2.2.2.1.2.2.1 r (by omega) (by omega) j (by rw [hkn]; exact hj) (fun g => absurd g (by omega))).symm
  have e1 : M.1 (pl + 8) j = M.1 153 j := d1 5 (by decide) (by decide)
  have e2 : M.1 (pl + 9) j = M.1 154 j := d1 6 (by decide) (by decide)
  have fin : ∀ f : Nat → Int64, INV ly (sI (sL M 196 f) 149 (upd (M.1 149) 0 0)) := fun f => (INV.qq hC hR hP quX.rf (qR.rf.fv (v := 0))).sl (a := 196) (f := f)
  rcases (show k = 0 ∨ k = 1 ∨ k = 2 ∨ k = 3 ∨ k = 4 by omega) with rfl | rfl | rfl | rfl | rfl
  · refine ⟨M.1 177 j, tX11_look0 hwC hj hX hpl hp7 ⟨by rw [e0], rfl, rfl⟩, M.1 177 j, fun _ => rfl, ?_⟩
    refine Mt.deep (k1 := 2) (tX12_look (M := sL M 196 (vp_updL (M.2.1 196) 0 (M.1 177 j).toInt64)) (nw := A.p.ct 0) ⟨hw2, hw6⟩ hR.1 ⟨fun h => absurd ⟨j, hj, rfl⟩ h, fun j2 h2 e9 => ?_⟩) (by decide)
    obtain rfl : j = j2 := nI_inj (by omega) (by omega) e9
    exact ⟨fun h => absurd h (by decide), fun _ => ⟨rfl, rfl, rfl, rfl, fin _⟩, fun h => absurd h (by decide), fun h => absurd h (by decide), fun h => absurd h (by decide), fun h => absurd h (by decide)⟩
  · refine ⟨M.1 153 j, tX11_look1 hwC hj hX hpl hp7 ⟨by rw [e1], rfl, rfl⟩, M.1 153 j, fun _ => rfl, ?_⟩
    refine Mt.deep (k1 := 2) (tX12_look (M := sL M 196 (vp_updL (M.2.1 196) 0 (M.1 153 j).toInt64)) (nw := A.p.ct 0) ⟨hw2, hw6⟩ hR.1 ⟨fun h => absurd ⟨j, hj, rfl⟩ h, fun j2 h2 e9 => ?_⟩) (by decide)
    obtain rfl : j = j2 := nI_inj (by omega) (by omega) e9
    exact ⟨fun h => absurd h (by decide), fun h => absurd h (by decide), fun _ => ⟨rfl, rfl, rfl, rfl, fin _⟩, fun h => absurd h (by decide), fun h => absurd h (by decide), fun h => absurd h (by decide)⟩
  · refine ⟨M.1 154 j, tX11_look2 hwC hj hX hpl hp7 ⟨by rw [e2], rfl, rfl⟩, M.1 154 j, fun _ => rfl, ?_⟩
    refine Mt.deep (k1 := 2) (tX12_look (M := sL M 196 (vp_updL (M.2.1 196) 0 (M.1 154 j).toInt64)) (nw := A.p.ct 0) ⟨hw2, hw6⟩ hR.1 ⟨fun h => absurd ⟨j, hj, rfl⟩ h, fun j2 h2 e9 => ?_⟩) (by decide)
    obtain rfl : j = j2 := nI_inj (by omega) (by omega) e9
    exact ⟨fun h => absurd h (by decide), fun h => absurd h (by decide), fun h => absurd h (by decide), fun _ => ⟨rfl, rfl, rfl, rfl, fin _⟩, fun h => absurd h (by decide), fun h => absurd h (by decide)⟩
  · refine ⟨M.1 178 j, tX11_look3 hwC hj hX hpl hp7 ⟨by rw [e3], rfl, rfl⟩, M.1 178 j, fun _ => rfl, ?_⟩
    refine Mt.deep (k1 := 2) (tX12_look (M := sL M 196 (vp_updL (M.2.1 196) 0 (M.1 178 j).toInt64)) (nw := A.p.ct 0) ⟨hw2, hw6⟩ hR.1 ⟨fun h => absurd ⟨j, hj, rfl⟩ h, fun j2 h2 e9 => ?_⟩) (by decide)
    obtain rfl : j = j2 := nI_inj (by omega) (by omega) e9
    exact ⟨fun h => absurd h (by decide), fun h => absurd h (by decide), fun h => absurd h (by decide), fun h => absurd h (by decide), fun _ => ⟨rfl, rfl, rfl, rfl, fin _⟩, fun h => absurd h (by decide)⟩
  · refine ⟨M.1 179 j, tX11_look4 hwC hj hX hpl hp7 ⟨by rw [e4], rfl, rfl⟩, M.1 179 j, fun _ => rfl, ?_⟩
    refine Mt.deep (k1 := 2) (tX12_look (M := sL M 196 (vp_updL (M.2.1 196) 0 (M.1 179 j).toInt64)) (nw := A.p.ct 0) ⟨hw2, hw6⟩ hR.1 ⟨fun h => absurd ⟨j, hj, rfl⟩ h, fun j2 h2 e9 => ?_⟩) (by decide)
    obtain rfl : j = j2 := nI_inj (by omega) (by omega) e9
    exact ⟨fun h => absurd h (by decide), fun h => absurd h (by decide), fun h => absurd h (by decide), fun h => absurd h (by decide), fun h => absurd h (by decide), fun _ => ⟨rfl, rfl, rfl, rfl, fin _⟩⟩
/-- the law's look, given the call at 370 on its three roads -/
theorem look_all {G : Gx} {l : Launch} {ly : Ly} {M : Mm} {Q : Qt} {i dep ca sa c1 s1 : Nat} {v5 v6 : Option Value} (hdep : 140 + 1 ≤ dep) (ho : ly[196]? = some (.inl (3, 1)))
    (r0 : ∀ r : Int32, Mt G l mX11_look (2, 0, 0, false) [.ref 0, .int (G.2.2.2.2.2 (i + 1)), .int (G.2.2.2.2.2 (i + 2))] ly M (Is (some (.int r)) ly M) → Rn G l mL_law (dep, ca, sa, false) 373 [some (.float 0), some (.ref 0), some (.ref 149), some (.ref 196), some (.int (nI i)), v5, v6] [.int 0] ly (sL M 196 (vp_updL (M.2.1 196) 0 r.toInt64)) Q → Rn G l mL_law (dep, ca + c1, sa + s1, false) 370 [some (.float 0), some (.ref 0), some (.ref 149), some (.ref 196), some (.int (nI i)), v5, v6] [.ref 196, .int (G.2.2.2.2.2 (i + 2)), .int (G.2.2.2.2.2 (i + 1)), .ref 0] ly M Q)
    (r1 : ∀ nw : Nat, M.1 151 6 = nI nw → nw ≤ 6 → (¬ ∃ j : Nat, j < nw ∧ (G.2.2.2.2.2 (i + 1)) = nI j) → Rn G l mL_law (dep, ca, sa, false) 373 [some (.float 0), some (.ref 0), some (.ref 149), some (.ref 196), some (.int (nI i)), v5, v6] [.int 1] ly M Q → Rn G l mL_law (dep, ca + c1, sa + s1, false) 370 [some (.float 0), some (.ref 0), some (.ref 149), some (.ref 196), some (.int (nI i)), v5, v6] [.ref 196, .int (G.2.2.2.2.2 (i + 2)), .int (G.2.2.2.2.2 (i + 1)), .ref 0] ly M Q)
    (r2 : ∀ nw : Nat, M.1 151 6 = nI nw → nw ≤ 6 → (∃ j : Nat, j < nw ∧ (G.2.2.2.2.2 (i + 1)) = nI j) → ((G.2.2.2.2.2 (i + 2)) < 0 ∨ 4 < (G.2.2.2.2.2 (i + 2))) → Rn G l mL_law (dep, ca, sa, false) 373 [some (.float 0), some (.ref 0), some (.ref 149), some (.ref 196), some (.int (nI i)), v5, v6] [.int 2] ly M Q → Rn G l mL_law (dep, ca + c1, sa + s1, false) 370 [some (.float 0), some (.ref 0), some (.ref 149), some (.ref 196), some (.int (nI i)), v5, v6] [.ref 196, .int (G.2.2.2.2.2 (i + 2)), .int (G.2.2.2.2.2 (i + 1)), .ref 0] ly M Q)
    (hi : i + 6 ≤ G.2.2.2.2.1) (hL : G.2.2.2.2.1 ≤ 3072) (hI : INV ly M) (k : ∀ (K : Mm) (v5 v6 : Option Value), INV ly K → Rn G l mL_law (dep, ca, sa, false) 1507 [some (.float 0), some (.ref 0), some (.ref 149), some (.ref 196), some (.int (nI i)), v5, v6] [] ly K Q) : Rn G l mL_law (dep, ca + c1, sa + s1, false) 356 [some (.float 0), some (.ref 0), some (.ref 149), some (.ref 196), some (.int (nI i)), v5, v6] [] ly M Q := by
  refine Rn.aload_n dL_law_356 rfl ?_
  refine Rn.argS (k := 1) dL_law_357 dL_law_358 dL_law_360 dL_law_361 dL_law_362 (by decide) rfl rfl (by omega) hL ?_
  refine Rn.argS (k := 2) dL_law_363 dL_law_364 dL_law_366 dL_law_367 dL_law_368 (by decide) rfl rfl (by omega) hL ?_
  refine Rn.aload_n dL_law_369 rfl ?_
  have hI2 := hI
  obtain ⟨pl, ps, n, A, hC, hR, hP⟩ := hI2
  have hw : M.1 151 6 = nI (A.p.ct 0) := hR.2.2.2.1.2.1 0 (by decide)
  have hw6 : A.p.ct 0 ≤ 6 := hP.w6
  by_cases hx : ∃ j : Nat, j < A.p.ct 0 ∧ (G.2.2.2.2.2 (i + 1)) = nI j
  · by_cases hy : (G.2.2.2.2.2 (i + 2)) < 0 ∨ 4 < (G.2.2.2.2.2 (i + 2))
    · exact r2 _ hw hw6 hx hy (look_back hdep hi hL hI ho (prR2 hI hw hw6 hx hy) k)
    · obtain ⟨j, hj, ej⟩ := hx
      obtain ⟨m, hm, em⟩ := nI_of (fun g => hy (Or.inl g))
      have hm4 : m ≤ 4 := (nI_leI (a := m) (b := 4) hm (by decide)).mp (Int32.not_lt.mp (fun g => hy (Or.inr (em ▸ g))))
      obtain ⟨r, h1, h2⟩ := lookA (G := G) (l := l) ho hI hw hw6 hj hm4
      rw [← ej, ← em] at h1 h2
      exact r0 r h1 (look_back hdep hi hL hI ho h2 k)
  · exact r1 _ hw hw6 hx (look_back hdep hi hL hI ho (prR1 hI hw hw6 hx) k)
