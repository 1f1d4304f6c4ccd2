/-- the law's look, on all roads -/
theorem look_ok {G : Gx} {l : Launch} {Q : Qt} {dep : Nat} (hlt : l.stackTraces = false) (hdep : 140 + 1 ≤ dep) : ∀ ly : Ly, ly[196]? = some (.inl (3, 1)) → ∀ (i ca sa : Nat) (v5 v6 : Option Value) (M : Mm), i + 6 ≤ G.2.2.2.2.1 → G.2.2.2.2.1 ≤ 3072 → INV ly M → (∀ (K : Mm) (v5 v6 : Option Value), INV ly K → Rn G l mL_law (dep, ca, sa, false) 1507 [some (.float 0), some (.ref 0), some (.ref 149), some (.ref 196), some (.int (nI i)), v5, v6] [] ly K Q) → Rn G l mL_law (dep, ca + 1, sa + 6, false) 356 [some (.float 0), some (.ref 0), some (.ref 149), some (.ref 196), some (.int (nI i)), v5, v6] [] ly M Q := by
  intro ly ho i ca sa v5 v6 M hi hL hI k
  have hI2 := hI
  obtain ⟨pl, ps, n, A, hC, hR, hP⟩ := hI2
  have hX := hC.1
  have hpl := hC.2.1.2.1
  have hp7 : pl = 7 ∨ pl = 41 := hC.2.1.1.elim (fun h => Or.inl h.1) (fun h => Or.inr h.1)
  have hw2 : M.1 151 6 = nI (A.p.ct 0) := hR.2.2.2.1.2.1 0 (by decide)
  have hwC : ∀ nw : Nat, M.1 151 6 = nI nw → nw ≤ 6 → M.1 (pl + 1) 0 = nI nw ∧ nw ≤ 6 := fun nw h h6 => ⟨(show M.1 (pl + 1) 0 = nI (A.p.ct 0) from hC.2.2.2.2.1.2.1 0 (by decide)).trans (hw2.symm.trans h), h6⟩
  refine look_all (c1 := 1) (s1 := 6) hdep ho (fun r h1 h2 => ?_) (fun nw hw hw6 hx h2 => ?_) (fun nw hw hw6 hx hy h2 => ?_) hi hL hI k
  · refine Rn.callLook (ca := ca) (sa := sa) (ca' := 1) (sa' := 6) (Q' := Is (some (.int 0)) ly (sL M 196 (vp_updL (M.2.1 196) 0 r.toInt64))) (Rn.krT (Rn.wide (ca := 0) (sa := 0) (Rn.deep (k1 := 3) (k2 := 7) (tL_look (xc0 hX) ho h1 ⟨rfl, rfl, rfl⟩) (by decide)) (by decide) (by decide))) (by omega) (fun v ly' M' ⟨q1, q2, q3⟩ => ?_)
    rw [q1, q2, q3]
    exact h2
  · refine Rn.callLook (ca := ca) (sa := sa) (ca' := 1) (sa' := 6) (Q' := Is (some (.int 1)) ly M) (xL_look1 (xX11_look1 hlt (hwC nw hw hw6) hx hX hpl hp7) (xc0 hX) ⟨rfl, rfl, rfl⟩) (by omega) (fun v ly' M' ⟨q1, q2, q3⟩ => ?_)
    rw [q1, q2, q3]
    exact h2
  · refine Rn.callLook (ca := ca) (sa := sa) (ca' := 1) (sa' := 6) (Q' := Is (some (.int 2)) ly M) (xL_look2 (xX11_look2 hlt (hwC nw hw hw6) hx hy hX hpl hp7) (xc0 hX) ⟨rfl, rfl, rfl⟩) (by omega) (fun v ly' M' ⟨q1, q2, q3⟩ => ?_)
    rw [q1, q2, q3]
    exact h2
