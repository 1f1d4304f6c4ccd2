theorem ng1 {x : Int32} {m : Nat} (hm : m < 2 ^ 31) (h1 : ¬ x < -1) (h2 : ¬ nI m < x) : x = -1 ∨ ∃ j : Nat, j ≤ m ∧ x = nI j := by
  by_cases h0 : x < 0
  · left
    have g1 : ¬ x.toInt < -1 := fun h => h1 (Int32.lt_iff_toInt_lt.mpr h)
    have g2 : x.toInt < 0 := Int32.lt_iff_toInt_lt.mp h0
    refine Int32.toInt_inj.mp ?_
    rw [show (-1 : Int32).toInt = -1 from rfl]
    omega
  · right
    obtain ⟨j, hj, rfl⟩ := nI_of h0
    exact ⟨j, Nat.le_of_not_lt (fun h => h2 ((nI_ltI hm hj).mpr h)), rfl⟩
theorem pr_known {G : Gx} {l : Launch} {ly : Ly} {M : Mm} {x : Int32} (hI : INV ly M) : PrI G l ly mX11_known mX12_known [.int x] M := by
  obtain ⟨pl, ps, n, A, hC, hR, hP⟩ := hI
  have hX := inv_xs hC hR hP
  obtain ⟨c1, c2, c3, c4, c5, c6, c7⟩ := hC.2.2.2.2.2.2.2.1
  obtain ⟨r1, r2, r3⟩ := hR.2.2.2.2.2.2.1
  obtain ⟨p1, p2, p3⟩ := hP.2.2.2.1
  refine Mt.deep (k1 := 1) (tX11_known ⟨c1, p1⟩ hX ⟨fun g0 => ?_, fun g1 g2 => ?_⟩) (by decide)
  · exact ⟨rfl, _, rfl, Mt.deep (k1 := 0) (tX12_known ⟨r1, p1⟩ hR.1 ⟨fun _ K k => ⟨rfl, rfl, INV.qq hC hR hP quX.rf k⟩, fun b1 b2 => absurd g0 (fun g => g.elim b1 b2)⟩) (by decide)⟩
  · refine ⟨rfl, _, rfl, Mt.deep (k1 := 0) (tX12_known (M := sI M 128 (upd (M.1 128) 1 x)) ⟨r1, p1⟩ hR.1 ⟨fun g0 K k => absurd g0 (fun g => g.elim g1 g2), fun _ _ K k1 k2 k3 k4 => ⟨rfl, rfl, ?_⟩⟩) (by decide)⟩
    refine INV.gr (g2 := (A.g.1, x, A.g.2.2)) hC hR hP k1 (fun a a1 a2 => (k2 a (by omega)).trans (sI_ne (by omega))) ⟨?_, ?_, ?_, ?_, ?_, ?_, ?_⟩ (fun a a1 a2 => (k2 a (by omega)).trans (sI_ne (by omega))) (fun j j1 j2 j3 => (k3 j j1 j3).trans rfl) ⟨(k3 70 (by decide) (by decide)).trans r1, k4, ?_⟩ ⟨p1, ng1 (by omega) g1 g2, p3⟩
    · rw [k2 128 (by decide)]; exact c1
    · rw [k2 128 (by decide)]; rfl
    · rw [k2 129 (by decide)]; exact c3
    · rw [k2 130 (by decide)]; exact c4
    · rw [k2 131 (by decide)]; exact c5
    · rw [k2 132 (by decide)]; exact c6
    · rw [k2 133 (by decide)]; exact c7
    · rw [k2 194 (by decide), k2 190 (by decide), k2 191 (by decide), k2 192 (by decide), k2 193 (by decide)]; exact r3
theorem pr_unsay {G : Gx} {l : Launch} {ly : Ly} {M : Mm} {x : Int32} (hI : INV ly M) : PrI G l ly mX11_unsay mX12_unsay [.int x] M := by
  obtain ⟨pl, ps, n, A, hC, hR, hP⟩ := hI
  have hX := inv_xs hC hR hP
  obtain ⟨c1, c2, c3, c4, c5, c6, c7⟩ := hC.2.2.2.2.2.2.2.1
  obtain ⟨r1, r2, r3⟩ := hR.2.2.2.2.2.2.1
  obtain ⟨p1, p2, p3⟩ := hP.2.2.2.1
  refine Mt.deep (k1 := 3) (tX11_unsay ⟨c1, p1⟩ hX ⟨fun g0 => ?_, fun g1 g2 g3 => ?_⟩) (by decide)
  · exact ⟨rfl, _, rfl, Mt.deep (k1 := 0) (tX12_unsay ⟨r1, p1⟩ hR.1 ⟨fun _ K k => ⟨rfl, rfl, INV.qq hC hR hP quX.rf k⟩, fun b1 b2 b3 => absurd g0 (fun g => g.elim b1 (fun g => g.elim b2 (fun g => by omega)))⟩) (by decide)⟩
  · obtain ⟨t, ht, rfl⟩ := nI_of g1
    have htn : t < A.g.1 := Nat.lt_of_not_le (fun h => g2 ((nI_leI (by omega) ht).mpr h))
    refine ⟨rfl, _, rfl, Mt.deep (k1 := 0) (tX12_unsay (M := sI (sI M 133 (upd (M.1 133) A.g.1 (nI t))) 128 (upd (M.1 128) 0 (nI (A.g.1 + 1)))) ⟨r1, p1⟩ hR.1 ⟨fun g0 K k => absurd g0 (fun g => g.elim g1 (fun g => g.elim g2 (fun g => by omega))), fun _ _ _ K k1 k2 k3 k4 k5 => ⟨rfl, rfl, ?_⟩⟩) (by decide)⟩
    have e2 : ∀ a, a ≠ 149 → a ≠ 194 → a ≠ 128 → a ≠ 133 → K.1 a = M.1 a := fun a a1 a2 a3 a4 => (k2 a a1 a2).trans ((sI_ne a3).trans (sI_ne a4))
    refine INV.gr (g2 := (A.g.1 + 1, A.g.2.1, A.g.2.2.1, A.g.2.2.2.1, A.g.2.2.2.2.1, A.g.2.2.2.2.2.1, upd A.g.2.2.2.2.2.2 A.g.1 (nI t))) hC hR hP k1 (fun a a1 a2 => e2 a (by omega) (by omega) (by omega) (by omega)) ⟨?_, ?_, ?_, ?_, ?_, ?_, ?_⟩ (fun a a1 a2 => e2 a (by omega) (by omega) (by omega) (by omega)) (fun j j1 j2 j3 => (k3 j j1 j2).trans rfl) ⟨k4, (k3 71 (by decide) (by decide)).trans r2, fun i hi => ?_⟩ ⟨by show A.g.1 + 1 ≤ 24; omega, p2.imp id (fun ⟨m, h1, h2⟩ => ⟨m, by show m ≤ A.g.1 + 1; omega, h2⟩), fun i hi => ?_⟩
    · rw [k2 128 (by decide) (by decide)]; rfl
    · rw [k2 128 (by decide) (by decide)]; exact c2
    · rw [e2 129 (by decide) (by decide) (by decide) (by decide)]; exact c3
    · rw [e2 130 (by decide) (by decide) (by decide) (by decide)]; exact c4
    · rw [e2 131 (by decide) (by decide) (by decide) (by decide)]; exact c5
    · rw [e2 132 (by decide) (by decide) (by decide) (by decide)]; exact c6
    · rw [k2 133 (by decide) (by decide)]; show upd (M.1 133) _ _ = upd _ _ _; rw [c7]
    · show K.1 194 i = upd A.g.2.2.2.2.2.2 A.g.1 (nI t) i ∧ (upd A.g.2.2.2.2.2.2 A.g.1 (nI t) i = -1 → _)
      rw [k5, e2 190 (by decide) (by decide) (by decide) (by decide), e2 191 (by decide) (by decide) (by decide) (by decide), e2 192 (by decide) (by decide) (by decide) (by decide), e2 193 (by decide) (by decide) (by decide) (by decide)]
      by_cases e : i = A.g.1
      · subst e
        rw [pk_us, pk_us]
        exact ⟨rfl, fun h => absurd (nI_pos' (n := t) (by omega)) (by rw [h]; decide)⟩
      · have hi2 : i < A.g.1 := by have h : i < A.g.1 + 1 := hi; omega
        rw [pk_un e, pk_un e]
        exact r3 i hi2
    · show (upd A.g.2.2.2.2.2.2 A.g.1 (nI t) i = -1 ∧ _) ∨ ∃ u : Nat, u < i ∧ upd A.g.2.2.2.2.2.2 A.g.1 (nI t) i = nI u
      by_cases e : i = A.g.1
      · subst e
        rw [pk_us]
        exact Or.inr ⟨t, htn, rfl⟩
      · have hi2 : i < A.g.1 := by have h : i < A.g.1 + 1 := hi; omega
        rw [pk_un e]
        exact p3 i hi2
theorem pr_groan {G : Gx} {l : Launch} {ly : Ly} {M : Mm} {x y z v : Int32} (hv : v = 0 ∨ v = 1) (hI : INV ly M) : PrI G l ly mX11_groan mX12_groan [.int x, .int y, .int z, .int v] M := by
  obtain ⟨pl, ps, n, A, hC, hR, hP⟩ := hI
  have hX := inv_xs hC hR hP
  have hS := inv_rs hC hR hP
  have hn12 := hP.2.1.2.2.2.2
  obtain ⟨c1, c2, c3, c4, c5, c6, c7⟩ := hC.2.2.2.2.2.2.2.1
  obtain ⟨r1, r2, r3⟩ := hR.2.2.2.2.2.2.1
  obtain ⟨p1, p2, p3⟩ := hP.2.2.2.1
  refine Mt.deep (k1 := 3) (tX11_groan hv ⟨c1, p1⟩ hX ⟨fun g0 => ?_, fun g0 => ?_, fun g1 g2 g3 g4 => ?_⟩) (by decide)
  · exact ⟨rfl, _, rfl, Mt.deep (k1 := 2) (tX12_groan hv hS.n ⟨r1, p1⟩ hR.1 ⟨fun _ K k => ⟨rfl, rfl, INV.qq hC hR hP quX.rf k⟩, fun b1 b2 b3 b4 => absurd ⟨b1, b2, b3⟩ g0⟩) (by decide)⟩
  · exact ⟨rfl, _, rfl, Mt.deep (k1 := 2) (tX12_groan hv hS.n ⟨r1, p1⟩ hR.1 ⟨fun _ K k => ⟨rfl, rfl, INV.qq hC hR hP quX.rf k⟩, fun b1 b2 b3 b4 => absurd b4 (by omega)⟩) (by decide)⟩
  · refine ⟨rfl, _, rfl, Mt.deep (k1 := 2) (tX12_groan (M := sI (sI (sI (sI (sI (sI M 129 (upd (M.1 129) A.g.1 x)) 130 (upd (M.1 130) A.g.1 y)) 131 (upd (M.1 131) A.g.1 z)) 132 (upd (M.1 132) A.g.1 v)) 133 (upd (M.1 133) A.g.1 (-1))) 128 (upd (M.1 128) 0 (nI (A.g.1 + 1)))) hv hS.n ⟨r1, p1⟩ hR.1 ⟨fun g0 K k => absurd ⟨g1, g2, g3, g4⟩ g0, fun _ _ _ _ K k1 k2 k3 k4 k5 => ⟨rfl, rfl, ?_⟩⟩) (by decide)⟩
    obtain ⟨k5, k6, k7, k8, k9⟩ := k5
    have e2 : ∀ a, a ≠ 149 → (a < 190 ∨ 194 < a) → (a < 128 ∨ 133 < a) → K.1 a = M.1 a := fun a a1 a2 a3 => (k2 a a1 a2).trans ((sI_ne (by omega)).trans ((sI_ne (by omega)).trans ((sI_ne (by omega)).trans ((sI_ne (by omega)).trans ((sI_ne (by omega)).trans (sI_ne (by omega)))))))
    obtain ⟨t, ht, et⟩ : ∃ t : Nat, t ≤ 63 ∧ x = nI t := nI_of2 (M := 63) (n := 63) rfl (Int32.not_lt.mpr g1.1) g1.2
    obtain ⟨c, hc, ec⟩ := g2
    refine INV.gr (g2 := (A.g.1 + 1, A.g.2.1, upd A.g.2.2.1 A.g.1 x, upd A.g.2.2.2.1 A.g.1 y, upd A.g.2.2.2.2.1 A.g.1 z, upd A.g.2.2.2.2.2.1 A.g.1 v, upd A.g.2.2.2.2.2.2 A.g.1 (-1))) hC hR hP k1 (fun a a1 a2 => e2 a (by omega) (by omega) (by omega)) ⟨?_, ?_, ?_, ?_, ?_, ?_, ?_⟩ (fun a a1 a2 => e2 a (by omega) (by omega) (by omega)) (fun j j1 j2 j3 => (k3 j j1 j2).trans rfl) ⟨k4, (k3 71 (by decide) (by decide)).trans r2, fun i hi => ?_⟩ ⟨by show A.g.1 + 1 ≤ 24; omega, p2.imp id (fun ⟨m, h1, h2⟩ => ⟨m, by show m ≤ A.g.1 + 1; omega, h2⟩), fun i hi => ?_⟩
    · rw [k2 128 (by decide) (by decide)]; rfl
    · rw [k2 128 (by decide) (by decide)]; exact c2
    · rw [k2 129 (by decide) (by decide)]; show upd (M.1 129) _ _ = upd _ _ _; rw [c3]
    · rw [k2 130 (by decide) (by decide)]; show upd (M.1 130) _ _ = upd _ _ _; rw [c4]
    · rw [k2 131 (by decide) (by decide)]; show upd (M.1 131) _ _ = upd _ _ _; rw [c5]
    · rw [k2 132 (by decide) (by decide)]; show upd (M.1 132) _ _ = upd _ _ _; rw [c6]
    · rw [k2 133 (by decide) (by decide)]; show upd (M.1 133) _ _ = upd _ _ _; rw [c7]
    · show K.1 194 i = upd A.g.2.2.2.2.2.2 A.g.1 (-1) i ∧ (upd A.g.2.2.2.2.2.2 A.g.1 (-1) i = -1 → K.1 190 i = upd A.g.2.2.1 A.g.1 x i ∧ K.1 191 i = upd A.g.2.2.2.1 A.g.1 y i ∧ K.1 192 i = upd A.g.2.2.2.2.1 A.g.1 z i ∧ K.1 193 i = upd A.g.2.2.2.2.2.1 A.g.1 v i)
      rw [k5, k6, k7, k8, k9]
      by_cases e : i = A.g.1
      · subst e
        rw [pk_us, pk_us, pk_us, pk_us, pk_us, pk_us, pk_us, pk_us, pk_us, pk_us]
        exact ⟨rfl, fun _ => ⟨rfl, rfl, rfl, rfl⟩⟩
      · have hi2 : i < A.g.1 := by have h : i < A.g.1 + 1 := hi; omega
        rw [pk_un e, pk_un e, pk_un e, pk_un e, pk_un e, pk_un e, pk_un e, pk_un e, pk_un e, pk_un e]
        exact r3 i hi2
    · show (upd A.g.2.2.2.2.2.2 A.g.1 (-1) i = -1 ∧ (∃ t : Nat, t < 64 ∧ upd A.g.2.2.1 A.g.1 x i = nI t) ∧ ∃ c : Nat, c < 12 ∧ upd A.g.2.2.2.1 A.g.1 y i = nI c) ∨ ∃ u : Nat, u < i ∧ upd A.g.2.2.2.2.2.2 A.g.1 (-1) i = nI u
      by_cases e : i = A.g.1
      · subst e
        rw [pk_us, pk_us, pk_us]
        exact Or.inl ⟨rfl, ⟨t, by omega, et⟩, c, by omega, ec⟩
      · have hi2 : i < A.g.1 := by have h : i < A.g.1 + 1 := hi; omega
        rw [pk_un e, pk_un e, pk_un e]
        exact p3 i hi2
