theorem blk_60 {F f : Nat → Int32} {j : Nat} (h : j < 60) : blk (60 * 1) 60 F f (60 + j) = F j := blk_in (o := 60) h
theorem pr_keep {G : Gx} {l : Launch} {ly : Ly} {M : Mm} (hI : INV ly M) : PrI G l ly mX11_keep mX12_keep [] M := by
  obtain ⟨pl, ps, n, A, hC, hR, hP⟩ := hI
  have hX := inv_xs hC hR hP
  have hS := inv_rs hC hR hP
  have hc := inv_cas hC hP
  have hw := hP.w6
  have ht : M.1 75 14 = nI A.X.t := hS.2.1.2.2.2.2.2.2.1.2
  have n1 := hC.2.2.2.2.2.1
  have hPX := hP.2.2.1
  have hn12 := hP.2.1.2.2.2.2
  refine Mt.deep (k1 := 4) (tX11_keep hX (fun N k1 k2 k3 k4 k5 => ?_)) (by decide)
  have eN : ∀ a, 149 ≤ a → N.1 a = M.1 a := fun a ha => k2 a (by omega) (by omega) (by omega)
  have hRN : RA ly N A := hR.mv eN (hR.1.mv (fun j => by rw [k1]; exact rSc_hi (by omega)))
  refine ⟨rfl, _, rfl, Mt.deep (k1 := 3) (tX12_keep (hS.mv eN) hc ⟨hRN.2.2.2.2.2.2.2.1.1, hP.2.2.2.2.1⟩ hRN.2.2.2.2.2.2.2.2.2 hRN.1 (fun K j1 j2 j3 j4 j5 j6 j7 j8 => ⟨rfl, by rw [ht], ?_⟩)) (by decide)⟩
  have hr109 : N.2.2 109 0 = some pl ∧ N.2.2 109 1 = some (pl + 7) ∧ N.2.2 109 2 = some (pl + 18) ∧ N.2.2 109 3 = some (pl + 21) := by rw [k1]; exact ⟨rfl, rfl, rfl, rfl⟩
  have eK : ∀ a, a < 149 → K.1 a = N.1 a := fun a ha => j2 a (by omega) (by omega)
  refine INV.im (Y2 := cpN N 109 A.X) (hh := N.1 127) hC hR hP (by rw [j1, k1]; exact XW_rSc hC.1 (Or.inr (Or.inr rfl))) (by rw [j1]; exact hRN.1) (by rw [j1, k1]; exact ⟨rSc_hi (by omega), rSc_hi (by omega)⟩) (fun j _ => by rw [j1, k1]; exact rSc_hi (by omega)) (fun a a1 a2 a3 a4 => (eK a a1).trans (k2 a a2 a3 a4)) ?_ ((cpN_C n1 hn12 hPX k5 hr109).mv (fun k b1 b2 => eK k (by omega)) (fun j _ => by rw [j1])) (eK 127 (by omega)) (fun a ha => (j2 a (by omega) (by omega)).trans (eN a (by omega))) (fun j hj => (j3 j (by omega) (by omega)).trans (congrFun (eN 149 (by omega)) j)) j4 (cpN_R n1 hPX hw k5 (j7.ns hw hRN.2.2.2.2.1)) (fun j hj => ?_) (fun j hj => ?_) (fun b hb => (j8 b hb).tr (cpB.eq (fun a ha => eN a (by omega)))) j6 (cpN_P n1 hPX k5)
  · rw [eK 0 (by omega), k3]; exact ⟨rfl, rfl⟩
  · show K.1 183 (60 + j) = N.1 127 j
    rw [j5, blk_60 hj, k4 j hj]
    show N.1 183 (60 * 0 + j) = M.1 126 j
    rw [eN 183 (by omega), show M.1 126 = A.h from hC.2.2.2.2.2.2.1, show 60 * 0 + j = j by omega]
    exact hR.2.2.2.2.2.1 j hj
  · rw [j5, blk_out (by omega), eN 183 (by omega)]
theorem pr_back {G : Gx} {l : Launch} {ly : Ly} {M : Mm} (hI : INV ly M) : PrI G l ly mX11_back mX12_back [] M := by
  obtain ⟨pl, ps, n, A, hC, hR, hP⟩ := hI
  have hX := inv_xs hC hR hP
  have hw := hP.w6
  have hn12 := hP.2.1.2.2.2.2
  have i1 := hC.2.2.2.2.2.2.2.2.2.1
  have i2 := hR.2.2.2.2.2.2.2.2.1
  refine Mt.deep (k1 := 4) (tX11_back (fun g => ?_) hX ⟨fun g0 => ?_, fun g0 N k1 k2 k3 k4 k5 => ?_⟩) (by decide)
  · have q : ¬ A.im = 0 := fun e => g (i1.1.trans e)
    have y1 := (i1.2 q).1
    have y2 := hP.2.2.2.2.2.2 q
    exact ⟨y1.1, by rw [← y1.2.2.1]; exact y2.2.2.2.1, Or.inl y1.2.2.2.1⟩
  · exact ⟨rfl, _, rfl, Mt.deep (k1 := 3) (tX12_back hR.2.2.2.2.2.2.2.2.2 hR.1 ⟨fun _ K k => ⟨rfl, rfl, INV.qq hC hR hP quX.rf k⟩, fun g1 => absurd (i2.1.trans (i1.1.symm.trans g0)) g1⟩) (by decide)⟩
  · have q : ¬ A.im = 0 := fun e => g0 (i1.1.trans e)
    have y1 := (i1.2 q).1
    have y3 := (i1.2 q).2
    have hPY := hP.2.2.2.2.2.2 q
    have yR := (i2.2 q).1
    have eN : ∀ a, 149 ≤ a → N.1 a = M.1 a := fun a ha => k2 a (by omega) (by omega) (by omega)
    have hRN : RA ly N A := hR.mv eN (hR.1.mv (fun j => by rw [k1]; exact rSc_hi (by omega)))
    have a1 : M.1 109 14 = nI A.Y.t := by
      have w := yR.1.2.2.2.2.2.2.1.2
      rw [y1.2.1] at w
      exact w
    have a2 : N.1 169 2 = nI A.Y.t := by rw [eN 169 (by omega)]; exact yR.1.2.2.2.2.2.2.1.1
    refine ⟨rfl, _, rfl, Mt.deep (k1 := 3) (tX12_back hRN.2.2.2.2.2.2.2.2.2 hRN.1 ⟨fun g1 => absurd (i2.1.symm.trans ((congrFun (eN 149 (by omega)) 50).symm.trans g1)) q, fun _ K j1 j2 j3 j4 j5 j6 j7 j8 => ⟨rfl, by rw [a1, a2], ?_⟩⟩) (by decide)⟩
    have hr75 : N.2.2 75 0 = some pl ∧ N.2.2 75 1 = some (pl + 7) ∧ N.2.2 75 2 = some (pl + 18) ∧ N.2.2 75 3 = some (pl + 21) := by rw [k1]; exact ⟨rfl, rfl, rfl, rfl⟩
    have eK : ∀ a, a < 149 → K.1 a = N.1 a := fun a ha => j2 a (by omega) (by omega)
    refine INV.sn (X2 := cpN N 75 A.Y) (hh := N.1 126) (nd2 := 0) (Ds2 := fun _ => dOf (cpN N 75 A.Y)) hC hR hP (by rw [j1, k1]; exact XW_rSc hC.1 (Or.inl rfl)) (by rw [j1]; exact hRN.1) (by rw [j1, k1]; exact ⟨rSc_hi (by omega), rSc_hi (by omega)⟩) (fun j _ => by rw [j1, k1]; exact rSc_hi (by omega)) (fun a b1 b2 b3 b4 => (eK a b1).trans (k2 a b2 b3 (by omega))) ((cpN_C y1 hn12 hPY k5 hr75).mv (fun k b1 b2 => eK k (by omega)) (fun j _ => by rw [j1])) (eK 126 (by omega)) ⟨by rw [eK 134 (by omega), k3]; rfl, rfl, fun k hk => absurd hk (Nat.not_lt_zero k)⟩ (fun a ha => (j2 a (by omega) (by omega)).trans (eN a (by omega))) (fun j hj => (j3 j (by omega) (by omega)).trans (congrFun (eN 149 (by omega)) j)) (cpN_R y1 hPY hw k5 (j7.ns hw (hRN.2.2.2.2.2.2.2.2.1.2 q).1)) (fun j hj => ?_) ⟨j4, fun k hk => absurd hk (Nat.not_lt_zero k)⟩ ((j8 2 (by omega)).tr (cpB.eq (fun a ha => eN a (by omega)))) (fun j hj => ?_) j6 (cpN_P y1 hPY k5) (by omega)
    · rw [j5, show blk (60 * 0) 60 (sh (60 * 1) (N.1 183)) (N.1 183) j = sh (60 * 1) (N.1 183) j from by have w := blk_in (o := 0) (n := 60) (F := sh (60 * 1) (N.1 183)) (f := N.1 183) hj; rw [Nat.zero_add] at w; exact w, k4 j hj, y3]
      show N.1 183 (60 * 1 + j) = A.h2 j
      rw [eN 183 (by omega)]
      exact (i2.2 q).2 j hj
    · show K.1 183 (60 + j) = M.1 183 (60 + j)
      rw [j5, blk_out (by omega), eN 183 (by omega)]
theorem htS_eq {T : Sc → Sc} {s : Sc} {n t0 : Nat} {h h2 : Nat → Int32} (e : eqN 60 h h2) : ∀ k : Nat, eqN 60 (htS T s n t0 h k) (htS T s n t0 h2 k)
  | 0 => e
  | k + 1 => (htS_eq e k).up rfl
theorem htS_hi {T : Sc → Sc} {s : Sc} {n t0 : Nat} {h : Nat → Int32} {j : Nat} (hj : 60 ≤ j) : ∀ k : Nat, htS T s n t0 h k j = h j
  | 0 => rfl
  | k + 1 => by
    show upd (htS T s n t0 h k) ((t0 + k) % 60) _ j = h j
    rw [pk_un (by omega), htS_hi hj k]
theorem pr_beats {G : Gx} {l : Launch} {ly : Ly} {M : Mm} {x : Int32} (hI : INV ly M) : PrI G l ly mX11_beats mX12_beats [.int x] M := by
  obtain ⟨pl, ps, n, A, hC, hR, hP⟩ := hI
  have hX := inv_xs hC hR hP
  have hS := inv_rs hC hR hP
  have hc := inv_cas hC hP
  have hw := hP.w6
  have hn12 := hP.2.1.2.2.2.2
  have ht : M.1 75 14 = nI A.X.t := hS.2.1.2.2.2.2.2.2.1.2
  have n1 := hC.2.2.2.2.2.1
  have hPX := hP.2.2.1
  have ht9 := hPX.1
  refine Mt.deep (k1 := 6) (tX11_beats ⟨ht, ht9⟩ hX ⟨fun g0 => ?_, fun N0 b1 e1 b2 N k1 k2 k3 k4 k5 k6 => ?_⟩) (by decide)
  · refine ⟨rfl, _, rfl, Mt.deep (k1 := 8) (tX12_beats hS hc hR.1 ⟨fun _ K k => ⟨rfl, rfl, INV.qq hC hR hP quX.rf k⟩, fun N2 d1 f1 d2 => ?_⟩) (by decide)⟩
    rw [f1, show (9999 : Int32) = nI 9999 from rfl, i32sub (by omega)] at g0
    exact absurd g0 (fun g => g.elim (fun g => absurd g (nI_pos (by omega))) (fun g => g.elim (fun g => absurd ((nI_ltI (a := 200) (b := N2) (by decide) (by omega)).mp g) (by omega)) (fun g => absurd ((nI_ltI (by omega) (by omega)).mp g) (by omega))))
  · have eN : ∀ a, 149 ≤ a → N.1 a = M.1 a := fun a ha => k2 a (by omega) (by omega) (by omega)
    have hRN : RA ly N A := hR.mv eN (by rw [k1]; exact hR.1)
    refine ⟨rfl, _, rfl, Mt.deep (k1 := 8) (tX12_beats (hS.mv eN) hc hRN.1 ⟨fun g K k => ?_, fun N2 d1 f1 d2 K j1 j2 j3 j4 => ?_⟩) (by decide)⟩
    · exact absurd g (fun g => g.elim (fun g => absurd g (by rw [e1]; exact nI_pos (by omega))) (fun g => g.elim (fun g => absurd ((nI_ltI (a := 200) (b := N0) (by decide) (by omega)).mp (by rw [← e1]; exact g)) (by omega)) (fun ⟨N3, g1, g2, g3⟩ => by have w : N3 = N0 := nI_inj (by omega) (by omega) (g2.symm.trans e1); omega)))
    · obtain rfl : N2 = N0 := nI_inj (by omega) (by omega) (f1.symm.trans e1)
      refine ⟨rfl, rfl, ?_⟩
      obtain ⟨m1, m2, m3⟩ := hRN.2.2.2.2.1
      have ebl : N.1 171 0 = M.1 75 16 := m3.trans n1.2.2.1
      have eK : ∀ a, a < 149 → K.1 a = N.1 a := fun a ha => j1.2.1 a (by omega) (by omega) (by omega) (by omega) (by omega) (by omega)
      have cp : ∀ b, b ≠ 0 → cpB K.1 b M.1 b := fun b hb => (j1.2.2.2 b hb).tr (cpB.eq (fun a ha => eN a (by omega)))
      rw [n1.2.2.2.1] at k4 k5
      rw [ebl] at j3 j4
      have es : rAl K.1 0 (A.p.ct 0) (A.X.t + N2) (vS N.1 75) := by rw [k4]; exact j3
      have e87 : N.1 87 = M.1 87 := k2 87 (by omega) (by omega) (by omega)
      have e88 : N.1 88 = M.1 88 := k2 88 (by omega) (by omega) (by omega)
      have e89 : N.1 89 = M.1 89 := k2 89 (by omega) (by omega) (by omega)
      have e90 : N.1 90 = M.1 90 := k2 90 (by omega) (by omega) (by omega)
      have hnsC : nsC N 75 pl A.p (vS N.1 75, M.1 75 16, A.X.t + N2, A.X.nf, A.X.fc, A.X.fk) := ⟨by rw [k1]; exact n1.1, rfl, (k3 16 (by decide) (by decide) (by decide)).symm, (k3 17 (by decide) (by decide) (by decide)).trans n1.2.2.2.1, (k3 4 (by decide) (by decide) (by decide)).trans n1.2.2.2.2.1, by show N.1 87 0 = _; rw [e87]; exact n1.2.2.2.2.2.1, by show A.X.fc = N.1 88; rw [e88]; exact n1.2.2.2.2.2.2.1, by show A.X.fk = N.1 89; rw [e89]; exact n1.2.2.2.2.2.2.2.1, by show ∀ c, c < 12 → N.1 90 c = _; rw [e90]; exact n1.2.2.2.2.2.2.2.2⟩
      have hnsR : nsR K.1 0 (A.p.ct 0) (vS N.1 75, M.1 75 16, A.X.t + N2, A.X.nf, A.X.fc, A.X.fk) := ⟨es, by
        show ftR K.1 0 A.X.nf A.X.fc A.X.fk
        unfold ftR
        rw [j1.2.1 180 (by omega) (by omega) (by omega) (by omega) (by omega) (by omega), j1.2.1 181 (by omega) (by omega) (by omega) (by omega) (by omega) (by omega), j1.2.1 182 (by omega) (by omega) (by omega) (by omega) (by omega) (by omega)]
        exact m2, by rw [j1.2.1 171 (by omega) (by omega) (by omega) (by omega) (by omega) (by omega)]; exact ebl⟩
      have hnsP : nsP n (vS N.1 75, M.1 75 16, A.X.t + N2, A.X.nf, A.X.fc, A.X.fk) := ⟨b2, hPX.2.1, hPX.2.2.1, by show M.1 75 16 = 0 ∨ M.1 75 16 = 1; rw [← n1.2.2.1]; exact hPX.2.2.2.1, by
        show ∃ x : Nat, x < 4096 ∧ (vS N.1 75).2.2.2.2.2.1 = nI x
        rw [k4]
        exact it_lost (fun s hs => pas_lost hn12 hs) (by rw [← n1.2.1]; exact hPX.2.2.2.2) N2⟩
      have hh2 : eqN 60 (K.1 183) (N.1 126) := by
        rw [j4, k5, eN 183 (by omega)]
        exact htS_eq (by rw [show M.1 126 = A.h from hC.2.2.2.2.2.2.1]; exact hR.2.2.2.2.2.1) N2
      have hh3 : eqN 60 (sh 60 (K.1 183)) (sh 60 (M.1 183)) := fun j hj => by
        show K.1 183 (60 + j) = M.1 183 (60 + j)
        rw [j4, htS_hi (by omega), eN 183 (by omega)]
      have hgd : ∀ b, b < 24 → gdB K.1 b := fun b hb => j1.gd hRN.2.2.2.2.2.2.2.2.2 b hb
      have base := @INV.sn ly M K pl ps n
      by_cases hz : N2 = 0
      · rw [if_pos hz] at k6 j2
        have evs : vS N.1 75 = A.X.s := by rw [k4, hz, n1.2.1]; rfl
        refine base (nd2 := A.nd) (Ds2 := A.Ds) (X2 := (vS N.1 75, M.1 75 16, A.X.t + N2, A.X.nf, A.X.fc, A.X.fk)) (hh := N.1 126) hC hR hP (by rw [j1.1, k1]; exact hC.1) (by rw [j1.1]; exact hRN.1) (by rw [j1.1, k1]; exact ⟨rfl, rfl⟩) (fun j _ => by rw [j1.1, k1]) (fun a d1 d2 d3 d4 => (eK a d1).trans (k2 a (by omega) d3 (by omega))) (hnsC.mv (fun k d1 d2 => eK k (by omega)) (fun j _ => by rw [j1.1])) (eK 126 (by omega)) ?_ (fun a ha => (j1.2.1 a (by omega) (by omega) (by omega) (by omega) (by omega) (by omega)).trans (eN a (by omega))) (fun j hj => (j1.2.2.1 j (by omega) (by omega) (by omega)).trans (congrFun (eN 149 (by omega)) j)) hnsR hh2 ?_ (cp 2 (by omega)) hh3 hgd hnsP hP.2.2.2.2.1
        · have d := hC.2.2.2.2.2.2.2.2.1
          have d' : dsC N.1 A.X A.nd A.Ds := d.mv (fun a a1 a2 => by
            by_cases e : a = 134
            · rw [e]; exact k6
            · exact k2 a (by omega) (by omega) e)
          have d2 := d'.mv (J := K.1) (fun a a1 a2 => eK a (by omega))
          refine ⟨d2.1, ?_, d2.2.2⟩
          rw [d2.2.1]
          show (A.X.s.2.2.2.2.1.2.2.1, A.X.s.2.1, A.X.bl, A.X.nf) = ((vS N.1 75).2.2.2.2.1.2.2.1, (vS N.1 75).2.1, M.1 75 16, A.X.nf)
          rw [evs, n1.2.2.1]
        · have d := hR.2.2.2.2.2.2.2.1.cp (J := K.1) hw (by rw [j2, eN 149 (by omega)]) (fun b hb => cp b (by omega))
          refine ⟨d.1, fun k hk => ?_⟩
          show rAl K.1 (4 + k) (A.p.ct 0) (A.X.t + N2) (mkS (vS N.1 75) (A.Ds k)) ∧ ftR K.1 (4 + k) (A.Ds k).2.2.2 A.X.fc A.X.fk ∧ K.1 171 (4 + k) = (A.Ds k).2.2.1
          rw [evs, hz, Nat.add_zero]
          exact d.2 k hk
      · rw [if_neg hz] at k6 j2
        exact base (nd2 := 0) (Ds2 := fun _ => dOf (vS N.1 75, M.1 75 16, A.X.t + N2, A.X.nf, A.X.fc, A.X.fk)) (X2 := (vS N.1 75, M.1 75 16, A.X.t + N2, A.X.nf, A.X.fc, A.X.fk)) (hh := N.1 126) hC hR hP (by rw [j1.1, k1]; exact hC.1) (by rw [j1.1]; exact hRN.1) (by rw [j1.1, k1]; exact ⟨rfl, rfl⟩) (fun j _ => by rw [j1.1, k1]) (fun a d1 d2 d3 d4 => (eK a d1).trans (k2 a (by omega) d3 (by omega))) (hnsC.mv (fun k d1 d2 => eK k (by omega)) (fun j _ => by rw [j1.1])) (eK 126 (by omega)) ⟨by rw [eK 134 (by omega), k6]; rfl, rfl, fun k hk => absurd hk (Nat.not_lt_zero k)⟩ (fun a ha => (j1.2.1 a (by omega) (by omega) (by omega) (by omega) (by omega) (by omega)).trans (eN a (by omega))) (fun j hj => (j1.2.2.1 j (by omega) (by omega) (by omega)).trans (congrFun (eN 149 (by omega)) j)) hnsR hh2 ⟨j2, fun k hk => absurd hk (Nat.not_lt_zero k)⟩ (cp 2 (by omega)) hh3 hgd hnsP (by omega)
