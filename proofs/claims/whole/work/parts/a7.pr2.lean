theorem pr_creaks {G : Gx} {l : Launch} {ly : Ly} {M : Mm} {x : Int32}  (hI : INV ly M) : PrI G l ly mX11_creaks mX12_creaks [.int x] M := by
  obtain ⟨pl, ps, n, A, hC, hR, hP⟩ := hI
  have hX := inv_xs hC hR hP
  have hS := inv_rs hC hR hP
  have hc := inv_cas hC hP
  have hF := inv_hF hC hP
  have hw6 := hP.w6
  have hn2 := hP.2.1.2.2.2.1
  have hn12 := hP.2.1.2.2.2.2
  have ct4 := hP.2.1.1.2.2.1
  have hok := hP.2.1.2.1.2.2.2.2
  have e2 : M.1 (pl + 1) 2 = nI (A.p.ct 2) := hC.2.2.2.2.1.2.1 2 (by decide)
  have e12 : ∀ i, i < A.p.ct 2 → M.1 (pl + 16) i = A.p.D 12 i := fun i hi => hC.2.2.2.2.1.2.2.2.1 12 (by decide) (by decide) i hi
  have e13 : ∀ i, i < A.p.ct 2 → M.1 (pl + 17) i = A.p.D 13 i := fun i hi => hC.2.2.2.2.1.2.2.2.1 13 (by decide) (by decide) i hi
  have f12 : ∀ i, i < A.p.ct 2 → M.1 162 i = A.p.D 12 i := fun i hi => hR.2.2.2.1.2.2.1 12 (by decide) (by decide) i hi (fun g => absurd g (by decide))
  have f13 : ∀ i, i < A.p.ct 2 → M.1 163 i = A.p.D 13 i := fun i hi => hR.2.2.2.1.2.2.1 13 (by decide) (by decide) i hi (fun g => absurd g (by decide))
  have g1 : ∀ N : Mm, quX M N → N.1 151 8 = nI (A.p.ct 2) := fun N h => by rw [h.at (by omega)]; exact hR.2.2.2.1.2.1 2 (by decide)
  have g2 : ∀ N : Mm, quX M N → ∀ i, i < A.p.ct 2 → N.1 162 i = nI ((M.1 (pl + 16) i).toNatClampNeg) ∧ (M.1 (pl + 16) i).toNatClampNeg < 12 := fun N h i hi => by
    obtain ⟨v, m, h1, _, h3, h4⟩ := (hok i hi).2.1
    rw [h.at (k := 162) (by omega), f12 i hi, e12 i hi, h1, nI_clamp (by omega)]
    exact ⟨rfl, by omega⟩
  refine Mt.deep (k1 := 7) (tX11_creaks (ns := A.p.ct 2) e2 ct4 (fun i hi => by rw [e12 i hi]; exact cell_in (hok i hi).2.1) hX hF ⟨fun g0 => ?_, fun i a0 e1 N0 q0 => ?_⟩) (by decide)
  · exact ⟨rfl, _, rfl, Mt.deep (k1 := 8) (tX12_creaks (sc := fun i => (M.1 (pl + 16) i).toNatClampNeg) (g1 _ quX.rf) ct4 (g2 _ quX.rf) (hS.qx quX.rf) hc (hR.qx quX.rf).1 ⟨fun _ K k => ⟨rfl, rfl, INV.qq hC hR hP quX.rf k⟩, fun i2 b0 f1 K k => absurd ⟨i2, b0, f1⟩ g0⟩) (by decide)⟩
  · refine ⟨rfl, _, rfl, Mt.deep (k1 := 8) (tX12_creaks (sc := fun i => (M.1 (pl + 16) i).toNatClampNeg) (g1 _ q0) ct4 (g2 _ q0) (hS.qx q0) hc (hR.qx q0).1 ⟨fun g0 K k => absurd ⟨i, a0, e1⟩ g0, fun i2 b0 f1 K k => ⟨rfl, ?_, INV.qq hC hR hP q0 k⟩⟩) (by decide)⟩
    obtain rfl : i2 = i := nI_inj (by omega) (by omega) (f1.symm.trans e1)
    rw [q0.at (k := 163) (by omega), f13 _ b0, ← e13 _ b0]
    exact congrArg (fun z => some (Value.int z)) (crk_u (fun _ _ e => pas_u e) uE.rf 64 1)
theorem pr_lies {G : Gx} {l : Launch} {ly : Ly} {M : Mm} {x z y v : Int32} (hI : INV ly M) : PrI G l ly mX11_lies mX12_lies [.int x, .int z, .int y, .int v] M := by
  obtain ⟨pl, ps, n, A, hC, hR, hP⟩ := hI
  have hX := inv_xs hC hR hP
  have hS := inv_rs hC hR hP
  have hc := inv_cas hC hP
  have hF := inv_hF hC hP
  have hw6 := hP.w6
  have hn2 := hP.2.1.2.2.2.1
  have hn12 := hP.2.1.2.2.2.2
  refine Mt.deep (k1 := 8) (tX11_lies hX hF ⟨fun g0 => ?_, fun N k j a1 a2 e1 a3 e2 a4 a5 e3 a6 => ⟨fun h => ?_, fun h N0 q0 => ?_⟩⟩) (by decide)
  · exact ⟨rfl, _, rfl, Mt.deep (k1 := 10) (tX12_lies (cakk := cakkF (M.1 pl 3) (M.1 90) (M.1 88) (M.1 89) A.X.nf y) (hS.qx quX.rf) hc (by omega) hF.2.1 (cakk_ok hC hP y) (hR.qx quX.rf).1 ⟨fun _ K kk => ⟨rfl, rfl, INV.qq hC hR hP quX.rf kk⟩, fun N2 k2 j2 b1 b2 f1 b3 f2 b4 b5 f3 b6 => ⟨fun _ K kk => absurd ⟨(rgN (a := 1) (b := 32) b1 b2 (by decide) f1), (rgN (a := 0) (b := 3) (Nat.zero_le _) b3 (by decide) f2), b4, (rgN (a := 0) (b := 3) (Nat.zero_le _) b5 (by decide) f3), (by rw [f2, nI_add]; exact nI_le (b := 8) b6 (by decide))⟩ g0, fun _ K kk => absurd ⟨(rgN (a := 1) (b := 32) b1 b2 (by decide) f1), (rgN (a := 0) (b := 3) (Nat.zero_le _) b3 (by decide) f2), b4, (rgN (a := 0) (b := 3) (Nat.zero_le _) b5 (by decide) f3), (by rw [f2, nI_add]; exact nI_le (b := 8) b6 (by decide))⟩ g0⟩⟩) (by decide)⟩
  · exact ⟨rfl, _, rfl, Mt.deep (k1 := 10) (tX12_lies (cakk := cakkF (M.1 pl 3) (M.1 90) (M.1 88) (M.1 89) A.X.nf y) (hS.qx quX.rf) hc (by omega) hF.2.1 (cakk_ok hC hP y) (hR.qx quX.rf).1 ⟨fun g0 K kk => absurd ⟨(rgN (a := 1) (b := 32) a1 a2 (by decide) e1), (rgN (a := 0) (b := 3) (Nat.zero_le _) a3 (by decide) e2), a4, (rgN (a := 0) (b := 3) (Nat.zero_le _) a5 (by decide) e3), (by rw [e2, nI_add]; exact nI_le (b := 8) a6 (by decide))⟩ g0, fun N2 k2 j2 b1 b2 f1 b3 f2 b4 b5 f3 b6 => ⟨fun _ K kk => ⟨rfl, rfl, INV.qq hC hR hP quX.rf kk⟩, fun h2 K kk => absurd h2 (by have w1 : k2 = k := nI_inj (by omega) (by omega) (f2.symm.trans e2); have w2 : j2 = j := nI_inj (by omega) (by omega) (f3.symm.trans e3); omega)⟩⟩) (by decide)⟩
  · refine ⟨rfl, _, rfl, Mt.deep (k1 := 10) (tX12_lies (cakk := cakkF (M.1 pl 3) (M.1 90) (M.1 88) (M.1 89) A.X.nf y) (hS.qx q0) hc (by omega) hF.2.1 (cakk_ok hC hP y) (hR.qx q0).1 ⟨fun g0 K kk => absurd ⟨(rgN (a := 1) (b := 32) a1 a2 (by decide) e1), (rgN (a := 0) (b := 3) (Nat.zero_le _) a3 (by decide) e2), a4, (rgN (a := 0) (b := 3) (Nat.zero_le _) a5 (by decide) e3), (by rw [e2, nI_add]; exact nI_le (b := 8) a6 (by decide))⟩ g0, fun N2 k2 j2 b1 b2 f1 b3 f2 b4 b5 f3 b6 => ⟨fun h2 K kk => absurd h2 (by have w1 : k2 = k := nI_inj (by omega) (by omega) (f2.symm.trans e2); have w2 : j2 = j := nI_inj (by omega) (by omega) (f3.symm.trans e3); omega), fun h2 K kk => ⟨rfl, ?_, INV.qq hC hR hP q0 kk⟩⟩⟩) (by decide)⟩
    obtain rfl : N2 = N := nI_inj (by omega) (by omega) (f1.symm.trans e1)
    obtain rfl : k2 = k := nI_inj (by omega) (by omega) (f2.symm.trans e2)
    obtain rfl : j2 = j := nI_inj (by omega) (by omega) (f3.symm.trans e3)
    refine congrArg (fun z => some (Value.int z)) (congrArg (fun r : Int32 × Option (Nat × Nat × Nat) => if j2 = 0 then r.1 else bs3 r.2 (j2 - 1)) (lhF_c (fun a => ?_) _ _))
    have e9 : cakkF (M.1 pl 3) (M.1 90) (M.1 88) (M.1 89) A.X.nf y k2 a = caK (M.1 pl 3) (M.1 90) (M.1 88) (M.1 89) A.X.nf y a k2 := if_pos a4
    rw [e9]
    exact hgS_u (fun _ _ e => pas_u e) uE.rf N2
theorem pr_began {G : Gx} {l : Launch} {ly : Ly} {M : Mm} (hI : INV ly M) : PrI G l ly mX11_began mX12_began [] M := by
  obtain ⟨pl, ps, n, A, hC, hR, hP⟩ := hI
  have hX := inv_xs hC hR hP
  have hS := inv_rs hC hR hP
  have hc := inv_cas hC hP
  have hF := inv_hF hC hP
  have hw6 := hP.w6
  have hn2 := hP.2.1.2.2.2.1
  have hn12 := hP.2.1.2.2.2.2
  obtain ⟨m, L0, hg, hGR, hkb⟩ := inv_gr hC hR hP
  have gG : ∀ N : Mm, quX M N → GR N A.g.1 m L0 (M.1 129) (M.1 130) (M.1 131) (M.1 132) := fun N h => by unfold GR kbR; rw [h.at (k := 149) (by omega), h.at (k := 190) (by omega), h.at (k := 191) (by omega), h.at (k := 192) (by omega), h.at (k := 193) (by omega), h.at (k := 194) (by omega)]; exact hGR
  have gk : ∀ N : Mm, quX M N → kbR N m = kbX M m := fun N h => by rw [← hkb]; unfold kbR; rw [h.at (k := 194) (by omega)]
  have h64 : 2 ^ A.p.ct 0 ≤ 64 := Nat.pow_le_pow_right (n := 2) (by decide) hw6
  refine Mt.deep (k1 := 8) (tX11_began hg hX hF (fun N0 q0 => ?_)) (by decide)
  refine ⟨rfl, _, rfl, Mt.deep (k1 := 11) (tX12_began (hS.qx q0) hc (gG _ q0) (hR.qx q0).1 (fun K k => ⟨rfl, ?_, INV.qq hC hR hP q0 k⟩)) (by decide)⟩
  rw [gk _ q0]
  exact congrArg (fun z => some (Value.int z)) ((congrArg (fun B => nI (cnB B (2 ^ A.p.ct 0))) (funext (fun i => soB_u (fun _ _ e => pas_u e) zsc_u))).trans (pc_cn h64).symm)
theorem pr_set {G : Gx} {l : Launch} {ly : Ly} {M : Mm} {x : Int32} (hI : INV ly M) : PrI G l ly mX11_set mX12_set [.int x] M := by
  obtain ⟨pl, ps, n, A, hC, hR, hP⟩ := hI
  have hX := inv_xs hC hR hP
  have hS := inv_rs hC hR hP
  have hc := inv_cas hC hP
  have hF := inv_hF hC hP
  have hw6 := hP.w6
  have hn2 := hP.2.1.2.2.2.1
  have hn12 := hP.2.1.2.2.2.2
  obtain ⟨m, L0, hg, hGR, hkb⟩ := inv_gr hC hR hP
  have gG : ∀ N : Mm, quX M N → GR N A.g.1 m L0 (M.1 129) (M.1 130) (M.1 131) (M.1 132) := fun N h => by unfold GR kbR; rw [h.at (k := 149) (by omega), h.at (k := 190) (by omega), h.at (k := 191) (by omega), h.at (k := 192) (by omega), h.at (k := 193) (by omega), h.at (k := 194) (by omega)]; exact hGR
  have gk : ∀ N : Mm, quX M N → kbR N m = kbX M m := fun N h => by rw [← hkb]; unfold kbR; rw [h.at (k := 194) (by omega)]
  have h64 : 2 ^ A.p.ct 0 ≤ 64 := Nat.pow_le_pow_right (n := 2) (by decide) hw6
  refine Mt.deep (k1 := 8) (tX11_set hg hX hF ⟨fun g0 => ?_, fun g0 N0 q0 => ?_⟩) (by decide)
  · exact ⟨rfl, _, rfl, Mt.deep (k1 := 11) (tX12_set hS hc hGR hR.1 ⟨fun _ K k => ⟨rfl, rfl, INV.qq hC hR hP quX.rf k⟩, fun g1 K k => absurd g0 g1⟩) (by decide)⟩
  · refine ⟨rfl, _, rfl, Mt.deep (k1 := 11) (tX12_set (hS.qx q0) hc (gG _ q0) (hR.qx q0).1 ⟨fun g1 K k => absurd g1 g0, fun _ K k => ⟨rfl, ?_, INV.qq hC hR hP q0 k⟩⟩) (by decide)⟩
    rw [gk _ q0]
    exact congrArg (fun z => some (Value.int z)) (congrArg (fun B => stK (sB B (2 ^ A.p.ct 0)) 64 0 x) (funext (fun i => soB_u (fun _ _ e => pas_u e) zsc_u)))
theorem sure_e {B B2 : Nat → Bool} {N w : Nat} (hN : N ≤ 64) (h : ∀ i, B i = B2 i) : (if (srK (sB B N) w 64 0 0 0).1 = 0 ∧ (srK (sB B N) w 64 0 0 0).2 = 0 then (-2 : Int32) else srA (srK (sB B N) w 64 0 0 0)) = (if bgS B2 N = 0 then -2 else srA (srK (sB B2 N) w 64 0 0 0)) := by
  obtain rfl : B = B2 := funext h
  by_cases q : bgS B N = 0
  · rw [if_pos q, if_pos ((sr_eq hN).mp q)]
  · rw [if_neg q, if_neg (fun g => q ((sr_eq hN).mpr g))]
theorem pr_sure {G : Gx} {l : Launch} {ly : Ly} {M : Mm} {x : Int32} (hI : INV ly M) : PrI G l ly mX11_sure mX12_sure [.int x] M := by
  obtain ⟨pl, ps, n, A, hC, hR, hP⟩ := hI
  have hX := inv_xs hC hR hP
  have hS := inv_rs hC hR hP
  have hc := inv_cas hC hP
  have hF := inv_hF hC hP
  have hw6 := hP.w6
  have hn2 := hP.2.1.2.2.2.1
  have hn12 := hP.2.1.2.2.2.2
  obtain ⟨m, L0, hg, hGR, hkb⟩ := inv_gr hC hR hP
  have gG : ∀ N : Mm, quX M N → GR N A.g.1 m L0 (M.1 129) (M.1 130) (M.1 131) (M.1 132) := fun N h => by unfold GR kbR; rw [h.at (k := 149) (by omega), h.at (k := 190) (by omega), h.at (k := 191) (by omega), h.at (k := 192) (by omega), h.at (k := 193) (by omega), h.at (k := 194) (by omega)]; exact hGR
  have gk : ∀ N : Mm, quX M N → kbR N m = kbX M m := fun N h => by rw [← hkb]; unfold kbR; rw [h.at (k := 194) (by omega)]
  have h64 : 2 ^ A.p.ct 0 ≤ 64 := Nat.pow_le_pow_right (n := 2) (by decide) hw6
  refine Mt.deep (k1 := 8) (tX11_sure hg hX hF ⟨fun g0 => ?_, fun w a0 e1 N0 q0 => ?_⟩) (by decide)
  · exact ⟨rfl, _, rfl, Mt.deep (k1 := 10) (tX12_sure hS hc hGR hR.1 ⟨fun _ K k => ⟨rfl, rfl, INV.qq hC hR hP quX.rf k⟩, fun w2 b0 f1 K k => absurd ⟨w2, b0, f1⟩ g0⟩) (by decide)⟩
  · refine ⟨rfl, _, rfl, Mt.deep (k1 := 10) (tX12_sure (hS.qx q0) hc (gG _ q0) (hR.qx q0).1 ⟨fun g0 K k => absurd ⟨w, a0, e1⟩ g0, fun w2 b0 f1 K k => ⟨rfl, ?_, INV.qq hC hR hP q0 k⟩⟩) (by decide)⟩
    obtain rfl : w2 = w := nI_inj (by omega) (by omega) (f1.symm.trans e1)
    rw [gk _ q0]
    exact congrArg (fun z => some (Value.int z)) (sure_e h64 (fun i => soB_u (fun _ _ e => pas_u e) zsc_u))
theorem pr_fits {G : Gx} {l : Launch} {ly : Ly} {M : Mm} (hI : INV ly M) : PrI G l ly mX11_fits mX12_fits [] M := by
  obtain ⟨pl, ps, n, A, hC, hR, hP⟩ := hI
  have hX := inv_xs hC hR hP
  have hS := inv_rs hC hR hP
  have hc := inv_cas hC hP
  have hF := inv_hF hC hP
  have hw6 := hP.w6
  have hn2 := hP.2.1.2.2.2.1
  have hn12 := hP.2.1.2.2.2.2
  obtain ⟨m, L0, hg, hGR, hkb⟩ := inv_gr hC hR hP
  have gG : ∀ N : Mm, quX M N → GR N A.g.1 m L0 (M.1 129) (M.1 130) (M.1 131) (M.1 132) := fun N h => by unfold GR kbR; rw [h.at (k := 149) (by omega), h.at (k := 190) (by omega), h.at (k := 191) (by omega), h.at (k := 192) (by omega), h.at (k := 193) (by omega), h.at (k := 194) (by omega)]; exact hGR
  have gk : ∀ N : Mm, quX M N → kbR N m = kbX M m := fun N h => by rw [← hkb]; unfold kbR; rw [h.at (k := 194) (by omega)]
  have h64 : 2 ^ A.p.ct 0 ≤ 64 := Nat.pow_le_pow_right (n := 2) (by decide) hw6
  have hct3 := hP.2.1.1.2.2.2.1
  have e3 : M.1 (pl + 1) 3 = nI (A.p.ct 3) := hC.2.2.2.2.1.2.1 3 (by decide)
  have hmu : ∀ i, i < 3 → M.1 (pl + 25 + 3 * i) 0 = nI ((A.p.lw (2 + i)).length) ∧ (A.p.lw (2 + i)).length ≤ 64 := fun i hi => by
    have h5 := (hC.2.2.2.2.1.2.2.2.2 (2 + i) (by omega)).1
    rw [show pl + laO (2 + i) = pl + 25 + 3 * i by unfold laO; rw [if_neg (by omega), if_neg (by omega)]; omega] at h5
    exact ⟨h5, hR.2.2.2.1.len hP.2.1.1 (by omega)⟩
  have f3 : ∀ N : Mm, quX M N → N.1 151 9 = nI (A.p.ct 3) := fun N h => by rw [h.at (by omega)]; exact hR.2.2.2.1.2.1 3 (by decide)
  refine Mt.deep (k1 := 7) (tX11_fits (mu := fun i => (A.p.lw (2 + i)).length) ⟨e3, hct3⟩ hmu hg hX hF (fun N0 q0 => ?_)) (by decide)
  refine ⟨rfl, _, rfl, Mt.deep (k1 := 9) (tX12_fits (hS.qx q0) hc ⟨f3 _ q0, hct3⟩ (gG _ q0) (hR.qx q0).1 (fun K k => ⟨rfl, ?_, INV.qq hC hR hP q0 k⟩)) (by decide)⟩
  rw [gk _ q0]
  refine congrArg (fun z => some (Value.int z)) (congrArg (fun B => ftS B (A.p.ct 3 + 1)) (funext (fun i => ?_)))
  by_cases hi : i < A.p.ct 3
  · rw [if_pos hi, show lkN (A.p.ct 3) i = 2 + i from if_pos hi, show clL M.1 pl A.p (2 + i) = (M.1 (pl + 25 + 3 * i + 1), (A.p.lw (2 + i)).length) from by unfold clL laO; rw [if_neg (by omega), if_neg (by omega), show pl + (19 + 3 * (2 + i)) + 1 = pl + 25 + 3 * i + 1 by omega]]
    exact soB_u (fun _ _ e => pas_u e) zsc_u
  · rw [if_neg hi, show lkN (A.p.ct 3) i = 0 from if_neg hi]
    exact soB_u (fun _ _ e => pas_u e) zsc_u
theorem pr_cell {G : Gx} {l : Launch} {ly : Ly} {M : Mm} {x y : Int32} (hI : INV ly M) : PrI G l ly mX11_cell mX12_cell [.int x, .int y] M := by
  obtain ⟨pl, ps, n, A, hC, hR, hP⟩ := hI
  have hX := inv_xs hC hR hP
  have hS := inv_rs hC hR hP
  have hc := inv_cas hC hP
  have hF := inv_hF hC hP
  have hw6 := hP.w6
  have hn2 := hP.2.1.2.2.2.1
  have hn12 := hP.2.1.2.2.2.2
  refine Mt.deep (k1 := 2) (tX11_cell hX ⟨fun g0 => ?_, fun c a0 e1 => ?_⟩) (by decide)
  · exact ⟨rfl, _, rfl, Mt.deep (k1 := 2) (tX12_cell hS hc hR.1 ⟨fun _ K k => ⟨rfl, rfl, INV.qq hC hR hP quX.rf k⟩, fun c2 b0 f1 K k => absurd ⟨c2, b0, f1⟩ g0⟩) (by decide)⟩
  · refine ⟨rfl, _, rfl, Mt.deep (k1 := 2) (tX12_cell hS hc hR.1 ⟨fun g0 K k => absurd ⟨c, a0, e1⟩ g0, fun c2 b0 f1 K k => ⟨rfl, ?_, INV.qq hC hR hP quX.rf k⟩⟩) (by decide)⟩
    obtain rfl : c2 = c := nI_inj (by omega) (by omega) (f1.symm.trans e1)
    rfl
theorem pr_law {G : Gx} {l : Launch} {ly : Ly} {M : Mm} {x y z v : Int32} (hI : INV ly M) : PrL G l ly mX11_law mX12_law [.int x, .int y, .int z, .int v] M := by
  obtain ⟨pl, ps, n, A, hC, hR, hP⟩ := hI
  have hX := inv_xs hC hR hP
  have hS := inv_rs hC hR hP
  have hc := inv_cas hC hP
  have hF := inv_hF hC hP
  have hw6 := hP.w6
  have hn2 := hP.2.1.2.2.2.1
  have hn12 := hP.2.1.2.2.2.2
  have ht : M.1 75 14 = nI A.X.t := hS.2.1.2.2.2.2.2.2.1.2
  refine Mt.deep (k1 := 4) (tX11_law hX ⟨fun g0 => ?_, fun w c a1 a2 e1 a3 e2 a4 N0 q0 => ?_⟩) (by decide)
  · exact ⟨rfl, _, rfl, Mt.deep (k1 := 4) (tX12_law hS hc hR.1 ⟨fun _ K k => ⟨rfl, rfl, INV.qq hC hR hP quX.rf k⟩, fun j2 w2 c2 b0 f0 b1 f1 b2 f2 b3 K k => absurd ⟨(rgN (a := 0) (b := 1) (Nat.zero_le _) (show j2 ≤ 1 by omega) (by decide) f0), ⟨w2, b1, f1⟩, ⟨c2, b2, f2⟩, b3⟩ g0⟩) (by decide)⟩
  · refine ⟨rfl, _, rfl, Mt.deep (k1 := 4) (tX12_law (hS.qx q0) hc (hR.qx q0).1 ⟨fun g0 K k => absurd ⟨a1, ⟨w, a2, e1⟩, ⟨c, a3, e2⟩, a4⟩ g0, fun j2 w2 c2 b0 f0 b1 f1 b2 f2 b3 K k => ⟨rfl, ?_, INV.qq hC hR hP q0 k⟩⟩) (by decide)⟩
    obtain rfl : w2 = w := nI_inj (by omega) (by omega) (f1.symm.trans e1)
    obtain rfl : c2 = c := nI_inj (by omega) (by omega) (f2.symm.trans e2)
    rw [ht]
    rcases (show j2 = 0 ∨ j2 = 1 by omega) with rfl | rfl
    · rw [if_pos (show x = 0 from f0)]
      rfl
    · rw [if_neg (show ¬ x = 0 by rw [f0]; decide)]
      rfl
theorem wasF_c {x t : Int32} {g g2 : Nat → Int32} (h : eqN 60 g g2) : wasF x t g = wasF x t g2 := by
  unfold wasF
  by_cases hx : x < 0
  · rw [if_pos hx, if_pos hx]
  · rw [if_neg hx, if_neg hx]
    obtain ⟨j, hj, rfl⟩ := nI_of hx
    rw [fmd60 hj, nI_clamp (by omega), h (j % 60) (by omega)]
theorem pr_was {G : Gx} {l : Launch} {ly : Ly} {M : Mm} {x : Int32} (hI : INV ly M) : PrI G l ly mX11_was mX12_was [.int x] M := by
  obtain ⟨pl, ps, n, A, hC, hR, hP⟩ := hI
  have hX := inv_xs hC hR hP
  have hS := inv_rs hC hR hP
  have hc := inv_cas hC hP
  have hF := inv_hF hC hP
  have hw6 := hP.w6
  have hn2 := hP.2.1.2.2.2.1
  have hn12 := hP.2.1.2.2.2.2
  have ht : M.1 75 14 = nI A.X.t := hS.2.1.2.2.2.2.2.2.1.2
  refine Mt.deep (k1 := 3) (tX11_was hX ?_) (by decide)
  refine ⟨rfl, _, rfl, Mt.deep (k1 := 0) (tX12_was hS hc hR.1 (fun K k => ⟨rfl, ?_, INV.qq hC hR hP quX.rf k⟩)) (by decide)⟩
  rw [ht, show M.1 126 = A.h from hC.2.2.2.2.2.2.1]
  exact congrArg (fun z => some (Value.int z)) (wasF_c hR.2.2.2.2.2.1)
theorem pr_count {G : Gx} {l : Launch} {ly : Ly} {M : Mm} {x : Int32} (hI : INV ly M) : PrI G l ly mX11_count mX12_count [.int x] M := by
  obtain ⟨pl, ps, n, A, hC, hR, hP⟩ := hI
  have hX := inv_xs hC hR hP
  have hS := inv_rs hC hR hP
  have hc := inv_cas hC hP
  have hF := inv_hF hC hP
  have hw6 := hP.w6
  have hn2 := hP.2.1.2.2.2.1
  have hn12 := hP.2.1.2.2.2.2
  obtain ⟨lx, hlx, elx⟩ := hP.2.2.1.2.2.2.2
  have n1 := hC.2.2.2.2.2.1
  have c1 := hC.2.2.2.2.1
  have r1 := hR.2.2.2.1
  have g1 := hC.2.2.2.2.2.2.2.1
  have g2 := hR.2.2.2.2.2.2.1
  have d1 := hC.2.2.2.2.2.2.2.2.1
  have d2 := hR.2.2.2.2.2.2.2.1
  have m1 := hR.2.2.2.2.1
  refine Mt.deep (k1 := 4) (tX11_count hX ?_) (by decide)
  refine ⟨rfl, _, rfl, Mt.deep (k1 := 3) (tX12_count hS hc hR.1 (fun K k => ⟨rfl, ?_, INV.qq hC hR hP quX.rf k⟩)) (by decide)⟩
  refine congrArg (fun z => some (Value.int z)) ?_
  unfold cntR cntF
  rw [c1.1.1, c1.2.1 0 (by decide), n1.2.2.2.2.2.1, c1.2.1 2 (by decide), c1.2.1 3 (by decide), c1.1.2.2.2.2.2.2.2.2, show M.1 75 14 = nI A.X.t from hS.2.1.2.2.2.2.2.2.1.2, g1.1, g1.2.1, d1.1, hP.2.1.2.2.1, show M.1 151 8 = nI (A.p.ct 2) from r1.2.1 2 (by decide), show M.1 151 9 = nI (A.p.ct 3) from r1.2.1 3 (by decide), r1.2.2.2.2.2, g2.1, g2.2.1, d2.1, m1.2.2, n1.2.2.1]
  have e7 : M.1 75 7 = nI lx := by
    have w := elx
    rw [n1.2.1] at w
    exact w
  rw [show (vS M.1 75).2.2.2.2.2.1 = nI lx from e7, e7, pcI_bc hlx]
  rfl
theorem pr_fault {G : Gx} {l : Launch} {ly : Ly} {M : Mm} {x : Int32} (hI : INV ly M) : PrI G l ly mX11_fault mX12_fault [.int x] M := by
  obtain ⟨pl, ps, n, A, hC, hR, hP⟩ := hI
  have hX := inv_xs hC hR hP
  have hS := inv_rs hC hR hP
  have hc := inv_cas hC hP
  have hF := inv_hF hC hP
  have hw6 := hP.w6
  have hn2 := hP.2.1.2.2.2.1
  have hn12 := hP.2.1.2.2.2.2
  refine Mt.deep (k1 := 1) (Mt.post (tX11_fault hC.1 hC.2.1.2.1 hC.p7) (fun v l1 N hq => ?_)) (by decide)
  obtain ⟨rfl, rfl, rfl⟩ := hq
  refine ⟨rfl, _, rfl, Mt.deep (k1 := 0) (tX12_fault hR.1 (fun K k => ⟨rfl, ?_, INV.qq hC hR hP quX.rf k⟩)) (by decide)⟩
  rw [hC.2.2.2.1.1, hC.2.2.2.1.2, hR.2.2.1.1, hR.2.2.1.2]
theorem pr_named {G : Gx} {l : Launch} {ly : Ly} {M : Mm} {x y : Int32} (hI : INV ly M) : PrI G l ly mX11_named mX12_named [.int x, .int y] M := by
  obtain ⟨pl, ps, n, A, hC, hR, hP⟩ := hI
  have hX := inv_xs hC hR hP
  have hS := inv_rs hC hR hP
  have hc := inv_cas hC hP
  have hF := inv_hF hC hP
  have hw6 := hP.w6
  have hn2 := hP.2.1.2.2.2.1
  have hn12 := hP.2.1.2.2.2.2
  have ct := hP.2.1.1
  have hcC : ∀ k, k < 4 → M.1 (pl + 1) k = nI (A.p.ct k) ∧ A.p.ct k ≤ 6 := fun k hk => ⟨hC.2.2.2.2.1.2.1 k hk, by
    obtain ⟨t0, t1, t2, t3, _⟩ := ct
    match k, hk with
    | 0, _ => omega
    | 1, _ => omega
    | 2, _ => omega
    | 3, _ => omega⟩
  have hcR : ∀ k, k < 4 → M.1 151 (6 + k) = nI (A.p.ct k) := hR.2.2.2.1.2.1
  have nmE : ∀ k, k < 4 → ∀ rc, rCl (k + 1) = rc → wdF (fun j => decide (M.1 rc (0 + j) = y)) (A.p.ct k) 0 = wdF (fun j => decide (M.1 (pl + 3 + k) j = y)) (A.p.ct k) 0 := fun k hk rc hrc => wdF_E (A.p.ct k) 0 (fun j _ hj => by
    have hkn : knD (k + 1) = k := by match k, hk with | 0, _ => rfl | 1, _ => rfl | 2, _ => rfl | 3, _ => rfl
    have hco : cOf (k + 1) = 3 + k := by match k, hk with | 0, _ => rfl | 1, _ => rfl | 2, _ => rfl | 3, _ => rfl
    have h1 := hC.2.2.2.2.1.2.2.2.1 (k + 1) (by omega) (by omega) j (by rw [hkn]; omega)
    have h2 := hR.2.2.2.1.2.2.1 (k + 1) (by omega) (by omega) j (by rw [hkn]; omega) (fun g => absurd g (by omega))
    rw [hco, ← Nat.add_assoc] at h1
    rw [hrc] at h2
    show decide (M.1 rc (0 + j) = y) = decide (M.1 (pl + 3 + k) j = y)
    rw [Nat.zero_add, h1, h2])
  refine Mt.deep (k1 := 1) (tX11_named hC.p7 hC.2.1.2.1 hcC hC.1 ⟨fun g0 => ?_, fun k hk e1 => ?_⟩) (by decide)
  · refine ⟨rfl, _, rfl, Mt.deep (k1 := 1) (tX12_named hcR ⟨ct.1, ct.2.1, ct.2.2.1, ct.2.2.2.1⟩ hR.1 ⟨fun _ => ⟨rfl, rfl, INV.qq hC hR hP quX.rf qR.rf.f0⟩, fun h => ?_, fun h => ?_, fun h => ?_, fun h => ?_⟩) (by decide)⟩ <;> exact absurd g0 (by rw [h]; decide)
  · refine ⟨rfl, _, rfl, Mt.deep (k1 := 1) (tX12_named hcR ⟨ct.1, ct.2.1, ct.2.2.1, ct.2.2.2.1⟩ hR.1 ⟨fun g0 => ?_, fun h => ⟨rfl, by rw [show k = 0 from nI_inj (by omega) (by decide) (e1.symm.trans h)]; exact congrArg (fun z => some (Value.int z)) (nmE 0 (by decide) 152 rfl), INV.qq hC hR hP quX.rf qR.rf.f0⟩, fun h => ⟨rfl, by rw [show k = 1 from nI_inj (by omega) (by decide) (e1.symm.trans h)]; exact congrArg (fun z => some (Value.int z)) (nmE 1 (by decide) 158 rfl), INV.qq hC hR hP quX.rf qR.rf.f0⟩, fun h => ⟨rfl, by rw [show k = 2 from nI_inj (by omega) (by decide) (e1.symm.trans h)]; exact congrArg (fun z => some (Value.int z)) (nmE 2 (by decide) 161 rfl), INV.qq hC hR hP quX.rf qR.rf.f0⟩, fun h => ⟨rfl, by rw [show k = 3 from nI_inj (by omega) (by decide) (e1.symm.trans h)]; exact congrArg (fun z => some (Value.int z)) (nmE 3 (by decide) 164 rfl), INV.qq hC hR hP quX.rf qR.rf.f0⟩⟩) (by decide)⟩
    rw [e1] at g0
    exact absurd g0 (fun g => g.elim (fun g => absurd g (nI_pos (by omega))) (fun g => absurd ((nI_leI (a := 4) (b := k) (by decide) (by omega)).mp g) (by omega)))
