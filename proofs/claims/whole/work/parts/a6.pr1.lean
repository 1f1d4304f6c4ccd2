theorem pr_high {G : Gx} {l : Launch} {ly : Ly} {M : Mm} {x : Int32}  (hI : INV ly M) : PrI G l ly mX11_high mX12_high [.int x] M := by
  obtain ⟨pl, ps, n, A, hC, hR, hP⟩ := hI
  have hX := inv_xs hC hR hP
  have hS := inv_rs hC hR hP
  have hc := inv_cas hC hP
  have hF := inv_hF hC hP
  have hw6 := hP.w6
  have hn2 := hP.2.1.2.2.2.1
  have hn12 := hP.2.1.2.2.2.2
  refine Mt.deep (k1 := 7) (tX11_high hX ⟨fun g0 => ?_, fun N a1 a2 e1 N0 q0 => ?_⟩) (by decide)
  · exact ⟨rfl, _, rfl, Mt.deep (k1 := 10) (tX12_high (hS.qx quX.rf) hc (hR.qx quX.rf).1 ⟨fun _ K k => ⟨rfl, rfl, INV.qq hC hR hP quX.rf k⟩, fun N2 b1 b2 f1 K k => absurd (rgN (a := 1) (b := 64) b1 b2 (by decide) f1) g0⟩) (by decide)⟩
  · refine ⟨rfl, _, rfl, Mt.deep (k1 := 10) (tX12_high (hS.qx q0) hc (hR.qx q0).1 ⟨fun g0 K k => absurd (rgN (a := 1) (b := 64) a1 a2 (by decide) e1) g0, fun N2 b1 b2 f1 K k => ⟨rfl, ?_, INV.qq hC hR hP q0 k⟩⟩) (by decide)⟩
    obtain rfl : N2 = N := nI_inj (by omega) (by omega) (f1.symm.trans e1)
    exact congrArg (fun z => some (Value.int z)) (hgS_u (fun _ _ e => pas_u e) uE.rf N2)
theorem pr_owes {G : Gx} {l : Launch} {ly : Ly} {M : Mm} {x y : Int32}  (hI : INV ly M) : PrI G l ly mX11_owes mX12_owes [.int x, .int y] M := by
  obtain ⟨pl, ps, n, A, hC, hR, hP⟩ := hI
  have hX := inv_xs hC hR hP
  have hS := inv_rs hC hR hP
  have hc := inv_cas hC hP
  have hF := inv_hF hC hP
  have hw6 := hP.w6
  have hn2 := hP.2.1.2.2.2.1
  have hn12 := hP.2.1.2.2.2.2
  refine Mt.deep (k1 := 8) (tX11_owes hX hF ⟨fun g0 => ?_, fun w N a0 d1 a1 a2 e1 N0 q0 => ?_⟩) (by decide)
  · exact ⟨rfl, _, rfl, Mt.deep (k1 := 10) (tX12_owes (hS.qx quX.rf) hc (hR.qx quX.rf).1 ⟨fun _ K k => ⟨rfl, rfl, INV.qq hC hR hP quX.rf k⟩, fun w2 N2 b0 f0 b1 b2 f1 K k => absurd ⟨⟨w2, b0, f0⟩, (rgN (a := 1) (b := 64) b1 b2 (by decide) f1)⟩ g0⟩) (by decide)⟩
  · refine ⟨rfl, _, rfl, Mt.deep (k1 := 10) (tX12_owes (hS.qx q0) hc (hR.qx q0).1 ⟨fun g0 K k => absurd ⟨⟨w, a0, d1⟩, (rgN (a := 1) (b := 64) a1 a2 (by decide) e1)⟩ g0, fun w2 N2 b0 f0 b1 b2 f1 K k => ⟨rfl, ?_, INV.qq hC hR hP q0 k⟩⟩) (by decide)⟩
    obtain rfl : w2 = w := nI_inj (by omega) (by omega) (f0.symm.trans d1)
    obtain rfl : N2 = N := nI_inj (by omega) (by omega) (f1.symm.trans e1)
    exact congrArg (fun z => some (Value.int z)) (cg2 (fun a b => mx 0 (a - b)) (hgS_u (fun _ _ e => pas_u e) uE.rf N2) (hgS_u (fun _ _ e => pas_u e) uE.rf N2))
theorem pr_cancel {G : Gx} {l : Launch} {ly : Ly} {M : Mm} {x y z : Int32}  (hI : INV ly M) : PrI G l ly mX11_cancel mX12_cancel [.int x, .int y, .int z] M := by
  obtain ⟨pl, ps, n, A, hC, hR, hP⟩ := hI
  have hX := inv_xs hC hR hP
  have hS := inv_rs hC hR hP
  have hc := inv_cas hC hP
  have hF := inv_hF hC hP
  have hw6 := hP.w6
  have hn2 := hP.2.1.2.2.2.1
  have hn12 := hP.2.1.2.2.2.2
  refine Mt.deep (k1 := 8) (tX11_cancel hX ⟨fun g0 => ?_, fun a b N a0 d0 a1 d1 a2 a3 a4 d2 N0 q0 => ?_⟩) (by decide)
  · exact ⟨rfl, _, rfl, Mt.deep (k1 := 10) (tX12_cancel (hS.qx quX.rf) hc (hR.qx quX.rf).1 ⟨fun _ K k => ⟨rfl, rfl, INV.qq hC hR hP quX.rf k⟩, fun a9 b9 N2 b0 f0 b1 f1 b2 b3 b4 f2 K k => absurd ⟨⟨a9, b0, f0⟩, ⟨b9, b1, f1⟩, (fun e => b2 (nI_inj (by omega) (by omega) (f0.symm.trans (e.trans f1)))), (rgN (a := 1) (b := 64) b3 b4 (by decide) f2)⟩ g0⟩) (by decide)⟩
  · refine ⟨rfl, _, rfl, Mt.deep (k1 := 10) (tX12_cancel (hS.qx q0) hc (hR.qx q0).1 ⟨fun g0 K k => absurd ⟨⟨a, a0, d0⟩, ⟨b, a1, d1⟩, (fun e => a2 (nI_inj (by omega) (by omega) (d0.symm.trans (e.trans d1)))), (rgN (a := 1) (b := 64) a3 a4 (by decide) d2)⟩ g0, fun a9 b9 N2 b0 f0 b1 f1 b2 b3 b4 f2 K k => ⟨rfl, ?_, INV.qq hC hR hP q0 k⟩⟩) (by decide)⟩
    obtain rfl : a9 = a := nI_inj (by omega) (by omega) (f0.symm.trans d0)
    obtain rfl : b9 = b := nI_inj (by omega) (by omega) (f1.symm.trans d1)
    obtain rfl : N2 = N := nI_inj (by omega) (by omega) (f2.symm.trans d2)
    exact congrArg (fun z => some (Value.int z)) (cg3 (fun a b c => a + b - c) (hgS_u (fun _ _ e => pas_u e) zsc_u N2) (hgS_u (fun _ _ e => pas_u e) zsc_u N2) (hgS_u (fun _ _ e => pas_u e) zsc_u N2))
theorem pr_gales {G : Gx} {l : Launch} {ly : Ly} {M : Mm} {x y z : Int32}  (hI : INV ly M) : PrI G l ly mX11_gales mX12_gales [.int x, .int y, .int z] M := by
  obtain ⟨pl, ps, n, A, hC, hR, hP⟩ := hI
  have hX := inv_xs hC hR hP
  have hS := inv_rs hC hR hP
  have hc := inv_cas hC hP
  have hF := inv_hF hC hP
  have hw6 := hP.w6
  have hn2 := hP.2.1.2.2.2.1
  have hn12 := hP.2.1.2.2.2.2
  refine Mt.deep (k1 := 8) (tX11_gales hX hF ⟨fun g0 => ?_, fun N a1 a2 e1 a3 a4 N0 q0 => ?_⟩) (by decide)
  · exact ⟨rfl, _, rfl, Mt.deep (k1 := 8) (tX12_gales (hS.qx quX.rf) hc (hR.qx quX.rf).1 ⟨fun _ K k => ⟨rfl, rfl, INV.qq hC hR hP quX.rf k⟩, fun N2 b1 b2 f1 b3 b4 K k => absurd ⟨b3, (rgN (a := 1) (b := 32) b1 b2 (by decide) f1), b4⟩ g0⟩) (by decide)⟩
  · refine ⟨rfl, _, rfl, Mt.deep (k1 := 8) (tX12_gales (hS.qx q0) hc (hR.qx q0).1 ⟨fun g0 K k => absurd ⟨a3, (rgN (a := 1) (b := 32) a1 a2 (by decide) e1), a4⟩ g0, fun N2 b1 b2 f1 b3 b4 K k => ⟨rfl, ?_, INV.qq hC hR hP q0 k⟩⟩) (by decide)⟩
    obtain rfl : N2 = N := nI_inj (by omega) (by omega) (f1.symm.trans e1)
    rfl
theorem pr_forbidden {G : Gx} {l : Launch} {ly : Ly} {M : Mm} {x y z : Int32}  (hI : INV ly M) : PrI G l ly mX11_forbidden mX12_forbidden [.int x, .int y, .int z] M := by
  obtain ⟨pl, ps, n, A, hC, hR, hP⟩ := hI
  have hX := inv_xs hC hR hP
  have hS := inv_rs hC hR hP
  have hc := inv_cas hC hP
  have hF := inv_hF hC hP
  have hw6 := hP.w6
  have hn2 := hP.2.1.2.2.2.1
  have hn12 := hP.2.1.2.2.2.2
  refine Mt.deep (k1 := 7) (tX11_forbidden hX hF ⟨fun g0 => ?_, fun N a1 a2 e1 a3 a4 N0 q0 => ?_⟩) (by decide)
  · exact ⟨rfl, _, rfl, Mt.deep (k1 := 9) (tX12_forbidden (hS.qx quX.rf) hc (hR.qx quX.rf).1 ⟨fun _ K k => ⟨rfl, rfl, INV.qq hC hR hP quX.rf k⟩, fun N2 b1 b2 f1 b3 b4 K k => absurd ⟨(rgN (a := 1) (b := 64) b1 b2 (by decide) f1), b3, b4⟩ g0⟩) (by decide)⟩
  · refine ⟨rfl, _, rfl, Mt.deep (k1 := 9) (tX12_forbidden (hS.qx q0) hc (hR.qx q0).1 ⟨fun g0 K k => absurd ⟨(rgN (a := 1) (b := 64) a1 a2 (by decide) e1), a3, a4⟩ g0, fun N2 b1 b2 f1 b3 b4 K k => ⟨rfl, ?_, INV.qq hC hR hP q0 k⟩⟩) (by decide)⟩
    obtain rfl : N2 = N := nI_inj (by omega) (by omega) (f1.symm.trans e1)
    refine congrArg (fun z => some (Value.int z)) (congrArg (fun r : Int32 × Int32 => if z = 0 then r.1 else r.2) (fbS_u (fun i a b e => ?_) zsc_u 9))
    unfold TR TG
    rw [show Jc y (nI i) 1 = (Wj y i).1 from rfl, show Jc y (nI i) 2 = (Wj y i).2.1 from rfl, show Jc y (nI i) 3 = (Wj y i).2.2.1 from rfl, show Jc y (nI i) 4 = (Wj y i).2.2.2.1 from rfl, show Jc y (nI i) 5 = (Wj y i).2.2.2.2 from rfl]
    exact pas_u e
theorem pr_pump {G : Gx} {l : Launch} {ly : Ly} {M : Mm} {x F z v : Int32}  (hI : INV ly M) : PrI G l ly mX11_pump mX12_pump [.int x, .int F, .int z, .int v] M := by
  obtain ⟨pl, ps, n, A, hC, hR, hP⟩ := hI
  have hX := inv_xs hC hR hP
  have hS := inv_rs hC hR hP
  have hc := inv_cas hC hP
  have hF := inv_hF hC hP
  have hw6 := hP.w6
  have hn2 := hP.2.1.2.2.2.1
  have hn12 := hP.2.1.2.2.2.2
  refine Mt.deep (k1 := 8) (tX11_pump hX hF ⟨fun g0 => ?_, fun c N a0 d0 a1 a2 a3 d1 a4 N0 q0 => ?_⟩) (by decide)
  · exact ⟨rfl, _, rfl, Mt.deep (k1 := 9) (tX12_pump (hS.qx quX.rf) hc (hR.qx quX.rf).1 ⟨fun _ K k => ⟨rfl, rfl, INV.qq hC hR hP quX.rf k⟩, fun c2 N2 b0 f0 b1 b2 b3 f1 b4 K k => absurd ⟨⟨c2, b0, f0⟩, b1, (rgN (a := 1) (b := 7) b2 b3 (by decide) f1), b4⟩ g0⟩) (by decide)⟩
  · refine ⟨rfl, _, rfl, Mt.deep (k1 := 9) (tX12_pump (hS.qx q0) hc (hR.qx q0).1 ⟨fun g0 K k => absurd ⟨⟨c, a0, d0⟩, a1, (rgN (a := 1) (b := 7) a2 a3 (by decide) d1), a4⟩ g0, fun c2 N2 b0 f0 b1 b2 b3 f1 b4 K k => ⟨rfl, ?_, INV.qq hC hR hP q0 k⟩⟩) (by decide)⟩
    obtain rfl : c2 = c := nI_inj (by omega) (by omega) (f0.symm.trans d0)
    obtain rfl : N2 = N := nI_inj (by omega) (by omega) (f1.symm.trans d1)
    obtain ⟨k9, hk9⟩ : ∃ k9 : Nat, 2 ^ N2 = k9 + 1 := ⟨2 ^ N2 - 1, by have := Nat.two_pow_pos N2; omega⟩
    rw [hk9]
    exact congrArg (fun z => some (Value.int z)) (cg2 (fun a b => if v = 0 then a else b) (pmG_u (fun _ _ e => pas_u e) uE.rf (k9 + 1)) (pmB_u (fun _ _ e => pas_u e) uE.rf k9))
/-- the calms with a keeper -/
def cakF (c0 : Int32) (fc fk : Nat → Int32) (nf : Nat) (y : Int32) (q : Nat) : Nat → Int32 := if 1 ≤ y ∧ y ≤ 99 then rfC c0 (upd fc nf (nI q)) (upd fk nf y) (fun _ => 0) (nf + 1) else fun c => mn 100 (cmR c0 (upd fc nf (nI q)) (upd fk nf y) (nI c) (nf + 1))
theorem y_of {y : Int32} (h : 1 ≤ y ∧ y ≤ 99) : ∃ k : Nat, y = nI k ∧ k ≤ 99 := by
  obtain ⟨j, h1, h2, e⟩ := nat_of (b := 99) (k := 99) rfl (by decide) h.1 h.2
  exact ⟨j, e, h2⟩
theorem cak_ok {ly : Ly} {M : Mm} {pl ps n : Nat} {A : Ab} (hC : CA ly M pl ps A) (hP : PA n A) (y : Int32) : ∀ q, q < n → A.X.nf < 8 → cas n (A.X.nf + 1) (M.1 pl 3) (upd (M.1 88) A.X.nf (nI q)) (upd (M.1 89) A.X.nf y) (cakF (M.1 pl 3) (M.1 88) (M.1 89) A.X.nf y q) := by
  intro q hq hnf
  have hn := hP.2.1.2.2.2.2
  unfold cakF
  split
  · rename_i hy
    obtain ⟨ky, ey, hky⟩ := y_of hy
    obtain ⟨v, hv, hv9⟩ := inv_c0 hP
    have n1 := hC.2.2.2.2.2.1
    rw [show M.1 88 = A.X.fc from n1.2.2.2.2.2.2.1.symm, show M.1 89 = A.X.fk from n1.2.2.2.2.2.2.2.1.symm, show M.1 pl 3 = A.p.D 0 3 from hC.2.2.2.2.1.1.2.2.2.1]
    refine rf_cas hn hv hv9 (by omega) (fun i hi => ?_)
    by_cases e : i = A.X.nf
    · subst e
      rw [pk_us, pk_us]
      exact ⟨q, ky, rfl, by omega, ey, hky⟩
    · rw [pk_un e, pk_un e]
      exact inv_ff hP i (by omega)
  · intro c hc
    rfl
theorem kpS_c {g g2 : Nat → Int32} (h : ∀ q, g q = g2 q) (n : Nat) : kpS g n = kpS g2 n := by rw [show g = g2 from funext h]
theorem pr_keeper {G : Gx} {l : Launch} {ly : Ly} {M : Mm} {x F z y v : Int32}  (hI : INV ly M) : PrI G l ly mX11_keeper mX12_keeper [.int x, .int F, .int z, .int y, .int v] M := by
  obtain ⟨pl, ps, n, A, hC, hR, hP⟩ := hI
  have hX := inv_xs hC hR hP
  have hS := inv_rs hC hR hP
  have hc := inv_cas hC hP
  have hF := inv_hF hC hP
  have hw6 := hP.w6
  have hn2 := hP.2.1.2.2.2.1
  have hn12 := hP.2.1.2.2.2.2
  refine Mt.deep (k1 := 8) (tX11_keeper hX hF ⟨fun g0 => ?_, fun c N a0 d0 a1 a2 a3 d1 a4 a5 a6 N0 q0 => ?_⟩) (by decide)
  · exact ⟨rfl, _, rfl, Mt.deep (k1 := 9) (tX12_keeper (cak := cakF (M.1 pl 3) (M.1 88) (M.1 89) A.X.nf y) (hS.qx quX.rf) hc (by omega) hF.2.1 (cak_ok hC hP y) (hR.qx quX.rf).1 ⟨fun _ K k => ⟨rfl, rfl, INV.qq hC hR hP quX.rf k⟩, fun c2 N2 b0 f0 b1 b2 b3 f1 b4 b5 b6 K k => absurd ⟨⟨c2, b0, f0⟩, b1, (rgN (a := 1) (b := 5) b2 b3 (by decide) f1), b4, b5, b6⟩ g0⟩) (by decide)⟩
  · refine ⟨rfl, _, rfl, Mt.deep (k1 := 9) (tX12_keeper (cak := cakF (M.1 pl 3) (M.1 88) (M.1 89) A.X.nf y) (hS.qx q0) hc (by omega) hF.2.1 (cak_ok hC hP y) (hR.qx q0).1 ⟨fun g0 K k => absurd ⟨⟨c, a0, d0⟩, a1, (rgN (a := 1) (b := 5) a2 a3 (by decide) d1), a4, a5, a6⟩ g0, fun c2 N2 b0 f0 b1 b2 b3 f1 b4 b5 b6 K k => ⟨rfl, ?_, INV.qq hC hR hP q0 k⟩⟩) (by decide)⟩
    obtain rfl : c2 = c := nI_inj (by omega) (by omega) (f0.symm.trans d0)
    obtain rfl : N2 = N := nI_inj (by omega) (by omega) (f1.symm.trans d1)
    refine congrArg (fun z => some (Value.int z)) (congrArg (fun r : Int32 × Int32 => if v = 0 then r.1 else r.2) (kpS_c (fun q => ?_) n))
    have e9 : cakF (M.1 pl 3) (M.1 88) (M.1 89) A.X.nf y q = rfC (M.1 pl 3) (upd (M.1 88) A.X.nf (nI q)) (upd (M.1 89) A.X.nf y) (fun _ => 0) (A.X.nf + 1) := if_pos a4
    rw [e9]
    exact pmG_u (fun _ _ e => pas_u e) uE.rf (2 ^ N2)
/-- the calms with more who are fat -/
def cakkF (c0 : Int32) (ca fc fk : Nat → Int32) (nf : Nat) (y : Int32) (k : Nat) (a : Nat × Nat × Nat) : Nat → Int32 := if 1 ≤ y ∧ y ≤ 99 then caK c0 ca fc fk nf y a k else fun c => mn 100 (cmR c0 (fcK fc nf a k) (fkK fk nf y k) (nI c) (nf + k))
theorem fcK_at {fc fk : Nat → Int32} {nf n : Nat} {y : Int32} {a : Nat × Nat × Nat} {ky : Nat} (ey : y = nI ky) (hky : ky ≤ 99) (h1 : a.1 < n) (h2 : a.2.1 < n) (h3 : a.2.2 < n) (hn : n ≤ 12) (hf : ∀ i, i < nf → ∃ ce k : Nat, fc i = nI ce ∧ ce < 12 ∧ fk i = nI k ∧ k ≤ 99) : ∀ k : Nat, ∀ i, i < nf + k → ∃ ce k2 : Nat, fcK fc nf a k i = nI ce ∧ ce < 12 ∧ fkK fk nf y k i = nI k2 ∧ k2 ≤ 99
  | 0, i, hi => hf i hi
  | k + 1, i, hi => by
    show ∃ ce k2 : Nat, upd (fcK fc nf a k) (nf + k) (nI (gt3 a k)) i = nI ce ∧ ce < 12 ∧ upd (fkK fk nf y k) (nf + k) y i = nI k2 ∧ k2 ≤ 99
    by_cases e : i = nf + k
    · subst e
      rw [pk_us, pk_us]
      refine ⟨gt3 a k, ky, rfl, ?_, ey, hky⟩
      unfold gt3
      split
      · omega
      · split <;> omega
    · rw [pk_un e, pk_un e]
      exact fcK_at ey hky h1 h2 h3 hn hf k i (by omega)
theorem cakk_ok {ly : Ly} {M : Mm} {pl ps n : Nat} {A : Ab} (hC : CA ly M pl ps A) (hP : PA n A) (y : Int32) : ∀ k, k ≤ 3 → A.X.nf + k ≤ 8 → ∀ a : Nat × Nat × Nat, a.1 < n → a.2.1 < n → a.2.2 < n → cas n (A.X.nf + k) (M.1 pl 3) (fcK (M.1 88) A.X.nf a k) (fkK (M.1 89) A.X.nf y k) (cakkF (M.1 pl 3) (M.1 90) (M.1 88) (M.1 89) A.X.nf y k a) := by
  intro k hk hk8 a h1 h2 h3
  have hn := hP.2.1.2.2.2.2
  unfold cakkF
  split
  · rename_i hy
    obtain ⟨ky, ey, hky⟩ := y_of hy
    obtain ⟨v, hv, hv9⟩ := inv_c0 hP
    have n1 := hC.2.2.2.2.2.1
    match k with
    | 0 => exact inv_cas hC hP
    | k + 1 =>
      show cas n (A.X.nf + (k + 1)) (M.1 pl 3) (fcK (M.1 88) A.X.nf a (k + 1)) (fkK (M.1 89) A.X.nf y (k + 1)) (rfC (M.1 pl 3) (fcK (M.1 88) A.X.nf a (k + 1)) (fkK (M.1 89) A.X.nf y (k + 1)) (fun _ => 0) (A.X.nf + (k + 1)))
      rw [show M.1 88 = A.X.fc from n1.2.2.2.2.2.2.1.symm, show M.1 89 = A.X.fk from n1.2.2.2.2.2.2.2.1.symm, show M.1 pl 3 = A.p.D 0 3 from hC.2.2.2.2.1.1.2.2.2.1]
      exact rf_cas hn hv hv9 (by omega) (fcK_at ey hky h1 h2 h3 hn (inv_ff hP) (k + 1))
  · intro c hc
    rfl
theorem lhF_c {g g2 : Nat × Nat × Nat → Int32} (h : ∀ q, g q = g2 q) (r : List (Nat × Nat × Nat)) (p : Int32 × Option (Nat × Nat × Nat)) : lhF g r p = lhF g2 r p := by rw [show g = g2 from funext h]
theorem fewF_c {g g2 : Nat → Int32} (h : ∀ q, g q = g2 q) (nf : Nat) (bd : Int32) (f k : Nat) : fewF nf g bd f k = fewF nf g2 bd f k := by rw [show g = g2 from funext h]
theorem pr_fewest {G : Gx} {l : Launch} {ly : Ly} {M : Mm} {x y bd : Int32}  (hI : INV ly M) : PrI G l ly mX11_fewest mX12_fewest [.int x, .int y, .int bd] M := by
  obtain ⟨pl, ps, n, A, hC, hR, hP⟩ := hI
  have hX := inv_xs hC hR hP
  have hS := inv_rs hC hR hP
  have hc := inv_cas hC hP
  have hF := inv_hF hC hP
  have hw6 := hP.w6
  have hn2 := hP.2.1.2.2.2.1
  have hn12 := hP.2.1.2.2.2.2
  refine Mt.deep (k1 := 8) (tX11_fewest hX hF ⟨fun g0 => ?_, fun N a1 a2 e1 a3 a4 N0 q0 => ?_⟩) (by decide)
  · exact ⟨rfl, _, rfl, Mt.deep (k1 := 10) (tX12_fewest (cakk := cakkF (M.1 pl 3) (M.1 90) (M.1 88) (M.1 89) A.X.nf y) (hS.qx quX.rf) hc (by omega) hF.2.1 (cakk_ok hC hP y) (hR.qx quX.rf).1 ⟨fun _ K k => ⟨rfl, rfl, INV.qq hC hR hP quX.rf k⟩, fun N2 b1 b2 f1 b3 b4 K k => absurd ⟨(rgN (a := 1) (b := 32) b1 b2 (by decide) f1), b3, b4⟩ g0⟩) (by decide)⟩
  · refine ⟨rfl, _, rfl, Mt.deep (k1 := 10) (tX12_fewest (cakk := cakkF (M.1 pl 3) (M.1 90) (M.1 88) (M.1 89) A.X.nf y) (hS.qx q0) hc (by omega) hF.2.1 (cakk_ok hC hP y) (hR.qx q0).1 ⟨fun g0 K k => absurd ⟨(rgN (a := 1) (b := 32) a1 a2 (by decide) e1), a3, a4⟩ g0, fun N2 b1 b2 f1 b3 b4 K k => ⟨rfl, ?_, INV.qq hC hR hP q0 k⟩⟩) (by decide)⟩
    obtain rfl : N2 = N := nI_inj (by omega) (by omega) (f1.symm.trans e1)
    refine congrArg (fun z => some (Value.int z)) (fewF_c (fun k => congrArg Prod.fst (lhF_c (fun a => ?_) _ _)) _ _ _ _)
    have e9 : cakkF (M.1 pl 3) (M.1 90) (M.1 88) (M.1 89) A.X.nf y k a = caK (M.1 pl 3) (M.1 90) (M.1 88) (M.1 89) A.X.nf y a k := if_pos a3
    rw [e9]
    exact hgS_u (fun _ _ e => pas_u e) uE.rf N2
