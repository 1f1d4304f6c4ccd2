theorem pr_blow {G : Gx} {l : Launch} {ly : Ly} {M : Mm} {x : Int32} (hx : x = 0 ∨ x = 1) (hI : INV ly M) : PrI G l ly mX11_blow mX12_blow [.int x] M := by
  obtain ⟨pl, ps, n, A, hC, hR, hP⟩ := hI
  have hX := inv_xs hC hR hP
  have hS := inv_rs hC hR hP
  have hc := inv_cas hC hP
  have hw := hP.w6
  have hnd := hP.2.2.2.2.1
  have n1 := hC.2.2.2.2.2.1
  have hPX := hP.2.2.1
  have ebl : M.1 171 0 = M.1 75 16 := hR.2.2.2.2.1.2.2.trans n1.2.2.1
  refine Mt.deep (k1 := 3) (tX11_blow hx ⟨hC.2.2.2.2.2.2.2.2.1.1, hnd⟩ hX ⟨fun g0 => ?_, fun g0 N k1 k2 k3 k4 => ?_⟩) (by decide)
  · exact ⟨rfl, _, rfl, Mt.deep (k1 := 4) (tX12_blow hx hS hc ⟨hR.2.2.2.2.2.2.2.1.1, hnd⟩ hR.2.2.2.2.2.2.2.2.2 hR.1 ⟨fun _ K k => ⟨rfl, rfl, INV.qq hC hR hP quX.rf k⟩, fun g1 Nf d => absurd (ebl.trans g0) g1⟩) (by decide)⟩
  · have eN : ∀ a, 149 ≤ a → N.1 a = M.1 a := fun a ha => k2 a (by omega) (by omega)
    have hRN : RA ly N A := hR.mv eN (by rw [k1]; exact hR.1)
    refine ⟨rfl, _, rfl, Mt.deep (k1 := 4) (tX12_blow hx (hS.mv eN) hc ⟨hRN.2.2.2.2.2.2.2.1.1, hnd⟩ hRN.2.2.2.2.2.2.2.2.2 hRN.1 ⟨fun g1 K k => absurd (ebl.symm.trans ((congrFun (eN 171 (by omega)) 0).symm.trans g1)) g0, fun _ Nf d => ⟨rfl, rfl, ?_⟩⟩) (by decide)⟩
    have hcb : cpB Nf.1 0 N.1 0 := d.2.2.2.2.2.1 0 (by omega)
    obtain ⟨s1, s2, s3⟩ := hcb.ns hw hRN.2.2.2.2.1
    refine INV.pu (N := N) (Nf := Nf) (X2 := (A.X.s, x, A.X.t, A.X.nf, A.X.fc, A.X.fk)) (kd := 2) (wh := 0) (bf := 0) hC hR hP k1 (fun a b1 b2 => k2 a (by omega) b2) ⟨by rw [k1]; exact n1.1, ?_, ?_, ?_, ?_, ?_, ?_, ?_, ?_⟩ (Or.inr (Or.inr (Or.inl rfl))) ?_ k4 d rfl (fun a ha => sI_ne (by omega)) (fun b hb => ?_) ⟨s1, s2, rfl⟩ rfl (fun D => rfl) ⟨eqN.rf, eqN.rf⟩ ⟨hPX.1, hPX.2.1, hPX.2.2.1, hx, hPX.2.2.2.2⟩
    · show A.X.s = vS N.1 75
      unfold vS vW
      rw [k3, k2 (75 + 2) (by omega) (by omega), k2 (75 + 3) (by omega) (by omega), k2 (75 + 4) (by omega) (by omega), k2 (75 + 6) (by omega) (by omega), k2 (75 + 7) (by omega) (by omega), k2 (75 + 8) (by omega) (by omega), k2 (75 + 9) (by omega) (by omega), k2 (75 + 10) (by omega) (by omega), k2 (75 + 11) (by omega) (by omega), pk_un (by decide), pk_un (by decide), pk_un (by decide)]
      exact n1.2.1
    · show x = N.1 75 16
      rw [k3, pk_us]
    · rw [k3, pk_un (by decide)]; exact n1.2.2.2.1
    · rw [k3, pk_un (by decide)]; exact n1.2.2.2.2.1
    · rw [k2 (75 + 12) (by omega) (by omega)]; exact n1.2.2.2.2.2.1
    · rw [k2 (75 + 13) (by omega) (by omega)]; exact n1.2.2.2.2.2.2.1
    · rw [k2 (75 + 14) (by omega) (by omega)]; exact n1.2.2.2.2.2.2.2.1
    · rw [k2 (75 + 15) (by omega) (by omega)]; exact n1.2.2.2.2.2.2.2.2
    · show (A.X.s.2.2.2.2.1.2.2.1, A.X.s.2.1, (if x = 0 then (1 : Int32) else 0), A.X.nf) = (A.X.s.2.2.2.2.1.2.2.1, A.X.s.2.1, A.X.bl, A.X.nf)
      have hb := hPX.2.2.2.1
      have g1 : ¬ A.X.bl = x := by rw [n1.2.2.1]; exact g0
      have e : (if x = 0 then (1 : Int32) else 0) = A.X.bl := by
        rcases hx with rfl | rfl <;> rcases hb with h | h
        · exact absurd h g1
        · rw [h]; rfl
        · rw [h]; rfl
        · exact absurd h g1
      rw [e]
    · refine ⟨fun a ha => ?_, fun a ha j _ => congrFun (sI_ne (by omega)) _, fun a ha j _ => congrFun (sI_ne (by omega)) _, congrFun (sI_ne (by omega)) b, fun _ _ _ a ha j _ => congrFun (sI_ne (by omega)) _⟩
      by_cases e : a = 171
      · subst e; exact pk_un (f := Nf.1 171) hb
      · exact congrFun (sI_ne e) b
theorem pr_strike {G : Gx} {l : Launch} {ly : Ly} {M : Mm} {x y : Int32} (hI : INV ly M) : PrI G l ly mX11_strike mX12_strike [.int x, .int y] M := by
  obtain ⟨pl, ps, n, A, hC, hR, hP⟩ := hI
  have hX := inv_xs hC hR hP
  have hS := inv_rs hC hR hP
  have hc := inv_cas hC hP
  have hw := hP.w6
  have hn12 := hP.2.1.2.2.2.2
  have hnd := hP.2.2.2.2.1
  have n1 := hC.2.2.2.2.2.1
  have hPX := hP.2.2.1
  refine Mt.deep (k1 := 3) (tX11_strike ⟨hC.2.2.2.2.2.2.2.2.1.1, hnd⟩ hX ⟨fun g0 => ?_, fun c a0 e1 a1 => ⟨fun g1 => ?_, fun g1 N k1 k2 k3 k4 => ?_⟩⟩) (by decide)
  · exact ⟨rfl, _, rfl, Mt.deep (k1 := 4) (tX12_strike hS hc ⟨hR.2.2.2.2.2.2.2.1.1, hnd⟩ hR.2.2.2.2.2.2.2.2.2 hR.1 ⟨fun _ K k => ⟨rfl, rfl, INV.qq hC hR hP quX.rf k⟩, fun c2 b0 f1 b1 => absurd ⟨⟨c2, b0, f1⟩, b1⟩ g0⟩) (by decide)⟩
  · refine ⟨rfl, _, rfl, Mt.deep (k1 := 4) (tX12_strike hS hc ⟨hR.2.2.2.2.2.2.2.1.1, hnd⟩ hR.2.2.2.2.2.2.2.2.2 hR.1 ⟨fun g0 K k => absurd ⟨⟨c, a0, e1⟩, a1⟩ g0, fun c2 b0 f1 b1 => ?_⟩) (by decide)⟩
    obtain rfl : c2 = c := nI_inj (by omega) (by omega) (f1.symm.trans e1)
    exact ⟨fun _ K k => ⟨rfl, rfl, INV.qq hC hR hP quX.rf k⟩, fun g2 Nf d => absurd g1 g2⟩
  · have eN : ∀ a, 149 ≤ a → N.1 a = M.1 a := fun a ha => k2 a (by omega) (by omega)
    have hRN : RA ly N A := hR.mv eN (by rw [k1]; exact hR.1)
    refine ⟨rfl, _, rfl, Mt.deep (k1 := 4) (tX12_strike (hS.mv eN) hc ⟨hRN.2.2.2.2.2.2.2.1.1, hnd⟩ hRN.2.2.2.2.2.2.2.2.2 hRN.1 ⟨fun g0 K k => absurd ⟨⟨c, a0, e1⟩, a1⟩ g0, fun c2 b0 f1 b1 => ?_⟩) (by decide)⟩
    obtain rfl : c2 = c := nI_inj (by omega) (by omega) (f1.symm.trans e1)
    refine ⟨fun g2 K k => absurd g2 g1, fun g2 Nf d => ⟨rfl, rfl, ?_⟩⟩
    have hcb : cpB Nf.1 0 N.1 0 := d.2.2.2.2.2.1 0 (by omega)
    obtain ⟨s1, s2, s3⟩ := hcb.ns hw hRN.2.2.2.2.1
    have es : A.X.s.2.1 = M.1 78 := by rw [n1.2.1]; rfl
    refine INV.pu (N := N) (Nf := Nf) (X2 := (mkS A.X.s (A.X.s.2.2.2.2.1.2.2.1, upd A.X.s.2.1 c2 (wi (M.1 78 c2 + y)), A.X.bl, A.X.nf), A.X.bl, A.X.t, A.X.nf, A.X.fc, A.X.fk)) (kd := 3) (wh := nI c2) (bf := M.1 78 c2) hC hR hP k1 (fun a b1 b2 => k2 a (by omega) b2) ⟨by rw [k1]; exact n1.1, ?_, ?_, ?_, ?_, ?_, ?_, ?_, ?_⟩ (Or.inr (Or.inr (Or.inr ⟨rfl, c2, by omega, rfl⟩))) ?_ k4 d rfl (fun a ha => sI_ne (by omega)) (fun b hb => ?_) ⟨?_, s2, s3⟩ rfl (fun D => rfl) ⟨eqN.rf, eqN.rf⟩ ⟨hPX.1, hPX.2.1, hPX.2.2.1, hPX.2.2.2.1, hPX.2.2.2.2⟩
    · show mkS A.X.s (A.X.s.2.2.2.2.1.2.2.1, upd A.X.s.2.1 c2 (wi (M.1 78 c2 + y)), A.X.bl, A.X.nf) = vS N.1 75
      unfold vS vW mkS
      rw [k2 75 (by omega) (by omega), k2 (75 + 2) (by omega) (by omega), show N.1 (75 + 3) = upd (M.1 78) c2 (wi (M.1 78 c2 + y)) from k3, k2 (75 + 4) (by omega) (by omega), k2 (75 + 6) (by omega) (by omega), k2 (75 + 7) (by omega) (by omega), k2 (75 + 8) (by omega) (by omega), k2 (75 + 9) (by omega) (by omega), k2 (75 + 10) (by omega) (by omega), k2 (75 + 11) (by omega) (by omega), es, n1.2.1]
      rfl
    · rw [k2 75 (by omega) (by omega)]; exact n1.2.2.1
    · rw [k2 75 (by omega) (by omega)]; exact n1.2.2.2.1
    · rw [k2 75 (by omega) (by omega)]; exact n1.2.2.2.2.1
    · rw [k2 (75 + 12) (by omega) (by omega)]; exact n1.2.2.2.2.2.1
    · rw [k2 (75 + 13) (by omega) (by omega)]; exact n1.2.2.2.2.2.2.1
    · rw [k2 (75 + 14) (by omega) (by omega)]; exact n1.2.2.2.2.2.2.2.1
    · rw [k2 (75 + 15) (by omega) (by omega)]; exact n1.2.2.2.2.2.2.2.2
    · show (A.X.s.2.2.2.2.1.2.2.1, upd (upd A.X.s.2.1 c2 (wi (M.1 78 c2 + y))) (nI c2).toNatClampNeg (M.1 78 c2), A.X.bl, A.X.nf) = (A.X.s.2.2.2.2.1.2.2.1, A.X.s.2.1, A.X.bl, A.X.nf)
      rw [nI_clamp (by omega), ← es, upd_back]
    · refine ⟨fun a ha => congrFun (sI_ne (by omega)) b, fun a ha j _ => ?_, fun a ha j _ => congrFun (sI_ne (by omega)) _, congrFun (sI_ne (by omega)) b, fun _ _ _ a ha j _ => congrFun (sI_ne (by omega)) _⟩
      by_cases e : a = 174
      · subst e; exact pk_un (f := Nf.1 174) (by omega)
      · exact congrFun (sI_ne e) _
    · obtain ⟨r1, r2, r3, r4, r5, r6, r7, r8, r9, r10⟩ := s1
      refine ⟨r1, fun j hj => ?_, r3, r4, r5, r6, r7, r8, r9, r10⟩
      show upd (Nf.1 174) c2 (wi (M.1 78 c2 + y)) (12 * 0 + j) = upd A.X.s.2.1 c2 (wi (M.1 78 c2 + y)) j
      rw [show 12 * 0 + j = j by omega]
      by_cases e : j = c2
      · subst e; rw [pk_us, pk_us]
      · rw [pk_un e, pk_un e]
        have h := r2 j hj
        show Nf.1 174 j = _
        rw [← h]
        show Nf.1 174 j = Nf.1 174 (12 * 0 + j)
        rw [show 12 * 0 + j = j by omega]
/-- a deed has been undone on both sides -/
theorem INV.un {G : Gx} {l : Launch} {ly : Ly} {M N : Mm} {pl ps n k : Nat} {A : Ab} (hC : CA ly M pl ps A) (hR : RA ly M A) (hP : PA n A) (hk : A.nd = k + 1) (k1 : N.2.2 = M.2.2) (kC : ∀ a, (a < 75 ∨ 91 < a) → a ≠ 134 → N.1 a = M.1 a) (e4 : N.1 134 = upd (M.1 134) 0 (nI k)) (hX : nsC N 75 pl A.p (mkS A.X.s (A.Ds k), (A.Ds k).2.2.1, A.X.t, (A.Ds k).2.2.2, A.X.fc, A.X.fk)) : Mt G l mX12_undo (140, 0, 0, false) [.ref 149] ly N (fun v2 l2 K => l2 = ly ∧ v2 = some (.int (nI k)) ∧ INV ly K) := by
  have hw := hP.w6
  have hnd := hP.2.2.2.2.1
  have hPX := hP.2.2.1
  have d := hC.2.2.2.2.2.2.2.2.1
  have eN : ∀ a, 149 ≤ a → N.1 a = M.1 a := fun a ha => kC a (by omega) (by omega)
  have hRN : RA ly N A := hR.mv eN (by rw [k1]; exact hR.1)
  refine Mt.deep (k1 := 3) (tX12_undo ⟨hRN.2.2.2.2.2.2.2.1.1, hnd⟩ hRN.2.2.2.2.2.2.2.2.2 hRN.1 ⟨fun g0 => absurd g0 (by omega), fun k2 e2 K j1 j2 j3 j4 j5 j6 j7 => ?_⟩) (by decide)
  obtain rfl : k2 = k := by omega
  refine ⟨rfl, rfl, ?_⟩
  have eK : ∀ a, a < 149 → K.1 a = N.1 a := fun a ha => j2 a (by omega) (by omega)
  have rr : K.2.2 = M.2.2 := j1.trans k1
  have e183 : K.1 183 = M.1 183 := (j2 183 (by omega) (by omega)).trans (eN 183 (by omega))
  obtain ⟨g1, g2, g3⟩ := hRN.2.2.2.2.2.2.2.1.2 k2 (by omega)
  have hle := ds_le d (k := k2) (by omega)
  have cp : ∀ b, b ≠ 0 → cpB K.1 b M.1 b := fun b hb => (j7 b hb).tr (cpB.eq (fun a ha => eN a (by omega)))
  refine INV.sn (X2 := (mkS A.X.s (A.Ds k2), (A.Ds k2).2.2.1, A.X.t, (A.Ds k2).2.2.2, A.X.fc, A.X.fk)) (hh := A.h) (nd2 := k2) (Ds2 := A.Ds) hC hR hP (by rw [rr]; exact hC.1) (by rw [rr]; exact hR.1) (by rw [rr]; exact ⟨rfl, rfl⟩) (fun j _ => by rw [rr]) (fun a a1 a2 a3 a4 => (eK a a1).trans (kC a a2 (by omega))) (hX.mv (fun k b1 b2 => eK k (by omega)) (fun j _ => by rw [rr, k1])) ((eK 126 (by omega)).trans ((kC 126 (by omega) (by omega)).trans hC.2.2.2.2.2.2.1)) ⟨by rw [eK 134 (by omega), e4]; rfl, rfl, fun j hj => ?_⟩ (fun a ha => (j2 a (by omega) (by omega)).trans (eN a (by omega))) (fun j hj => (j3 j (by omega) (by omega)).trans (congrFun (eN 149 (by omega)) j)) ⟨j6.al hw g1, j6.ft g2, (j6.1 171 (by omega)).trans g3⟩ (by rw [e183]; exact hR.2.2.2.2.2.1) ⟨j4, fun j hj => ?_⟩ (cp 2 (by omega)) (by rw [e183]; exact eqN.rf) j5 ⟨hPX.1, by show (A.Ds k2).2.2.2 ≤ 8; have := hPX.2.1; omega, fun i hi => hPX.2.2.1 i (Nat.lt_of_lt_of_le hi hle), ?_, hPX.2.2.2.2⟩ (by omega)
  · rw [eK 135 (by omega), eK 136 (by omega), eK 137 (by omega), kC 135 (by omega) (by omega), kC 136 (by omega) (by omega), kC 137 (by omega) (by omega)]
    exact d.2.2 j (by omega)
  · obtain ⟨q1, q2, q3⟩ := hRN.2.2.2.2.2.2.2.1.2 j (by omega)
    have cc := j7 (4 + j) (by omega)
    exact ⟨cc.al hw q1, cc.ft q2, (cc.1 171 (by omega)).trans q3⟩
  · show (A.Ds k2).2.2.1 = 0 ∨ (A.Ds k2).2.2.1 = 1
    rw [← g3]
    exact (hRN.2.2.2.2.2.2.2.2.2 (4 + k2) (by omega) (by omega)).2
theorem pr_undo {G : Gx} {l : Launch} {ly : Ly} {M : Mm} (hI : INV ly M) : PrI G l ly mX11_undo mX12_undo [] M := by
  obtain ⟨pl, ps, n, A, hC, hR, hP⟩ := hI
  have hX := inv_xs hC hR hP
  have hF := inv_hF hC hP
  have hn12 := hP.2.1.2.2.2.2
  have hnd := hP.2.2.2.2.1
  have n1 := hC.2.2.2.2.2.1
  have hPX := hP.2.2.1
  have d := hC.2.2.2.2.2.2.2.2.1
  have es : A.X.s.2.2.2.2.1.2.2.1 = M.1 86 := by rw [n1.2.1]; rfl
  have eu : A.X.s.2.1 = M.1 78 := by rw [n1.2.1]; rfl
  refine Mt.deep (k1 := 4) (tX11_undo ⟨d.1, hnd⟩ (fun k hk => (d.2.2 k hk).2) hX hF ⟨fun g0 => ?_, fun k e0 => ⟨fun h0 => ?_, fun w h0 hw h1 => ?_, fun h0 => ?_, fun c h0 hc h1 => ?_⟩⟩) (by decide)
  · exact ⟨rfl, _, rfl, Mt.deep (k1 := 3) (tX12_undo ⟨hR.2.2.2.2.2.2.2.1.1, hnd⟩ hR.2.2.2.2.2.2.2.2.2 hR.1 ⟨fun _ K k => ⟨rfl, rfl, INV.qq hC hR hP quX.rf k⟩, fun k2 e2 => absurd e2 (by omega)⟩) (by decide)⟩
  · have e : A.Ds k = (A.X.s.2.2.2.2.1.2.2.1, A.X.s.2.1, A.X.bl, A.X.nf - 1) := by
      rw [(d.2.2 k (by omega)).1, h0, show k + 1 = A.nd by omega, d.2.1]; rfl
    refine ⟨rfl, _, rfl, INV.un hC hR hP e0 rfl (fun a a1 a2 => (sI_ne (by omega)).trans ((sI_ne (by omega)).trans (sI_ne a2))) rfl ?_⟩
    rw [e]
    refine ⟨n1.1, n1.2.1, n1.2.2.1, n1.2.2.2.1, n1.2.2.2.2.1, rfl, n1.2.2.2.2.2.2.1, n1.2.2.2.2.2.2.2.1, fun j hj => ?_⟩
    show rfC (M.1 pl 3) (M.1 88) (M.1 89) (M.1 90) (A.X.nf - 1) j = rfC (A.p.D 0 3) A.X.fc A.X.fk (fun _ => 0) (A.X.nf - 1) j
    rw [show M.1 88 = A.X.fc from n1.2.2.2.2.2.2.1.symm, show M.1 89 = A.X.fk from n1.2.2.2.2.2.2.2.1.symm, show M.1 pl 3 = A.p.D 0 3 from hC.2.2.2.2.1.1.2.2.2.1]
    refine rfC_E eqN.rf eqN.rf (A.X.nf - 1) (by have := hPX.2.1; omega) (fun i hi => ?_) j hj
    obtain ⟨⟨cc, q1, q2⟩, _⟩ := hPX.2.2.1 i (by omega)
    rw [q2]
    exact vp_in_nI (n := cc) (by omega) (by decide)
  · have e : A.Ds k = (upd A.X.s.2.2.2.2.1.2.2.1 w (M.1 137 k), A.X.s.2.1, A.X.bl, A.X.nf) := by
      rw [(d.2.2 k (by omega)).1, h0, h1, show k + 1 = A.nd by omega, d.2.1]
      show (upd A.X.s.2.2.2.2.1.2.2.1 (nI w).toNatClampNeg (M.1 137 k), A.X.s.2.1, A.X.bl, A.X.nf) = _
      rw [nI_clamp (by omega)]
    refine ⟨rfl, _, rfl, INV.un hC hR hP e0 rfl (fun a a1 a2 => (sI_ne (by omega)).trans (sI_ne a2)) rfl ?_⟩
    rw [e]
    refine ⟨n1.1, ?_, n1.2.2.1, n1.2.2.2.1, n1.2.2.2.2.1, n1.2.2.2.2.2.1, n1.2.2.2.2.2.2.1, n1.2.2.2.2.2.2.2.1, n1.2.2.2.2.2.2.2.2⟩
    show mkS A.X.s (upd A.X.s.2.2.2.2.1.2.2.1 w (M.1 137 k), A.X.s.2.1, A.X.bl, A.X.nf) = _
    rw [es, n1.2.1]
    rfl
  · have e : A.Ds k = (A.X.s.2.2.2.2.1.2.2.1, A.X.s.2.1, (if A.X.bl = 0 then 1 else 0), A.X.nf) := by
      rw [(d.2.2 k (by omega)).1, h0, show k + 1 = A.nd by omega, d.2.1]; rfl
    refine ⟨rfl, _, rfl, INV.un hC hR hP e0 rfl (fun a a1 a2 => (sI_ne (by omega)).trans (sI_ne a2)) rfl ?_⟩
    rw [e]
    refine ⟨n1.1, ?_, ?_, n1.2.2.2.1, n1.2.2.2.2.1, n1.2.2.2.2.2.1, n1.2.2.2.2.2.2.1, n1.2.2.2.2.2.2.2.1, n1.2.2.2.2.2.2.2.2⟩
    · show mkS A.X.s (A.X.s.2.2.2.2.1.2.2.1, A.X.s.2.1, _, A.X.nf) = _
      rw [n1.2.1]
      rfl
    · show (if A.X.bl = 0 then (1 : Int32) else 0) = (if M.1 75 16 = 0 then 1 else 0)
      rw [n1.2.2.1]
  · have e : A.Ds k = (A.X.s.2.2.2.2.1.2.2.1, upd A.X.s.2.1 c (M.1 137 k), A.X.bl, A.X.nf) := by
      rw [(d.2.2 k (by omega)).1, h0, h1, show k + 1 = A.nd by omega, d.2.1]
      show (A.X.s.2.2.2.2.1.2.2.1, upd A.X.s.2.1 (nI c).toNatClampNeg (M.1 137 k), A.X.bl, A.X.nf) = _
      rw [nI_clamp (by omega)]
    refine ⟨rfl, _, rfl, INV.un hC hR hP e0 rfl (fun a a1 a2 => (sI_ne (by omega)).trans (sI_ne a2)) rfl ?_⟩
    rw [e]
    refine ⟨n1.1, ?_, n1.2.2.1, n1.2.2.2.1, n1.2.2.2.2.1, n1.2.2.2.2.2.1, n1.2.2.2.2.2.2.1, n1.2.2.2.2.2.2.2.1, n1.2.2.2.2.2.2.2.2⟩
    show mkS A.X.s (A.X.s.2.2.2.2.1.2.2.1, upd A.X.s.2.1 c (M.1 137 k), A.X.bl, A.X.nf) = _
    rw [eu, n1.2.1]
    rfl
