theorem vS_mv2 {I J : Nat → Nat → Int32} {a : Nat} (e : ∀ k, a ≤ k → k ≤ a + 11 → J k = I k) : vS J a = vS I a := by
  unfold vS vW
  rw [e a (by omega) (by omega), e (a + 2) (by omega) (by omega), e (a + 3) (by omega) (by omega), e (a + 4) (by omega) (by omega), e (a + 6) (by omega) (by omega), e (a + 7) (by omega) (by omega), e (a + 8) (by omega) (by omega), e (a + 9) (by omega) (by omega), e (a + 10) (by omega) (by omega), e (a + 11) (by omega) (by omega)]
theorem upd_back {f : Nat → Int32} {w : Nat} {x : Int32} : upd (upd f w x) w (f w) = f := by
  funext j
  by_cases e : j = w
  · subst e; rw [pk_us]
  · rw [pk_un e, pk_un e]
/-- a deed has been done on both sides -/
theorem INV.pu {ly : Ly} {M N Nf Kf : Mm} {pl ps n : Nat} {A : Ab} {X2 : Sn} {kd wh bf : Int32} (hC : CA ly M pl ps A) (hR : RA ly M A) (hP : PA n A) (k1 : N.2.2 = M.2.2) (kC : ∀ a, (a < 75 ∨ 91 < a) → (a < 134 ∨ 137 < a) → N.1 a = M.1 a) (hX : nsC N 75 pl A.p X2) (hk : okDd kd wh) (hu : unD kd wh bf (dOf X2) = dOf A.X) (e4 : N.1 134 = upd (M.1 134) 0 (nI (dN A.nd)) ∧ N.1 135 = dA A.nd (M.1 135) kd ∧ N.1 136 = dA A.nd (M.1 136) wh ∧ N.1 137 = dA A.nd (M.1 137) bf) (d : dpF N Nf A.nd) (f1 : Kf.2.2 = Nf.2.2) (f2 : ∀ a, (a < 169 ∨ 182 < a) → Kf.1 a = Nf.1 a) (f3 : ∀ b, b ≠ 0 → cpB Kf.1 b Nf.1 b) (f4 : nsR Kf.1 0 (A.p.ct 0) X2) (ht : X2.t = A.X.t) (hs : ∀ D, mkS X2.s D = mkS A.X.s D) (hf : eqN A.X.nf A.X.fc X2.fc ∧ eqN A.X.nf A.X.fk X2.fk) (hPX : nsP n X2) : INV ly Kf := by
  have hw := hP.w6
  have hnd := hP.2.2.2.2.1
  have eN : ∀ a, 149 ≤ a → N.1 a = M.1 a := fun a ha => kC a (by omega) (by omega)
  have hRN : RA ly N A := hR.mv eN (by rw [k1]; exact hR.1)
  have eK : ∀ a, a < 149 → Kf.1 a = N.1 a := fun a ha => (f2 a (by omega)).trans (d.2.1 a (by omega) (by omega))
  have rr : Kf.2.2 = M.2.2 := f1.trans (d.1.trans k1)
  have e183 : Kf.1 183 = M.1 183 := (f2 183 (by omega)).trans ((d.2.1 183 (by omega) (by omega)).trans (eN 183 (by omega)))
  refine INV.sn (X2 := X2) (hh := A.h) (nd2 := dN A.nd) (Ds2 := dPu A.nd A.Ds (dOf X2)) hC hR hP (by rw [rr]; exact hC.1) (by rw [rr]; exact hR.1) (by rw [rr]; exact ⟨rfl, rfl⟩) (fun j _ => by rw [rr]) (fun a a1 a2 a3 a4 => (eK a a1).trans (kC a a2 a4)) (hX.mv (fun k b1 b2 => eK k (by omega)) (fun j _ => by rw [rr, k1])) ((eK 126 (by omega)).trans ((kC 126 (by omega) (by omega)).trans hC.2.2.2.2.2.2.1)) (dsC.push hC.2.2.2.2.2.2.2.2.1 hnd hk hu (by rw [eK 134 (by omega), e4.1]; rfl) (by rw [eK 135 (by omega)]; exact e4.2.1) (by rw [eK 136 (by omega)]; exact e4.2.2.1) (by rw [eK 137 (by omega)]; exact e4.2.2.2)) (fun a ha => (f2 a (by omega)).trans ((d.2.1 a (by omega) (by omega)).trans (eN a (by omega)))) (fun j hj => (congrFun (f2 149 (by omega)) j).trans ((d.2.2.1 j (by omega) (by omega)).trans (congrFun (eN 149 (by omega)) j))) f4 (by rw [e183]; exact hR.2.2.2.2.2.1) (dsR.push (M := N) (N := Nf) hC.2.2.2.2.2.2.2.2.1 hRN.2.2.2.2.2.2.2.1 hRN.2.2.2.2.1 hw hnd d (congrFun (f2 149 (by omega)) 51) f3 ht hs hf) ((f3 2 (by omega)).tr ((d.2.2.2.2.2.1 2 (by omega)).tr (cpB.eq (fun a ha => eN a (by omega))))) (by rw [e183]; exact eqN.rf) (fun b hb => ?_) hPX (by unfold dN; split <;> omega)
  by_cases e : b = 0
  · subst e
    exact fun _ => ⟨⟨X2.nf, by have := hPX.2.1; omega, f4.2.1.1⟩, by rw [f4.2.2]; exact hPX.2.2.2.1⟩
  · exact (f3 b e).gd (d.2.2.2.2.1 b hb)
theorem pr_fat {G : Gx} {l : Launch} {ly : Ly} {M : Mm} {x y : Int32} (hI : INV ly M) : PrI G l ly mX11_fat mX12_fat [.int x, .int y] M := by
  obtain ⟨pl, ps, n, A, hC, hR, hP⟩ := hI
  have hX := inv_xs hC hR hP
  have hS := inv_rs hC hR hP
  have hc := inv_cas hC hP
  have hF := inv_hF hC hP
  have hw := hP.w6
  have hn12 := hP.2.1.2.2.2.2
  have hnd := hP.2.2.2.2.1
  have n1 := hC.2.2.2.2.2.1
  have hPX := hP.2.2.1
  refine Mt.deep (k1 := 4) (tX11_fat ⟨hC.2.2.2.2.2.2.2.2.1.1, hnd⟩ hX hF ⟨fun g0 => ?_, fun c a0 e1 a1 a2 N k1 k2 k3 k4 k5 k6 k7 => ?_⟩) (by decide)
  · exact ⟨rfl, _, rfl, Mt.deep (k1 := 4) (tX12_fat hS hc hF.2.1 ⟨hR.2.2.2.2.2.2.2.1.1, hnd⟩ hR.2.2.2.2.2.2.2.2.2 hR.1 ⟨fun _ K k => ⟨rfl, rfl, INV.qq hC hR hP quX.rf k⟩, fun c2 b0 f1 b1 b2 Nf d => absurd ⟨⟨c2, b0, f1⟩, b1, b2⟩ g0⟩) (by decide)⟩
  · have eN : ∀ a, 149 ≤ a → N.1 a = M.1 a := fun a ha => k2 a (by omega) (by omega)
    have hRN : RA ly N A := hR.mv eN (by rw [k1]; exact hR.1)
    obtain ⟨ky, ey, hky⟩ := y_of a1
    refine ⟨rfl, _, rfl, Mt.deep (k1 := 4) (tX12_fat (hS.mv eN) hc hF.2.1 ⟨hRN.2.2.2.2.2.2.2.1.1, hnd⟩ hRN.2.2.2.2.2.2.2.2.2 hRN.1 ⟨fun g0 K k => absurd ⟨⟨c, a0, e1⟩, a1, a2⟩ g0, fun c2 b0 f1 b1 b2 Nf d => ⟨rfl, rfl, ?_⟩⟩) (by decide)⟩
    obtain rfl : c2 = c := nI_inj (by omega) (by omega) (f1.symm.trans e1)
    have e88 : M.1 88 = A.X.fc := n1.2.2.2.2.2.2.1.symm
    have e89 : M.1 89 = A.X.fk := n1.2.2.2.2.2.2.2.1.symm
    have hfat : ∀ i, i < A.X.nf + 1 → (∃ c : Nat, c < n ∧ upd A.X.fc A.X.nf (nI c2) i = nI c) ∧ ∃ k : Nat, 1 ≤ k ∧ k ≤ 99 ∧ upd A.X.fk A.X.nf y i = nI k := fun i hi => by
      by_cases e : i = A.X.nf
      · subst e
        rw [pk_us, pk_us]
        obtain ⟨j, h1, h2, h3⟩ := nat_of (b := 99) (k := 99) rfl (by decide) a1.1 a1.2
        exact ⟨⟨c2, a0, rfl⟩, j, h1, h2, h3⟩
      · rw [pk_un e, pk_un e]
        exact hPX.2.2.1 i (by omega)
    have hcb : cpB Nf.1 0 N.1 0 := d.2.2.2.2.2.1 0 (by omega)
    obtain ⟨s1, s2, s3⟩ := hcb.ns hw hRN.2.2.2.2.1
    refine INV.pu (N := N) (Nf := Nf) (X2 := (A.X.s, A.X.bl, A.X.t, A.X.nf + 1, upd A.X.fc A.X.nf (nI c2), upd A.X.fk A.X.nf y)) (kd := 0) (wh := nI c2) (bf := 0) hC hR hP k1 (fun a b1 b2 => k2 a (by omega) b2) ⟨by rw [k1]; exact n1.1, ?_, ?_, ?_, ?_, ?_, ?_, ?_, ?_⟩ (Or.inl rfl) rfl k7 d rfl (fun a ha => (sI_ne (by omega)).trans ((sI_ne (by omega)).trans (sI_ne (by omega)))) (fun b hb => ?_) ⟨s1, ⟨rfl, by show A.X.nf + 1 ≤ 12; omega, fun j hj => ?_, fun j hj => ?_⟩, s3⟩ rfl (fun D => rfl) ⟨fun j hj => (pk_un (by omega)).symm, fun j hj => (pk_un (by omega)).symm⟩ ⟨hPX.1, by show A.X.nf + 1 ≤ 8; omega, hfat, hPX.2.2.2.1, hPX.2.2.2.2⟩
    · show A.X.s = vS N.1 75
      rw [vS_mv2 (I := M.1) (fun k b1 b2 => k2 k (by omega) (by omega))]
      exact n1.2.1
    · rw [k2 75 (by omega) (by omega)]; exact n1.2.2.1
    · rw [k2 75 (by omega) (by omega)]; exact n1.2.2.2.1
    · rw [k2 75 (by omega) (by omega)]; exact n1.2.2.2.2.1
    · show N.1 87 0 = nI (A.X.nf + 1)
      rw [k3, pk_us]
    · show upd A.X.fc A.X.nf (nI c2) = N.1 88
      rw [k4, e88]
    · show upd A.X.fk A.X.nf y = N.1 89
      rw [k5, e89]
    · intro j hj
      show N.1 90 j = rfC (A.p.D 0 3) (upd A.X.fc A.X.nf (nI c2)) (upd A.X.fk A.X.nf y) (fun _ => 0) (A.X.nf + 1) j
      rw [k6, e88, e89, show M.1 pl 3 = A.p.D 0 3 from hC.2.2.2.2.1.1.2.2.2.1]
      refine rfC_E eqN.rf eqN.rf (A.X.nf + 1) (by omega) (fun i hi => ?_) j hj
      obtain ⟨⟨cc, h1, h2⟩, _⟩ := hfat i hi
      rw [h2]
      exact vp_in_nI (n := cc) (by omega) (by decide)
    · refine ⟨fun a ha => congrFun ((sI_ne (by omega)).trans ((sI_ne (by omega)).trans (sI_ne (by omega)))) b, fun a ha j _ => congrFun ((sI_ne (by omega)).trans ((sI_ne (by omega)).trans (sI_ne (by omega)))) _, fun a ha j _ => congrFun ((sI_ne (by omega)).trans ((sI_ne (by omega)).trans (sI_ne (by omega)))) _, pk_un hb, fun nf h1 h2 a ha j hj => ?_⟩
      rcases (show a = 181 ∨ a = 182 by omega) with rfl | rfl
      · exact pk_un (f := Nf.1 181) (by omega)
      · exact pk_un (f := Nf.1 182) (by omega)
    · show upd (Nf.1 181) (12 * 0 + A.X.nf) (nI c2) (12 * 0 + j) = upd A.X.fc A.X.nf (nI c2) j
      by_cases e : j = A.X.nf
      · subst e; rw [pk_us, pk_us]
      · have hj2 : j < A.X.nf := by have h : j < A.X.nf + 1 := hj; omega
        rw [pk_un (by omega), pk_un e]
        exact s2.2.2.1 j hj2
    · show upd (Nf.1 182) (12 * 0 + A.X.nf) y (12 * 0 + j) = upd A.X.fk A.X.nf y j
      by_cases e : j = A.X.nf
      · subst e; rw [pk_us, pk_us]
      · have hj2 : j < A.X.nf := by have h : j < A.X.nf + 1 := hj; omega
        rw [pk_un (by omega), pk_un e]
        exact s2.2.2.2 j hj2
theorem pr_off {G : Gx} {l : Launch} {ly : Ly} {M : Mm} {x : Int32} (hI : INV ly M) : PrI G l ly mX11_off mX12_off [.int x] M := by
  obtain ⟨pl, ps, n, A, hC, hR, hP⟩ := hI
  have hX := inv_xs hC hR hP
  have hS := inv_rs hC hR hP
  have hc := inv_cas hC hP
  have hw := hP.w6
  have hn12 := hP.2.1.2.2.2.2
  have hnd := hP.2.2.2.2.1
  have n1 := hC.2.2.2.2.2.1
  have hPX := hP.2.2.1
  refine Mt.deep (k1 := 3) (tX11_off ⟨hC.2.2.2.2.2.2.2.2.1.1, hnd⟩ hX ⟨fun g0 => ?_, fun w a0 e1 a1 N k1 k2 k3 k4 => ?_⟩) (by decide)
  · exact ⟨rfl, _, rfl, Mt.deep (k1 := 4) (tX12_off hS hc ⟨hR.2.2.2.2.2.2.2.1.1, hnd⟩ hR.2.2.2.2.2.2.2.2.2 hR.1 ⟨fun _ K k => ⟨rfl, rfl, INV.qq hC hR hP quX.rf k⟩, fun w2 b0 f1 b1 Nf d => absurd ⟨w2, b0, f1, b1⟩ g0⟩) (by decide)⟩
  · have eN : ∀ a, 149 ≤ a → N.1 a = M.1 a := fun a ha => k2 a (by omega) (by omega)
    have hRN : RA ly N A := hR.mv eN (by rw [k1]; exact hR.1)
    refine ⟨rfl, _, rfl, Mt.deep (k1 := 4) (tX12_off (hS.mv eN) hc ⟨hRN.2.2.2.2.2.2.2.1.1, hnd⟩ hRN.2.2.2.2.2.2.2.2.2 hRN.1 ⟨fun g0 K k => absurd ⟨w, a0, e1, a1⟩ g0, fun w2 b0 f1 b1 Nf d => ⟨rfl, rfl, ?_⟩⟩) (by decide)⟩
    obtain rfl : w2 = w := nI_inj (by omega) (by omega) (f1.symm.trans e1)
    have hcb : cpB Nf.1 0 N.1 0 := d.2.2.2.2.2.1 0 (by omega)
    obtain ⟨s1, s2, s3⟩ := hcb.ns hw hRN.2.2.2.2.1
    have es : A.X.s.2.2.2.2.1.2.2.1 = M.1 86 := by rw [n1.2.1]; rfl
    refine INV.pu (N := N) (Nf := Nf) (X2 := (mkS A.X.s (upd A.X.s.2.2.2.2.1.2.2.1 w2 2, A.X.s.2.1, A.X.bl, A.X.nf), A.X.bl, A.X.t, A.X.nf, A.X.fc, A.X.fk)) (kd := 1) (wh := nI w2) (bf := M.1 86 w2) hC hR hP k1 (fun a b1 b2 => k2 a (by omega) b2) ⟨by rw [k1]; exact n1.1, ?_, ?_, ?_, ?_, ?_, ?_, ?_, ?_⟩ (Or.inr (Or.inl ⟨rfl, w2, by omega, rfl⟩)) ?_ k4 d rfl (fun a ha => (sI_ne (by omega)).trans (sI_ne (by omega))) (fun b hb => ?_) ⟨?_, s2, s3⟩ rfl (fun D => rfl) ⟨eqN.rf, eqN.rf⟩ ⟨hPX.1, hPX.2.1, hPX.2.2.1, hPX.2.2.2.1, hPX.2.2.2.2⟩
    · show mkS A.X.s (upd A.X.s.2.2.2.2.1.2.2.1 w2 2, A.X.s.2.1, A.X.bl, A.X.nf) = vS N.1 75
      unfold vS vW mkS
      rw [k2 75 (by omega) (by omega), k2 (75 + 2) (by omega) (by omega), k2 (75 + 3) (by omega) (by omega), k2 (75 + 4) (by omega) (by omega), k2 (75 + 6) (by omega) (by omega), k2 (75 + 7) (by omega) (by omega), k2 (75 + 8) (by omega) (by omega), k2 (75 + 9) (by omega) (by omega), k2 (75 + 10) (by omega) (by omega), show N.1 (75 + 11) = upd (M.1 86) w2 2 from k3, es, n1.2.1]
      rfl
    · rw [k2 75 (by omega) (by omega)]; exact n1.2.2.1
    · rw [k2 75 (by omega) (by omega)]; exact n1.2.2.2.1
    · rw [k2 75 (by omega) (by omega)]; exact n1.2.2.2.2.1
    · rw [k2 (75 + 12) (by omega) (by omega)]; exact n1.2.2.2.2.2.1
    · rw [k2 (75 + 13) (by omega) (by omega)]; exact n1.2.2.2.2.2.2.1
    · rw [k2 (75 + 14) (by omega) (by omega)]; exact n1.2.2.2.2.2.2.2.1
    · rw [k2 (75 + 15) (by omega) (by omega)]; exact n1.2.2.2.2.2.2.2.2
    · show (upd (upd A.X.s.2.2.2.2.1.2.2.1 w2 2) (nI w2).toNatClampNeg (M.1 86 w2), A.X.s.2.1, A.X.bl, A.X.nf) = (A.X.s.2.2.2.2.1.2.2.1, A.X.s.2.1, A.X.bl, A.X.nf)
      rw [nI_clamp (by omega), ← es, upd_back]
    · refine ⟨fun a ha => congrFun ((sI_ne (by omega)).trans (sI_ne (by omega))) b, fun a ha j _ => congrFun ((sI_ne (by omega)).trans (sI_ne (by omega))) _, fun a ha j hj => ?_, congrFun ((sI_ne (by omega)).trans (sI_ne (by omega))) b, fun _ _ _ a ha j _ => congrFun ((sI_ne (by omega)).trans (sI_ne (by omega))) _⟩
      rcases (show a = 177 ∨ a = 178 ∨ a = 179 by omega) with rfl | rfl | rfl
      · exact pk_un (f := Nf.1 177) (by omega)
      · rfl
      · exact pk_un (f := Nf.1 179) (by omega)
    · obtain ⟨r1, r2, r3, r4, r5, r6, r7, r8, r9, r10⟩ := s1
      refine ⟨r1, r2, r3, r4, fun v hv => ?_, r6, r7, r8, r9, r10⟩
      show wk1 A.X.t (upd (Nf.1 177) (6 * 0 + w2) (-1) (6 * 0 + v)) (Nf.1 178 (6 * 0 + v)) (upd (Nf.1 179) (6 * 0 + w2) 2 (6 * 0 + v)) (A.X.s.2.2.2.2.1.1 v) (A.X.s.2.2.2.2.1.2.1 v) (upd A.X.s.2.2.2.2.1.2.2.1 w2 2 v)
      by_cases e : v = w2
      · subst e
        rw [pk_us, pk_us, pk_us]
        exact ⟨(r5 v hv).1, rfl, rfl, Or.inr (Or.inr rfl)⟩
      · rw [pk_un (by omega), pk_un (by omega), pk_un e]
        exact r5 v hv
