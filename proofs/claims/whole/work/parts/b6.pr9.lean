theorem RLo.rt {M K : Mm} {p : Pl} (h : RLo M.1 p) (hct : ctOk p) (r : rtF M K) : RLo K.1 p := by
  obtain ⟨h1, h2, h3, h4, h5, h6⟩ := h
  obtain ⟨t0, t1, t2, t3, t4, _⟩ := hct
  have e : ∀ a j, j < rhN a → a ≠ 149 → K.1 a j = M.1 a j := fun a j hj ha => r.2.1 a j ha (Or.inr (Or.inr hj))
  refine ⟨fun k hk => (e 151 k (by show k < 13; omega) (by decide)).trans (h1 k hk), fun k hk => (e 151 (6 + k) (by show 6 + k < 13; omega) (by decide)).trans (h2 k hk), fun q r1 r2 j hj h9 => ?_, fun k hk => ?_, h5, (e 151 12 (by decide) (by decide)).trans h6⟩
  · rw [← h3 q r1 r2 j hj h9]
    match q, r1, r2 with
    | 1, _, _ => exact e 152 j (Nat.lt_of_lt_of_le hj t0) (by decide)
    | 2, _, _ => exact e 158 j (Nat.lt_of_lt_of_le hj t1) (by decide)
    | 3, _, _ => exact e 161 j (Nat.lt_of_lt_of_le hj t2) (by decide)
    | 4, _, _ => exact e 164 j (Nat.lt_of_lt_of_le hj t3) (by decide)
    | 5, _, _ => exact e 153 j (Nat.lt_of_lt_of_le hj t0) (by decide)
    | 6, _, _ => exact e 154 j (Nat.lt_of_lt_of_le hj t0) (by decide)
    | 7, _, _ => exact e 155 j (Nat.lt_of_lt_of_le hj t0) (by decide)
    | 8, _, _ => exact e 156 j (Nat.lt_of_lt_of_le hj t0) (by decide)
    | 9, _, _ => exact e 157 j (Nat.lt_of_lt_of_le hj t0) (by decide)
    | 10, _, _ => exact e 159 j (Nat.lt_of_lt_of_le hj t1) (by decide)
    | 11, _, _ => exact e 160 j (Nat.lt_of_lt_of_le hj t1) (by decide)
    | 12, _, _ => exact e 162 j (Nat.lt_of_lt_of_le hj t2) (by decide)
    | 13, _, _ => exact e 163 j (Nat.lt_of_lt_of_le hj t2) (by decide)
  · obtain ⟨f0, a1, a2, a3, a4⟩ := h4 k hk
    refine ⟨f0, (e 165 k (by show k < 5; omega) (by decide)).trans a1, (e 166 k (by show k < 5; omega) (by decide)).trans a2, a3, fun kn hkn i hi => ?_⟩
    rw [e 167 (f0 + i) (by show f0 + i < 64; omega) (by decide), e 168 (f0 + i) (by show f0 + i < 64; omega) (by decide)]
    exact a4 kn hkn i hi
theorem pr_text {G : Gx} {l : Launch} {ly : Ly} {M : Mm} {x : Int32} (hI : INV ly M) : PrI G l ly mX11_text mX12_text [.int x] M := by
  obtain ⟨pl, ps, n, A, hC, hR, hP⟩ := hI
  obtain ⟨ht, hby⟩ := hP.1
  have t1 := hC.2.2.1
  have t2 := hR.2.1
  have hw6 := hP.w6
  have hps := hC.2.1.1
  have hp7 := hC.p7
  have hby0 : byA (M.1 150) A.tp := by rw [t2.2]; exact hby
  refine Mt.deep (k1 := 7) (tX11_text (f := A.f) (tp := A.tp) (pl := pl) (ps := ps) ⟨t1.1, ht⟩ hby t1.2.1 t1.2.2 hps hC.2.1.2.1 hC.2.1.2.2 (fun n p2 m h => txF_cell h) hC.1 ⟨fun g0 => ?_, fun nn e1 b1 => ⟨fun N q j hx tc fa => ?_, fun N0 N p2 m j hx tc cps N2 n1 n2 n3 n4 bg => ?_⟩⟩) (by decide)
  · refine ⟨rfl, _, rfl, Mt.deep (k1 := 129) (tX12_text ⟨t2.1, ht⟩ hby0 hR.1 ⟨fun _ => ⟨rfl, rfl, INV.qq hC hR hP quX.rf qR.rf.f0⟩, fun n2 f1 d1 => ?_⟩) (by decide)⟩
    rw [f1] at g0
    exact absurd g0 (fun g => g.elim (fun g => absurd g (nI_pos (by omega))) (fun g => absurd ((nI_ltI (by omega) (by omega)).mp g) (by omega)))
  · have eN : ∀ a, 149 ≤ a → N.1 a = M.1 a := fun a ha => (tc.2 a (by omega)).trans (sI_ne (by omega))
    have hRN : RA ly N A := hR.mv eN (hR.1.mv (fun j => tc.1 149 j (by omega)))
    have e150 : N.1 150 = A.f := (eN 150 (by omega)).trans t2.2
    refine ⟨rfl, _, rfl, Mt.deep (k1 := 129) (tX12_text (tp := A.tp) ⟨hRN.2.1.1, ht⟩ (by rw [e150]; exact hby) hRN.1 ⟨fun g0 => ?_, fun n2 f1 d1 => ?_⟩) (by decide)⟩
    · rw [e1] at g0
      exact absurd g0 (fun g => g.elim (fun g => absurd g (nI_pos (by omega))) (fun g => absurd ((nI_ltI (by omega) (by omega)).mp g) (by omega)))
    · obtain rfl : n2 = nn := nI_inj (by omega) (by omega) (f1.symm.trans e1)
      rw [e150]
      refine ⟨fun K q2 j2 hx2 r k0 k1 k2 k3 => ⟨rfl, rfl, ?_⟩, fun K p3 m3 hx2 => absurd (hx.symm.trans hx2) (fun h => by cases h)⟩
      have hq := Sum.inr.inj (hx.symm.trans hx2)
      cases hq
      have eK : ∀ a, a < 149 → K.1 a = N.1 a := fun a ha => funext (fun j => r.2.1 a j (by omega) (by omega))
      have eR : ∀ a, 169 ≤ a → K.1 a = N.1 a := fun a ha => funext (fun j => r.2.1 a j (by omega) (by omega))
      have cp : ∀ b, cpB K.1 b N.1 b := fun b => cpB.eq (fun a ha => eR a (by omega))
      have eC : ∀ a, a < 149 → ¬ (a = 0 ∨ a = 2 ∨ a = 3 ∨ a = 5 ∨ a = 6 ∨ (ps ≤ a ∧ a ≤ ps + 33)) → K.1 a = M.1 a := fun a a1 a2 => (eK a a1).trans ((tc.2 a (by omega)).trans (sI_ne (by omega)))
      have r0 : ∀ a j, ¬ (a = 5 ∨ a = 2) → K.2.2 a j = M.2.2 a j := fun a j h => by rw [r.1]; exact tc.1 a j (by omega)
      have e0 : K.1 0 = upd (M.1 0) 1 0 := (eK 0 (by omega)).trans (tc.2 0 (by omega))
      obtain ⟨⟨tp, f, q1, q2⟩, p, X, h, g, ⟨nd, Ds⟩, im, Y, h2⟩ := A
      obtain ⟨c1, ⟨c2, c3, c4⟩, ⟨c5, c6, c7⟩, c8, c9, c10, c11, c12, c13, ⟨c14, c15⟩, c16⟩ := hC
      obtain ⟨r1, r2, r3, r4, r5, r6, r7, r8, ⟨r9, r9b⟩, r10⟩ := hRN
      obtain ⟨p1, p2, p3, p4, p5, p6, p7⟩ := hP
      refine ⟨pl, ps, n, (⟨0, f, q, nI (tkP f n2 j)⟩, p, X, h, g, ⟨nd, Ds⟩, im, Y, h2), ⟨?_, ⟨c2, (r0 0 3 (by omega)).trans c3, (r0 0 4 (by omega)).trans c4⟩, ⟨by rw [e0]; rfl, fun j hj => absurd hj (Nat.not_lt_zero j), ?_⟩, ?_, c9.mv (fun k k1 k2 => eC k (by omega) (by omega)), c10.mv (fun k k1 k2 => eC k (by omega) (by omega)) (fun j _ => r0 75 j (by omega)), ?_, c12.mv (fun a a1 a2 => eC a (by omega) (by omega)), c13.mv (fun a a1 a2 => eC a (by omega) (by omega)), ⟨by rw [e0]; exact c14, fun q => ⟨(c15 q).1.mv (fun k k1 k2 => eC k (by omega) (by omega)) (fun j _ => r0 109 j (by omega)), ?_⟩⟩, ?_⟩, ⟨by rw [r.1]; exact r1, ⟨k1, ?_⟩, ⟨k2, k3⟩, r4.rt p2.1 r, (cp 0).ns hw6 r5, ?_, r7.mv ⟨r.2.2 70 (by omega), r.2.2 71 (by omega)⟩ (fun a a1 a2 => eR a (by omega)), r8.cp hw6 (r.2.2 51 (by omega)) (fun b _ => cp b), ⟨(r.2.2 50 (by omega)).trans r9, fun q => ⟨(cp 2).ns hw6 (r9b q).1, ?_⟩⟩, fun b hb => (cp b).gd (r10 b hb)⟩, ⟨⟨Nat.zero_le _, fun j hj => absurd hj (Nat.not_lt_zero j)⟩, p2, p3, p4, p5, p6, p7⟩⟩
      · rw [r.1]
        exact c1.of (fun z hz => tc.1 z.1 z.2.1 (xFin_t z hz))
      · rw [eC 4 (by omega) (by omega)]; exact c7
      · rw [eK 2 (by omega)]; exact fa
      · rw [eC 126 (by omega) (by omega)]; exact c11
      · rw [eC 127 (by omega) (by omega)]; exact (c15 q).2
      · rw [eC 144 (by omega) (by omega)]; exact c16
      · exact (funext (fun j => r.2.1 150 j (by omega) (by omega))).trans r2.2
      · rw [eR 183 (by omega)]; exact r6
      · rw [eR 183 (by omega)]; exact (r9b q).2
  · obtain ⟨g1, g2, g3, g4, g5, g6, g7, g8⟩ := bg
    have eN0 : ∀ a, ¬ (a = 0 ∨ a = 2 ∨ a = 3 ∨ a = 5 ∨ a = 6 ∨ (ps ≤ a ∧ a ≤ ps + 33)) → N0.1 a = M.1 a := fun a h => (tc.2 a (by omega)).trans (sI_ne (by omega))
    have eNN : ∀ a, ¬ (a = 0 ∨ (75 ≤ a ∧ a ≤ 90) ∨ a = 128 ∨ a = 134) → N.1 a = N0.1 a := fun a h => (g2 a h).trans (by rw [n1])
    have eN : ∀ a, 149 ≤ a → N.1 a = M.1 a := fun a ha => (eNN a (by omega)).trans (eN0 a (by omega))
    have rM : ∀ a j, ¬ (a = 5 ∨ a = 2 ∨ (a = 0 ∧ (j = 3 ∨ j = 4)) ∨ (a = 75 ∧ j < 4)) → N.2.2 a j = M.2.2 a j := fun a j h => by
      rw [g1, rSc_hi (by omega), n2 a j (by omega)]
      exact tc.1 a j (by omega)
    have hRN : RA ly N A := hR.mv eN (hR.1.mv (fun j => rM 149 j (by omega)))
    have e150 : N.1 150 = A.f := (eN 150 (by omega)).trans t2.2
    have hX0 : XW ly N0.2.2 := hC.1.of (fun z hz => tc.1 z.1 z.2.1 (xFin_t z hz))
    have hX2 : XW ly N2.2.2 := hX0.of (fun z hz => n2 z.1 z.2.1 (xFin_0 z hz))
    have hXN : XW ly N.2.2 := by rw [g1]; exact XW_rSc hX2 (Or.inl rfl)
    have hPl := cps.2.2.2.1
    have hct := cps.2.2.2.2.2.2.2
    have hfl := cps.2.2.2.2.2.2.1
    have hok := txF_ok 701 p0_ok hx
    obtain ⟨mc, m1, m2, m3⟩ := hct.2.2.2.2.2
    have hct1 := hct.2.1
    have h03 : N.2.2 0 3 = some ps := by rw [g1, rSc_hi (by omega)]; exact n3
    have h04 : N.2.2 0 4 = some pl := by rw [g1, rSc_hi (by omega)]; exact n4
    rw [n1] at g3 g5 g7
    have e88 : ∀ i, i < p2.ct 1 → N.1 88 i = p2.D 10 i := fun i hi => by
      rw [g7.2.1, pre_lt (show i < 8 by omega)]
      exact hPl.2.2.2.1 10 (by decide) (by decide) i hi
    have e89 : ∀ i, i < p2.ct 1 → N.1 89 i = p2.D 11 i := fun i hi => by
      rw [g7.2.2.1, pre_lt (show i < 8 by omega)]
      exact hPl.2.2.2.1 11 (by decide) (by decide) i hi
    have hfat : ∀ i, i < p2.ct 1 → (∃ c : Nat, c < mc ∧ N.1 88 i = nI c) ∧ ∃ k : Nat, 1 ≤ k ∧ k ≤ 99 ∧ N.1 89 i = nI k := fun i hi => by
      obtain ⟨_, ⟨v, mm, q1, q2, q3, q4⟩, v2, q5, q6, q7⟩ := hok.2.2.2.1 i hi
      rw [e88 i hi, e89 i hi]
      have : mm = mc := nI_inj (by omega) (by omega) (q2.symm.trans m1)
      exact ⟨⟨v, by omega, q1⟩, v2, q6, q7, q5⟩
    refine ⟨rfl, _, rfl, Mt.deep (k1 := 129) (tX12_text (tp := A.tp) ⟨hRN.2.1.1, ht⟩ (by rw [e150]; exact hby) hRN.1 ⟨fun g0 => ?_, fun n9 f1 d1 => ?_⟩) (by decide)⟩
    · rw [e1] at g0
      exact absurd g0 (fun g => g.elim (fun g => absurd g (nI_pos (by omega))) (fun g => absurd ((nI_ltI (by omega) (by omega)).mp g) (by omega)))
    · obtain rfl : n9 = nn := nI_inj (by omega) (by omega) (f1.symm.trans e1)
      rw [e150]
      refine ⟨fun K q2 j2 hx2 => absurd (hx.symm.trans hx2) (fun h => by cases h), fun K p9 m9 hx2 k1 k2 k3 k4 k5 k6 k7 k8 k9 k10 k11 k12 k13 k14 k15 k16 k17 k18 k19 k20 => ?_⟩
      have hq := Sum.inl.inj (hx.symm.trans hx2)
      cases hq
      refine ⟨rfl, rfl, ?_⟩
      have eK : ∀ a, a < 149 → K.1 a = N.1 a := fun a ha => k4 a (by omega)
      have hnC : nsC N 75 ps p2 (vS N.1 75, 0, 0, p2.ct 1, N.1 88, N.1 89) := ⟨by rw [g1]; exact ⟨rfl, rfl, rfl, rfl⟩, rfl, g5.2.2.1.symm, g5.2.2.2.1, g5.1.trans hPl.1.2.2.2.2.1, g7.1, rfl, rfl, fun c hc => by
        show N.1 90 c = rfC (p2.D 0 3) (N.1 88) (N.1 89) (fun _ => 0) (p2.ct 1) c
        rw [g7.2.2.2, hPl.1.2.2.2.1]
        refine rfC_E eqN.rf eqN.rf (p2.ct 1) (by omega) (fun i hi => ?_) c hc
        obtain ⟨⟨cc, q1, q2⟩, _⟩ := hfat i hi
        rw [q2]
        exact vp_in_nI (n := cc) (by omega) (by decide)⟩
      have z12 : ∀ {f g : Nat → Int32}, g = pre 12 (fun _ => 0) f → ∀ j, j < 12 → g j = 0 := fun {f g} h j hj => by rw [h, pre_lt hj]
      have z6 : ∀ {f g : Nat → Int32}, g = pre 6 (fun _ => 0) f → ∀ j, j < 6 → g j = 0 := fun {f g} h j hj => by rw [h, pre_lt hj]
      have b0 : ∀ {f F : Nat → Int32} {k j : Nat}, j < k → blk 0 k F f (0 + j) = F j := fun {f F k j} h => blk_in h
      refine ⟨ps, pl, mc, (⟨0, A.f, 0, -1⟩, p2, (vS N.1 75, 0, 0, p2.ct 1, N.1 88, N.1 89), N.1 126, (0, -1, N.1 129, N.1 130, N.1 131, N.1 132, N.1 133), ⟨0, fun _ => dOf (vS N.1 75, 0, 0, p2.ct 1, N.1 88, N.1 89)⟩, 0, (vS N.1 75, 0, 0, p2.ct 1, N.1 88, N.1 89), N.1 127), ⟨by rw [k3]; exact hXN, ⟨by omega, by rw [k3]; exact h03, by rw [k3]; exact h04⟩, ⟨?_, fun j hj => absurd hj (Nat.not_lt_zero j), ?_⟩, ?_, hPl.mv (fun k b1 b2 => (eK k (by omega)).trans (eNN k (by omega))), hnC.mv (fun k b1 b2 => eK k (by omega)) (fun j _ => by rw [k3]), eK 126 (by omega), ⟨?_, ?_, eK 129 (by omega), eK 130 (by omega), eK 131 (by omega), eK 132 (by omega), eK 133 (by omega)⟩, ⟨?_, rfl, fun k hk => absurd hk (Nat.not_lt_zero k)⟩, ⟨?_, fun q => absurd rfl q⟩, ?_⟩, ⟨by rw [k3]; exact hRN.1, ⟨k6.2.1, (k4 150 (by omega)).trans e150⟩, ⟨k6.2.2.1, k6.2.2.2.1⟩, k2, ⟨?_, ⟨?_, by show p2.ct 1 ≤ 12; omega, fun j hj => ?_, fun j hj => ?_⟩, ?_⟩, ?_, ⟨k6.2.2.2.2.2.2.1, k6.2.2.2.2.2.2.2, fun i hi => absurd hi (Nat.not_lt_zero i)⟩, ⟨k6.2.2.2.2.2.1, fun k hk => absurd hk (Nat.not_lt_zero k)⟩, ⟨k6.2.2.2.2.1, fun q => absurd rfl q⟩, fun b hb => ?_⟩, ⟨⟨Nat.zero_le _, fun j hj => absurd hj (Nat.not_lt_zero j)⟩, ⟨hct, hok, m1, m2, m3⟩, ⟨Nat.zero_le _, by show p2.ct 1 ≤ 8; omega, hfat, Or.inl rfl, 0, by decide, g5.2.2.2.2.1⟩, ⟨Nat.zero_le _, Or.inl rfl, fun i hi => absurd hi (Nat.not_lt_zero i)⟩, Nat.zero_le _, Or.inl rfl, fun q => absurd rfl q⟩⟩
      · rw [eK 0 (by omega), g3 1 (by decide), show N0.1 0 = upd (M.1 0) 1 0 from tc.2 0 (by omega)]; rfl
      · rw [eK 4 (by omega), eNN 4 (by omega), eN0 4 (by omega)]; exact t1.2.2
      · rw [eK 2 (by omega), eNN 2 (by omega)]; exact hfl
      · rw [eK 128 (by omega)]; exact g8.1
      · rw [eK 128 (by omega)]; exact g8.2.1
      · rw [eK 134 (by omega)]; exact g8.2.2
      · rw [eK 0 (by omega)]; exact g4
      · rw [eK 144 (by omega), eNN 144 (by omega), eN0 144 (by omega)]; exact hC.2.2.2.2.2.2.2.2.2.2
      · refine ⟨fun j hj => ?_, fun j hj => ?_, fun j hj => ?_, fun j hj => ?_, fun w hw => ?_, ?_, ⟨?_, g5.2.2.2.2.2⟩, ?_, z12 g6.2.2.2.2.2.2.2.1, z12 g6.2.2.2.2.2.2.2.2⟩
        · show K.1 173 (0 + j) = N.1 77 j
          rw [k11, b0 hj, z12 g6.1 j hj]
        · show K.1 174 (0 + j) = N.1 78 j
          rw [k12, b0 hj, z12 g6.2.1 j hj]
        · show K.1 175 (0 + j) = N.1 81 j
          rw [k13, b0 hj, z12 g6.2.2.1 j hj]
        · show K.1 176 (0 + j) = N.1 82 j
          rw [k14, b0 hj, z12 g6.2.2.2.1 j hj]
        · have hw2 : w < 6 := Nat.lt_of_lt_of_le hw hct.1
          show wk1 0 (K.1 177 (0 + w)) (K.1 178 (0 + w)) (K.1 179 (0 + w)) (N.1 84 w) (N.1 85 w) (N.1 86 w)
          rw [k15, k16, k17, b0 hw2, b0 hw2, b0 hw2, z6 g6.2.2.2.2.1 w hw2, z6 g6.2.2.2.2.2.1 w hw2, z6 g6.2.2.2.2.2.2.1 w hw2]
          exact ⟨rfl, rfl, rfl, Or.inl ⟨rfl, rfl⟩⟩
        · rw [k10, pk_us]; exact g5.2.2.2.2.1.symm
        · rw [k7, pk_us]; rfl
        · rw [k8, pk_us]; exact (g5.2.1.trans hPl.1.2.2.2.2.2.2.2.1).symm
      · rw [k18, pk_us]; rfl
      · have hj2 : j < p2.ct 1 := hj
        show K.1 181 (0 + j) = N.1 88 j
        rw [k19, Nat.zero_add, pre_lt hj2, e88 j hj2]
      · have hj2 : j < p2.ct 1 := hj
        show K.1 182 (0 + j) = N.1 89 j
        rw [k20, Nat.zero_add, pre_lt hj2, e89 j hj2]
      · rw [k9, pk_us]; rfl
      · rw [k4 183 (by omega), eN 183 (by omega), eNN 126 (by omega), eN0 126 (by omega), show M.1 126 = A.h from hC.2.2.2.2.2.2.1]
        exact hR.2.2.2.2.2.1
      · by_cases e : b = 0
        · subst e
          exact fun _ => ⟨⟨p2.ct 1, by omega, by rw [k18, pk_us]⟩, by rw [k9, pk_us]; exact Or.inl rfl⟩
        · unfold gdB
          rw [k18, k9, pk_un e, pk_un e]
          exact hRN.2.2.2.2.2.2.2.2.2 b hb
