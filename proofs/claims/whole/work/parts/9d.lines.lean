theorem rlFat {G : Gx} {l : Launch} {ly : Ly} {M : Mm} {f : Nat → Int32} {n i : Nat} {pl : Nat} {p : Pl} (hS : CPs ly M f n pl p i)  (hX : XW ly M.2.2) : Mt G l mX6_readFat (4, 0, 0, false) [.ref 2] ly M (clP ly M f n pl (lnT (kdF f n) (nvF f n) (nx f n) p i)) := by
  refine Mt.of (lv := [some (.ref 2), none, none, none]) rfl ?_
  obtain ⟨hr, hp7, h24, hP, hb, h6, hft, hct⟩ := hS
  have r6 := hr.2.2.1
  refine Rn.aload_n dX6_readFat_0 rfl ?_
  refine Rn.iconstv (v := 1) dX6_readFat_1 ic_1 ?_
  refine Rn.callV1 dX6_readFat_2 vX6_112 (xc2 hX) (by decide) rfl (tkNamed (M := M) (i := i) (pl := pl) (k := 1) (m := p.ct 1) hr hp7 h24 (by decide) ⟨hP.2.1 1 (by decide), hct.2.1⟩ hX) (by decide) ⟨(Nat.le_of_ble_eq_true rfl), (Nat.le_of_ble_eq_true rfl), (Nat.le_of_ble_eq_true rfl)⟩ (fun h => by cases h) (fun v1 ly1 N1 ⟨q2, qr, hh⟩ => ?_)
  rw [q2]
  have hna := naQ_c (kd := kdF f n) (nv := nvF f n) (i := nx f n i) (m := p.ct 1) (N := M.1 (pl + 3 + 1)) (N2 := p.D 2) (fun j hj => hP.2.2.2.1 2 (by decide) (by decide) j hj)
  rw [hna] at hh
  rcases hh with ⟨z0, q1, g0, hfa⟩ | ⟨z0, za, q1, g0, hfa⟩ | ⟨z0, za, q1, g0, ga, gb, hrN1⟩
  · skip
    rw [q1]
    have hFN1 : pcF M N1 pl := pcF.o qr (fun a hb => g0 a (fun e => hb (Or.inl e)))
    have hXN1 : XW ly N1.2.2 := hFN1.xw hX
    have h24N1 : N1.2.2 2 4 = some pl := (hFN1.1 2 4 (by omega)).trans h24
    refine Rn.if_ne dX6_readFat_5 (fun h9 => (by first | exact absurd h9 (by decide) | exact absurd (by decide) h9)) (fun h9 => ?_)
    refine Rn.iconstv (v := 0) dX6_readFat_8 ic_0 ?_
    exact Rn.iret (ty := .boolean) dX6_readFat_9 rfl rfl ⟨rfl, hFN1, Or.inr ⟨_, _, if_pos z0, rfl, hfa⟩⟩
  · skip
    rw [q1]
    have hne := Nat.ne_of_lt z0
    have hFN1 : pcF M N1 pl := pcF.o qr (fun a hb => g0 a (fun e => hb (Or.inl e)) (fun e => hb (Or.inr (Or.inl e))))
    have hXN1 : XW ly N1.2.2 := hFN1.xw hX
    have h24N1 : N1.2.2 2 4 = some pl := (hFN1.1 2 4 (by omega)).trans h24
    refine Rn.if_ne dX6_readFat_5 (fun h9 => (by first | exact absurd h9 (by decide) | exact absurd (by decide) h9)) (fun h9 => ?_)
    refine Rn.iconstv (v := 0) dX6_readFat_8 ic_0 ?_
    exact Rn.iret (ty := .boolean) dX6_readFat_9 rfl rfl ⟨rfl, hFN1, Or.inr ⟨_, _, (if_neg hne).trans (qK_n za), rfl, hfa⟩⟩
  · skip
    rw [q1]
    have hne := Nat.ne_of_lt z0
    have hlt : p.ct 1 < 4 := z0
    have hFN1 : pcF M N1 pl := pcF.o qr (fun a hb => g0 a (by omega) (by omega) (by omega))
    have hXN1 : XW ly N1.2.2 := hFN1.xw hX
    have h24N1 : N1.2.2 2 4 = some pl := (hFN1.1 2 4 (by omega)).trans h24
    clear hna
    refine Rn.if_ne dX6_readFat_5 (fun h9 => ?_) (fun h9 => (by first | exact absurd h9 (by decide) | exact absurd (by decide) h9))
    have pl1 := hrN1.2.2.2.1
    refine Rn.aload_n dX6_readFat_10 rfl ?_
    refine Rn.getR dX6_readFat_11 fX6_20 rfl (xc2 hXN1) (show N1.2.2 2 2 = some 3 from (xp2_2 hXN1)) ?_
    refine Rn.getI dX6_readFat_14 fX6_128 rfl (xc3 hXN1) ?_
    refine Rn.topI (y := nI (tkP f n (nx f n (nx f n i)))) (pl1) ?_
    refine Rn.istore_n (lv' := [some (.ref 2), some (.int (nI (tkP f n (nx f n (nx f n i))))), none, none]) dX6_readFat_17 (by decide) rfl ?_
    refine Rn.aload_n dX6_readFat_18 rfl ?_
    refine Rn.iconstv (v := 1) dX6_readFat_19 ic_1 ?_
    refine Rn.putZ dX6_readFat_20 fX6_48 rfl rfl rfl (by decide) (xc2 hXN1) ?_
    obtain ⟨N2, e9⟩ : ∃ N9, N9 = sI N1 2 (upd (N1.1 2) 6 1) := ⟨_, rfl⟩
    rw [← e9]
    have s6 : N2.1 2 6 = 1 ∧ N2.1 2 5 = N1.1 2 5 ∧ N2.1 2 0 = N1.1 2 0 ∧ N2.1 2 1 = N1.1 2 1 ∧ N2.2.2 = N1.2.2 := by rw [e9]; exact ⟨rfl, rfl, rfl, rfl, rfl⟩
    have s2 : ∀ a, a ≠ 2 → N2.1 a = N1.1 a := fun a ha => by rw [e9]; exact sI_ne ha
    clear e9
    have hFN2 : pcF M N2 pl := hFN1.tr (pcF.o s6.2.2.2.2 (fun a hb => s2 a (fun e => hb (Or.inl e))))
    have hXN2 : XW ly N2.2.2 := hFN2.xw hX
    have h24N2 : N2.2.2 2 4 = some pl := (hFN2.1 2 4 (by omega)).trans h24
    have hrN2 : CRd N2 f n (nx f n (nx f n i)) := hrN1.of (s2 1 (by decide)) (s2 3 (by decide)) (s2 4 (by decide))
    have oN2 : ∀ a, a ≠ 2 → a ≠ 3 → a ≠ pl + 1 → a ≠ pl + 4 → N2.1 a = M.1 a := fun a a0 a1 a2 a3 => (s2 a a0).trans (g0 a a1 a2 a3)
    have hpl0 : N2.1 pl 0 = p.D 0 0 := by rw [oN2 pl (by omega) (by omega) (by omega) (by omega)]; exact hP.1.1
    refine Rn.aload_n dX6_readFat_23 rfl ?_
    refine Rn.iconstv (v := 0) dX6_readFat_24 ic_0 ?_
    refine Rn.aload_n dX6_readFat_25 rfl ?_
    refine Rn.getR dX6_readFat_26 fX6_33 rfl (xc2 hXN2) (show N2.2.2 2 4 = some pl from h24N2) ?_
    refine Rn.getI dX6_readFat_29 fX6_99 rfl (pc0 hXN2 hp7) ?_
    refine Rn.topI (y := p.D 0 0) (hpl0) ?_
    refine Rn.iconstv (v := 1) dX6_readFat_32 ic_1 ?_
    refine Rn.isub dX6_readFat_33 ?_
    refine Rn.callV2 dX6_readFat_34 vX6_95 (xc2 hXN2) (by decide) rfl (tkNum (M := N2) (i := nx f n (nx f n i)) hrN2 (by decide) (hi_c hct.2.2.2.2.2) hXN2) (by decide) ⟨(Nat.le_of_ble_eq_true rfl), (Nat.le_of_ble_eq_true rfl), (Nat.le_of_ble_eq_true rfl)⟩ (fun h => by cases h) (fun v1 ly1 N3 ⟨q2, qr, hh⟩ => ?_)
    rw [q2]
    rcases hh with ⟨z1, q1, y1, x1_, g1, hrN3⟩ | ⟨z1, q1, g1, hfa⟩
    · skip
      rw [q1]
      have hFN3 : pcF M N3 pl := hFN2.tr (pcF.o qr (fun a hb => g1 a (fun e => hb (Or.inr (Or.inl e)))))
      have hXN3 : XW ly N3.2.2 := hFN3.xw hX
      have h24N3 : N3.2.2 2 4 = some pl := (hFN3.1 2 4 (by omega)).trans h24
      refine Rn.istore_n (lv' := [some (.ref 2), some (.int (nI (tkP f n (nx f n (nx f n i))))), some (.int (nvF f n (nx f n (nx f n i)))), none]) dX6_readFat_37 (by decide) rfl ?_
      refine Rn.iload_n dX6_readFat_38 rfl ?_
      refine Rn.iconstv (v := -1) dX6_readFat_39 ic_m1 ?_
      refine Rn.icmp_ne dX6_readFat_40 (fun h9 => ?_) (fun h9 => absurd h9 y1)
      refine Rn.aload_n dX6_readFat_45 rfl ?_
      refine Rn.getR dX6_readFat_46 fX6_33 rfl (xc2 hXN3) (show N3.2.2 2 4 = some pl from h24N3) ?_
      refine Rn.getR dX6_readFat_49 fX6_129 rfl (pc0 hXN3 hp7) (show N3.2.2 pl 12 = some (pl + 13) from (pp0_12 hXN3 hp7)) ?_
      refine Rn.iload_n dX6_readFat_52 rfl ?_
      have oN3 : ∀ a, a ≠ 2 → a ≠ 3 → a ≠ pl + 1 → a ≠ pl + 4 → N3.1 a = M.1 a := fun a a0 a1 a2 a3 => (g1 a a1).trans (oN2 a a0 a1 a2 a3)
      have hc3 : N3.1 (pl + 13) 0 = nI (p.ct 1) := by rw [oN3 (pl + 13) (by omega) (by omega) (by omega) (by omega)]; exact hP.2.2.1.2
      have hr3 : N3.1 (pl + 13 + 1) = M.1 (pl + 14) := oN3 (pl + 14) (by omega) (by omega) (by omega) (by omega)
      have hcr : iFats ly N3 (pl + 13) := ⟨pc13 hXN3 hp7, pc14 hXN3 hp7, pc15 hXN3 hp7, pp13_1 hXN3 hp7, pp13_2 hXN3 hp7⟩
      have hsy : hasIt (N3.1 (pl + 13 + 1)) (nvF f n (nx f n (nx f n i))) (p.ct 1) ↔ ¬ wdF (fun j => decide (p.D 10 j = nvF f n (nx f n (nx f n i)))) (p.ct 1) 0 = -1 := by
        rw [hr3]
        constructor
        · rintro ⟨j, hj, e⟩
          exact wdF_y (p.ct 1) 0 j (by omega) (Nat.zero_le j) (by omega) (decide_eq_true ((hP.2.2.2.1 10 (by decide) (by decide) j hj).symm.trans e))
        · intro h
          exact Classical.byContradiction (fun g => h (wdF_no (p.ct 1) 0 (fun j _ hj => decide_eq_false (fun e => g ⟨j, by omega, (hP.2.2.2.1 10 (by decide) (by decide) j (show j < p.ct 1 by omega)).trans e⟩))))
      by_cases hst : wdF (fun j => decide (p.D 10 j = nvF f n (nx f n (nx f n i)))) (p.ct 1) 0 = -1
      · skip
        refine Rn.callV1 dX6_readFat_53 vX6_133 (pc13 hXN3 hp7) (by decide) rfl (tX2_standsAt (M := N3) (a := pl + 13) (n := p.ct 1) (x := nvF f n (nx f n (nx f n i))) (v := 0) hcr hc3 (by omega) (Or.inr ⟨fun g => hsy.mp g hst, rfl⟩)) (by decide) ⟨(Nat.le_of_ble_eq_true rfl), (Nat.le_of_ble_eq_true rfl), (Nat.le_of_ble_eq_true rfl)⟩ (fun h => by cases h) (fun v1 ly1 M9 ⟨q1, q2, q3⟩ => ?_)
        rw [q1, q2, q3]
        refine Rn.if_eq dX6_readFat_56 (fun h9 => ?_) (fun h9 => (by first | exact absurd h9 (by decide) | exact absurd (by decide) h9))
        refine Rn.aload_n dX6_readFat_66 rfl ?_
        refine Rn.iconstv (v := 1) dX6_readFat_67 ic_1 ?_
        refine Rn.bipushv (v := 99) dX6_readFat_68 bp_99 ?_
        refine Rn.callV2 dX6_readFat_70 vX6_95 (xc2 hXN3) (by decide) rfl (tkNum (M := N3) (i := nx f n (nx f n (nx f n i))) hrN3 (by decide) (by decide) hXN3) (by decide) ⟨(Nat.le_of_ble_eq_true rfl), (Nat.le_of_ble_eq_true rfl), (Nat.le_of_ble_eq_true rfl)⟩ (fun h => by cases h) (fun v1 ly1 N4 ⟨q2, qr, hh⟩ => ?_)
        rw [q2]
        rcases hh with ⟨z2, q1, y2, x2_, g2, hrN4⟩ | ⟨z2, q1, g2, hfa⟩
        · skip
          rw [q1]
          have hFN4 : pcF M N4 pl := hFN3.tr (pcF.o qr (fun a hb => g2 a (fun e => hb (Or.inr (Or.inl e)))))
          have hXN4 : XW ly N4.2.2 := hFN4.xw hX
          have h24N4 : N4.2.2 2 4 = some pl := (hFN4.1 2 4 (by omega)).trans h24
          have c13 : N4.1 (pl + 13) 0 = nI (p.ct 1) := by rw [g2 (pl + 13) (by omega)]; exact hc3
          refine Rn.istore_n (lv' := [some (.ref 2), some (.int (nI (tkP f n (nx f n (nx f n i))))), some (.int (nvF f n (nx f n (nx f n i)))), some (.int (nvF f n (nx f n (nx f n (nx f n i)))))]) dX6_readFat_73 (by decide) rfl ?_
          refine Rn.aload_n dX6_readFat_74 rfl ?_
          refine Rn.getR dX6_readFat_75 fX6_33 rfl (xc2 hXN4) (show N4.2.2 2 4 = some pl from h24N4) ?_
          refine Rn.getR dX6_readFat_78 fX6_129 rfl (pc0 hXN4 hp7) (show N4.2.2 pl 12 = some (pl + 13) from (pp0_12 hXN4 hp7)) ?_
          refine Rn.iload_n dX6_readFat_81 rfl ?_
          refine Rn.iload_n dX6_readFat_82 rfl ?_
          have hcr : iFats ly N4 (pl + 13) := ⟨pc13 hXN4 hp7, pc14 hXN4 hp7, pc15 hXN4 hp7, pp13_1 hXN4 hp7, pp13_2 hXN4 hp7⟩
          refine Rn.callV2 dX6_readFat_83 vX6_142 (pc13 hXN4 hp7) (by decide) rfl (tX2_add (M := N4) (a := pl + 13) (k := p.ct 1) hcr c13 (by omega)) (by decide) ⟨(Nat.le_of_ble_eq_true rfl), (Nat.le_of_ble_eq_true rfl), (Nat.le_of_ble_eq_true rfl)⟩ (fun h => by cases h) (fun v1 ly1 N5 ⟨q1, q2, q3⟩ => ?_)
          rw [q1, q2]
          have d0 : N5.2.2 = N4.2.2 := by rw [q3]; rfl
          have d14 : N5.1 (pl + 14) = upd (N4.1 (pl + 14)) (p.ct 1) (nvF f n (nx f n (nx f n i))) := by rw [q3, sI_ne (show pl + 14 ≠ pl + 13 by omega), sI_ne (show pl + 14 ≠ pl + 13 + 2 by omega)]; exact sI_at _ _ _
          have d15 : N5.1 (pl + 15) = upd (N4.1 (pl + 15)) (p.ct 1) (nvF f n (nx f n (nx f n (nx f n i)))) := by rw [q3, sI_ne (show pl + 15 ≠ pl + 13 by omega)]; exact sI_at _ _ _
          have d13 : N5.1 (pl + 13) 0 = nI (p.ct 1 + 1) := by rw [q3]; exact (congrFun (sI_at _ _ _) 0).trans pk_us
          have dO : ∀ a, ¬ (pl + 13 ≤ a ∧ a ≤ pl + 15) → N5.1 a = N4.1 a := fun a ha => by rw [q3, sI_ne (show a ≠ pl + 13 by omega), sI_ne (show a ≠ pl + 13 + 2 by omega), sI_ne (show a ≠ pl + 13 + 1 by omega)]
          clear q3
          have hFN5 : pcF M N5 pl := hFN4.tr (pcF.o d0 (fun a hb => dO a (by omega)))
          have hXN5 : XW ly N5.2.2 := hFN5.xw hX
          have h24N5 : N5.2.2 2 4 = some pl := (hFN5.1 2 4 (by omega)).trans h24
          refine Rn.iload_n dX6_readFat_86 rfl ?_
          refine Rn.iconstv (v := -1) dX6_readFat_87 ic_m1 ?_
          refine Rn.icmp_eq dX6_readFat_88 (fun h9 => absurd h9 y2) (fun h9 => ?_)
          refine Rn.iconstv (v := 1) dX6_readFat_91 ic_1 ?_
          refine Rn.goto dX6_readFat_92 ?_
          have oN4 : ∀ a, a ≠ 2 → a ≠ 3 → a ≠ pl + 1 → a ≠ pl + 4 → N4.1 a = M.1 a := fun a a0 a1 a2 a3 => (g2 a a1).trans (oN3 a a0 a1 a2 a3)
          have hOK : ∀ a, a ≠ 2 → a ≠ 3 → a ≠ pl + 1 → a ≠ pl + 4 → ¬ (pl + 13 ≤ a ∧ a ≤ pl + 15) → N5.1 a = M.1 a := fun a a1 a2 a3 a4 a5 => (dO a a5).trans (oN4 a a1 a2 a3 a4)
          have hres : lnT (kdF f n) (nvF f n) (nx f n) p i = .inl (addF p (nvF f n (nx f n i)) (nvF f n (nx f n (nx f n i))) (nvF f n (nx f n (nx f n (nx f n i)))), nx f n (nx f n (nx f n (nx f n i)))) := (if_neg hne).trans ((qK_0 za).trans ((qK_0 z1).trans ((if_pos hst).trans (qK_0 z2))))
          have hrow : ∀ r, 1 ≤ r → r ≤ 13 → knD r = 1 → N5.1 (pl + cOf r) = upd (M.1 (pl + cOf r)) (p.ct 1) ((addF p (nvF f n (nx f n i)) (nvF f n (nx f n (nx f n i))) (nvF f n (nx f n (nx f n (nx f n i))))).1 r (p.ct 1)) := by
            intro r r1 r2 hk9
            match r, r1, r2 with
            | 1, _, _ => exact absurd hk9 (by decide)
            | 2, _, _ => exact (dO (pl + 4) (by omega)).trans (((g2 (pl + 4) (by omega)).trans ((g1 (pl + 4) (by omega)).trans (s2 (pl + 4) (by omega)))).trans (ga.trans (congrArg (upd _ _) (show nvF f n (nx f n i) = (addF p (nvF f n (nx f n i)) (nvF f n (nx f n (nx f n i))) (nvF f n (nx f n (nx f n (nx f n i))))).1 2 (p.ct 1) from pk_us.symm))))
            | 3, _, _ => exact absurd hk9 (by decide)
            | 4, _, _ => exact absurd hk9 (by decide)
            | 5, _, _ => exact absurd hk9 (by decide)
            | 6, _, _ => exact absurd hk9 (by decide)
            | 7, _, _ => exact absurd hk9 (by decide)
            | 8, _, _ => exact absurd hk9 (by decide)
            | 9, _, _ => exact absurd hk9 (by decide)
            | 10, _, _ => exact d14.trans ((congrArg (fun r9 => upd r9 _ _) (oN4 (pl + 14) (by omega) (by omega) (by omega) (by omega))).trans (congrArg (upd _ _) (show _ = (addF p (nvF f n (nx f n i)) (nvF f n (nx f n (nx f n i))) (nvF f n (nx f n (nx f n (nx f n i))))).1 10 (p.ct 1) from pk_us.symm)))
            | 11, _, _ => exact d15.trans ((congrArg (fun r9 => upd r9 _ _) (oN4 (pl + 15) (by omega) (by omega) (by omega) (by omega))).trans (congrArg (upd _ _) (show _ = (addF p (nvF f n (nx f n i)) (nvF f n (nx f n (nx f n i))) (nvF f n (nx f n (nx f n (nx f n i))))).1 11 (p.ct 1) from pk_us.symm)))
            | 12, _, _ => exact absurd hk9 (by decide)
            | 13, _, _ => exact absurd hk9 (by decide)
          have hrow2 : ∀ r, 1 ≤ r → r ≤ 13 → knD r ≠ 1 → N5.1 (pl + cOf r) = M.1 (pl + cOf r) := by
            intro r r1 r2 hk9
            match r, r1, r2 with
            | 1, _, _ => exact hOK (pl + 3) (by omega) (by omega) (by omega) (by omega) (by omega)
            | 2, _, _ => exact absurd rfl hk9
            | 3, _, _ => exact hOK (pl + 5) (by omega) (by omega) (by omega) (by omega) (by omega)
            | 4, _, _ => exact hOK (pl + 6) (by omega) (by omega) (by omega) (by omega) (by omega)
            | 5, _, _ => exact hOK (pl + 8) (by omega) (by omega) (by omega) (by omega) (by omega)
            | 6, _, _ => exact hOK (pl + 9) (by omega) (by omega) (by omega) (by omega) (by omega)
            | 7, _, _ => exact hOK (pl + 10) (by omega) (by omega) (by omega) (by omega) (by omega)
            | 8, _, _ => exact hOK (pl + 11) (by omega) (by omega) (by omega) (by omega) (by omega)
            | 9, _, _ => exact hOK (pl + 12) (by omega) (by omega) (by omega) (by omega) (by omega)
            | 10, _, _ => exact absurd rfl hk9
            | 11, _, _ => exact absurd rfl hk9
            | 12, _, _ => exact hOK (pl + 16) (by omega) (by omega) (by omega) (by omega) (by omega)
            | 13, _, _ => exact hOK (pl + 17) (by omega) (by omega) (by omega) (by omega) (by omega)
          have hD2 : ∀ r j, 1 ≤ r → r ≤ 13 → (knD r ≠ 1 ∨ j < p.ct 1) → (addF p (nvF f n (nx f n i)) (nvF f n (nx f n (nx f n i))) (nvF f n (nx f n (nx f n (nx f n i))))).1 r j = p.D r j := fun r j _ _ h9 => (set2_k (a := 11) rfl h9).trans ((set2_k (a := 10) rfl h9).trans ((set2_k (a := 2) rfl h9).trans (rfl)))
          have hPN : CPl N5 pl (addF p (nvF f n (nx f n i)) (nvF f n (nx f n (nx f n i))) (nvF f n (nx f n (nx f n (nx f n i))))) := CPl.add (k := 1) hP (hOK pl (by omega) (by omega) (by omega) (by omega) (by omega)) rfl ((dO (pl + 1) (by omega)).trans (((g2 (pl + 1) (by omega)).trans ((g1 (pl + 1) (by omega)).trans (s2 (pl + 1) (by omega)))).trans gb)) ((congrFun (hOK (pl + 7) (by omega) (by omega) (by omega) (by omega) (by omega)) 0).trans hP.2.2.1.1) d13 hrow hrow2 hD2 (fun a a1 a2 => hOK a (by omega) (by omega) (by omega) (by omega) (by omega))
          have h2N : N5.1 2 = N2.1 2 := (dO 2 (by omega)).trans ((g2 2 (by decide)).trans (g1 2 (by decide)))
          exact Rn.iret (ty := .boolean) dX6_readFat_96 rfl rfl ⟨rfl, hFN5, Or.inl ⟨_, _, hres, rfl, hrN4.of (dO 1 (by omega)) (dO 3 (by omega)) (dO 4 (by omega)), hp7, h24N5, hPN, by rw [h2N, s6.2.1, g0 2 (by decide) (by omega) (by omega)]; exact hb, by rw [h2N]; exact s6.1, ⟨by rw [h2N, s6.2.2.1, g0 2 (by decide) (by omega) (by omega)]; exact hft.1, by rw [h2N, s6.2.2.2.1, g0 2 (by decide) (by omega) (by omega)]; exact hft.2⟩, hct.1, hlt, hct.2.2.1, hct.2.2.2.1, hct.2.2.2.2.1, hct.2.2.2.2.2⟩⟩
        · skip
          rw [q1]
          have hFN4 : pcF M N4 pl := hFN3.tr (pcF.o qr (fun a hb => g2 a (fun e => hb (Or.inl e))))
          have hXN4 : XW ly N4.2.2 := hFN4.xw hX
          have h24N4 : N4.2.2 2 4 = some pl := (hFN4.1 2 4 (by omega)).trans h24
          have c13 : N4.1 (pl + 13) 0 = nI (p.ct 1) := by rw [g2 (pl + 13) (by omega)]; exact hc3
          refine Rn.istore_n (lv' := [some (.ref 2), some (.int (nI (tkP f n (nx f n (nx f n i))))), some (.int (nvF f n (nx f n (nx f n i)))), some (.int (-1))]) dX6_readFat_73 (by decide) rfl ?_
          refine Rn.aload_n dX6_readFat_74 rfl ?_
          refine Rn.getR dX6_readFat_75 fX6_33 rfl (xc2 hXN4) (show N4.2.2 2 4 = some pl from h24N4) ?_
          refine Rn.getR dX6_readFat_78 fX6_129 rfl (pc0 hXN4 hp7) (show N4.2.2 pl 12 = some (pl + 13) from (pp0_12 hXN4 hp7)) ?_
          refine Rn.iload_n dX6_readFat_81 rfl ?_
          refine Rn.iload_n dX6_readFat_82 rfl ?_
          have hcr : iFats ly N4 (pl + 13) := ⟨pc13 hXN4 hp7, pc14 hXN4 hp7, pc15 hXN4 hp7, pp13_1 hXN4 hp7, pp13_2 hXN4 hp7⟩
          refine Rn.callV2 dX6_readFat_83 vX6_142 (pc13 hXN4 hp7) (by decide) rfl (tX2_add (M := N4) (a := pl + 13) (k := p.ct 1) hcr c13 (by omega)) (by decide) ⟨(Nat.le_of_ble_eq_true rfl), (Nat.le_of_ble_eq_true rfl), (Nat.le_of_ble_eq_true rfl)⟩ (fun h => by cases h) (fun v1 ly1 N5 ⟨q1, q2, q3⟩ => ?_)
          rw [q1, q2]
          have d0 : N5.2.2 = N4.2.2 := by rw [q3]; rfl
          have d14 : N5.1 (pl + 14) = upd (N4.1 (pl + 14)) (p.ct 1) (nvF f n (nx f n (nx f n i))) := by rw [q3, sI_ne (show pl + 14 ≠ pl + 13 by omega), sI_ne (show pl + 14 ≠ pl + 13 + 2 by omega)]; exact sI_at _ _ _
          have d15 : N5.1 (pl + 15) = upd (N4.1 (pl + 15)) (p.ct 1) (-1) := by rw [q3, sI_ne (show pl + 15 ≠ pl + 13 by omega)]; exact sI_at _ _ _
          have d13 : N5.1 (pl + 13) 0 = nI (p.ct 1 + 1) := by rw [q3]; exact (congrFun (sI_at _ _ _) 0).trans pk_us
          have dO : ∀ a, ¬ (pl + 13 ≤ a ∧ a ≤ pl + 15) → N5.1 a = N4.1 a := fun a ha => by rw [q3, sI_ne (show a ≠ pl + 13 by omega), sI_ne (show a ≠ pl + 13 + 2 by omega), sI_ne (show a ≠ pl + 13 + 1 by omega)]
          clear q3
          have hFN5 : pcF M N5 pl := hFN4.tr (pcF.o d0 (fun a hb => dO a (by omega)))
          have hXN5 : XW ly N5.2.2 := hFN5.xw hX
          have h24N5 : N5.2.2 2 4 = some pl := (hFN5.1 2 4 (by omega)).trans h24
          have hfa5 : faC f n N5 (nmQ (kdF f n) (nvF f n) 1 99 (nx f n (nx f n (nx f n i)))) (nx f n (nx f n (nx f n i))) := by unfold faC; rw [dO 2 (by omega)]; exact hfa
          refine Rn.iload_n dX6_readFat_86 rfl ?_
          refine Rn.iconstv (v := -1) dX6_readFat_87 ic_m1 ?_
          refine Rn.icmp_eq dX6_readFat_88 (fun h9 => ?_) (fun h9 => (by first | exact absurd h9 (by decide) | exact absurd (by decide) h9))
          refine Rn.iconstv (v := 0) dX6_readFat_95 ic_0 ?_
          exact Rn.iret (ty := .boolean) dX6_readFat_96 rfl rfl ⟨rfl, hFN5, Or.inr ⟨_, _, (if_neg hne).trans ((qK_0 za).trans ((qK_0 z1).trans ((if_pos hst).trans (qK_n z2)))), rfl, hfa5⟩⟩
      · skip
        refine Rn.callV1 dX6_readFat_53 vX6_133 (pc13 hXN3 hp7) (by decide) rfl (tX2_standsAt (M := N3) (a := pl + 13) (n := p.ct 1) (x := nvF f n (nx f n (nx f n i))) (v := 1) hcr hc3 (by omega) (Or.inl ⟨hsy.mpr hst, rfl⟩)) (by decide) ⟨(Nat.le_of_ble_eq_true rfl), (Nat.le_of_ble_eq_true rfl), (Nat.le_of_ble_eq_true rfl)⟩ (fun h => by cases h) (fun v1 ly1 M9 ⟨q1, q2, q3⟩ => ?_)
        rw [q1, q2, q3]
        refine Rn.if_eq dX6_readFat_56 (fun h9 => (by first | exact absurd h9 (by decide) | exact absurd (by decide) h9)) (fun h9 => ?_)
        refine Rn.aload_n dX6_readFat_59 rfl ?_
        refine Rn.iconstv (v := 5) dX6_readFat_60 ic_5 ?_
        refine Rn.iload_n dX6_readFat_61 rfl ?_
        refine Rn.callV2 dX6_readFat_62 vX6_138 (xc2 hXN3) (by decide) rfl (tX6_failAt (M := N3) (x := 5) (y := nI (tkP f n (nx f n (nx f n i)))) hXN3) (by decide) ⟨(Nat.le_of_ble_eq_true rfl), (Nat.le_of_ble_eq_true rfl), (Nat.le_of_ble_eq_true rfl)⟩ (fun h => by cases h) (fun v1 ly1 M9 ⟨q1, q2, q3⟩ => ?_)
        rw [q1, q2, q3]
        exact Rn.iret (ty := .boolean) dX6_readFat_65 rfl rfl ⟨rfl, hFN3.tr (pcF.s (Or.inl rfl)), Or.inr ⟨_, _, (if_neg hne).trans ((qK_0 za).trans ((qK_0 z1).trans (if_neg hst))), rfl, rfl, rfl⟩⟩
    · skip
      rw [q1]
      have hFN3 : pcF M N3 pl := hFN2.tr (pcF.o qr (fun a hb => g1 a (fun e => hb (Or.inl e))))
      have hXN3 : XW ly N3.2.2 := hFN3.xw hX
      have h24N3 : N3.2.2 2 4 = some pl := (hFN3.1 2 4 (by omega)).trans h24
      refine Rn.istore_n (lv' := [some (.ref 2), some (.int (nI (tkP f n (nx f n (nx f n i))))), some (.int (-1)), none]) dX6_readFat_37 (by decide) rfl ?_
      refine Rn.iload_n dX6_readFat_38 rfl ?_
      refine Rn.iconstv (v := -1) dX6_readFat_39 ic_m1 ?_
      refine Rn.icmp_ne dX6_readFat_40 (fun h9 => (by first | exact absurd h9 (by decide) | exact absurd (by decide) h9)) (fun h9 => ?_)
      refine Rn.iconstv (v := 0) dX6_readFat_43 ic_0 ?_
      exact Rn.iret (ty := .boolean) dX6_readFat_44 rfl rfl ⟨rfl, hFN3, Or.inr ⟨_, _, (if_neg hne).trans ((qK_0 za).trans (qK_n z1)), rfl, hfa⟩⟩
theorem rlSleep {G : Gx} {l : Launch} {ly : Ly} {M : Mm} {f : Nat → Int32} {n i : Nat} {pl : Nat} {p : Pl} (hS : CPs ly M f n pl p i)  (hX : XW ly M.2.2) : Mt G l mX6_readSleeper (4, 0, 0, false) [.ref 2] ly M (clP ly M f n pl (lnZ (kdF f n) (nvF f n) (nx f n) p i)) := by
  refine Mt.of (lv := [some (.ref 2), none, none, none]) rfl ?_
  obtain ⟨hr, hp7, h24, hP, hb, h6, hft, hct⟩ := hS
  have r6 := hr.2.2.1
  have ht2 : M.1 (pl + 1) 2 = nI (p.ct 2) := hP.2.1 2 (by decide)
  refine Rn.aload_n dX6_readSleeper_0 rfl ?_
  refine Rn.getR dX6_readSleeper_1 fX6_33 rfl (xc2 hX) (show M.2.2 2 4 = some pl from h24) ?_
  refine Rn.getR dX6_readSleeper_4 fX6_144 rfl (pc0 hX hp7) (show M.2.2 pl 9 = some (pl + 1) from (pp0_9 hX hp7)) ?_
  refine Rn.iconstv (v := 2) dX6_readSleeper_7 ic_2 ?_
  refine Rn.iald dX6_readSleeper_8 (pc1 hX hp7) (by unfold vp_in; decide) ?_
  refine Rn.topI (y := M.1 (pl + 1) 2) (rfl) ?_
  refine Rn.topI (y := nI (p.ct 2)) (ht2) ?_
  refine Rn.istore_n (lv' := [some (.ref 2), some (.int (nI (p.ct 2))), none, none]) dX6_readSleeper_9 (by decide) rfl ?_
  refine Rn.aload_n dX6_readSleeper_10 rfl ?_
  refine Rn.iconstv (v := 2) dX6_readSleeper_11 ic_2 ?_
  refine Rn.callV1 dX6_readSleeper_12 vX6_112 (xc2 hX) (by decide) rfl (tkNamed (M := M) (i := i) (pl := pl) (k := 2) (m := p.ct 2) hr hp7 h24 (by decide) ⟨hP.2.1 2 (by decide), hct.2.2.1⟩ hX) (by decide) ⟨(Nat.le_of_ble_eq_true rfl), (Nat.le_of_ble_eq_true rfl), (Nat.le_of_ble_eq_true rfl)⟩ (fun h => by cases h) (fun v1 ly1 N1 ⟨q2, qr, hh⟩ => ?_)
  rw [q2]
  have hna := naQ_c (kd := kdF f n) (nv := nvF f n) (i := nx f n i) (m := p.ct 2) (N := M.1 (pl + 3 + 2)) (N2 := p.D 3) (fun j hj => hP.2.2.2.1 3 (by decide) (by decide) j hj)
  rw [hna] at hh
  rcases hh with ⟨z0, q1, g0, hfa⟩ | ⟨z0, za, q1, g0, hfa⟩ | ⟨z0, za, q1, g0, ga, gb, hrN1⟩
  · skip
    rw [q1]
    have hFN1 : pcF M N1 pl := pcF.o qr (fun a hb => g0 a (fun e => hb (Or.inl e)))
    have hXN1 : XW ly N1.2.2 := hFN1.xw hX
    have h24N1 : N1.2.2 2 4 = some pl := (hFN1.1 2 4 (by omega)).trans h24
    refine Rn.if_ne dX6_readSleeper_15 (fun h9 => (by first | exact absurd h9 (by decide) | exact absurd (by decide) h9)) (fun h9 => ?_)
    refine Rn.iconstv (v := 0) dX6_readSleeper_18 ic_0 ?_
    exact Rn.iret (ty := .boolean) dX6_readSleeper_19 rfl rfl ⟨rfl, hFN1, Or.inr ⟨_, _, if_pos z0, rfl, hfa⟩⟩
  · skip
    rw [q1]
    have hne := Nat.ne_of_lt z0
    have hFN1 : pcF M N1 pl := pcF.o qr (fun a hb => g0 a (fun e => hb (Or.inl e)) (fun e => hb (Or.inr (Or.inl e))))
    have hXN1 : XW ly N1.2.2 := hFN1.xw hX
    have h24N1 : N1.2.2 2 4 = some pl := (hFN1.1 2 4 (by omega)).trans h24
    refine Rn.if_ne dX6_readSleeper_15 (fun h9 => (by first | exact absurd h9 (by decide) | exact absurd (by decide) h9)) (fun h9 => ?_)
    refine Rn.iconstv (v := 0) dX6_readSleeper_18 ic_0 ?_
    exact Rn.iret (ty := .boolean) dX6_readSleeper_19 rfl rfl ⟨rfl, hFN1, Or.inr ⟨_, _, (if_neg hne).trans (qK_n za), rfl, hfa⟩⟩
  · skip
    rw [q1]
    have hne := Nat.ne_of_lt z0
    have hlt : p.ct 2 < 4 := z0
    have hFN1 : pcF M N1 pl := pcF.o qr (fun a hb => g0 a (by omega) (by omega) (by omega))
    have hXN1 : XW ly N1.2.2 := hFN1.xw hX
    have h24N1 : N1.2.2 2 4 = some pl := (hFN1.1 2 4 (by omega)).trans h24
    clear hna
    refine Rn.if_ne dX6_readSleeper_15 (fun h9 => ?_) (fun h9 => (by first | exact absurd h9 (by decide) | exact absurd (by decide) h9))
    refine Rn.aload_n dX6_readSleeper_20 rfl ?_
    refine Rn.iconstv (v := 1) dX6_readSleeper_21 ic_1 ?_
    refine Rn.putZ dX6_readSleeper_22 fX6_48 rfl rfl rfl (by decide) (xc2 hXN1) ?_
    obtain ⟨N2, e9⟩ : ∃ N9, N9 = sI N1 2 (upd (N1.1 2) 6 1) := ⟨_, rfl⟩
    rw [← e9]
    have s6 : N2.1 2 6 = 1 ∧ N2.1 2 5 = N1.1 2 5 ∧ N2.1 2 0 = N1.1 2 0 ∧ N2.1 2 1 = N1.1 2 1 ∧ N2.2.2 = N1.2.2 := by rw [e9]; exact ⟨rfl, rfl, rfl, rfl, rfl⟩
    have s2 : ∀ a, a ≠ 2 → N2.1 a = N1.1 a := fun a ha => by rw [e9]; exact sI_ne ha
    clear e9
    have hFN2 : pcF M N2 pl := hFN1.tr (pcF.o s6.2.2.2.2 (fun a hb => s2 a (fun e => hb (Or.inl e))))
    have hXN2 : XW ly N2.2.2 := hFN2.xw hX
    have h24N2 : N2.2.2 2 4 = some pl := (hFN2.1 2 4 (by omega)).trans h24
    have hrN2 : CRd N2 f n (nx f n (nx f n i)) := hrN1.of (s2 1 (by decide)) (s2 3 (by decide)) (s2 4 (by decide))
    have oN2 : ∀ a, a ≠ 2 → a ≠ 3 → a ≠ pl + 1 → a ≠ pl + 5 → N2.1 a = M.1 a := fun a a0 a1 a2 a3 => (s2 a a0).trans (g0 a a1 a2 a3)
    have hpl0 : N2.1 pl 0 = p.D 0 0 := by rw [oN2 pl (by omega) (by omega) (by omega) (by omega)]; exact hP.1.1
    refine Rn.aload_n dX6_readSleeper_25 rfl ?_
    refine Rn.iconstv (v := 0) dX6_readSleeper_26 ic_0 ?_
    refine Rn.aload_n dX6_readSleeper_27 rfl ?_
    refine Rn.getR dX6_readSleeper_28 fX6_33 rfl (xc2 hXN2) (show N2.2.2 2 4 = some pl from h24N2) ?_
    refine Rn.getI dX6_readSleeper_31 fX6_99 rfl (pc0 hXN2 hp7) ?_
    refine Rn.topI (y := p.D 0 0) (hpl0) ?_
    refine Rn.iconstv (v := 1) dX6_readSleeper_34 ic_1 ?_
    refine Rn.isub dX6_readSleeper_35 ?_
    refine Rn.callV2 dX6_readSleeper_36 vX6_95 (xc2 hXN2) (by decide) rfl (tkNum (M := N2) (i := nx f n (nx f n i)) hrN2 (by decide) (hi_c hct.2.2.2.2.2) hXN2) (by decide) ⟨(Nat.le_of_ble_eq_true rfl), (Nat.le_of_ble_eq_true rfl), (Nat.le_of_ble_eq_true rfl)⟩ (fun h => by cases h) (fun v1 ly1 N3 ⟨q2, qr, hh⟩ => ?_)
    rw [q2]
    rcases hh with ⟨z1, q1, y1, x1_, g1, hrN3⟩ | ⟨z1, q1, g1, hfa⟩
    · skip
      rw [q1]
      have hFN3 : pcF M N3 pl := hFN2.tr (pcF.o qr (fun a hb => g1 a (fun e => hb (Or.inr (Or.inl e)))))
      have hXN3 : XW ly N3.2.2 := hFN3.xw hX
      have h24N3 : N3.2.2 2 4 = some pl := (hFN3.1 2 4 (by omega)).trans h24
      refine Rn.istore_n (lv' := [some (.ref 2), some (.int (nI (p.ct 2))), some (.int (nvF f n (nx f n (nx f n i)))), none]) dX6_readSleeper_39 (by decide) rfl ?_
      refine Rn.iload_n dX6_readSleeper_40 rfl ?_
      refine Rn.iconstv (v := -1) dX6_readSleeper_41 ic_m1 ?_
      refine Rn.icmp_ne dX6_readSleeper_42 (fun h9 => ?_) (fun h9 => absurd h9 y1)
      refine Rn.aload_n dX6_readSleeper_49 rfl ?_
      refine Rn.iconstv (v := 1) dX6_readSleeper_50 ic_1 ?_
      refine Rn.sipushv (v := 9999) dX6_readSleeper_51 sp_9999 ?_
      refine Rn.callV2 dX6_readSleeper_54 vX6_95 (xc2 hXN3) (by decide) rfl (tkNum (M := N3) (i := nx f n (nx f n (nx f n i))) hrN3 (by decide) (by decide) hXN3) (by decide) ⟨(Nat.le_of_ble_eq_true rfl), (Nat.le_of_ble_eq_true rfl), (Nat.le_of_ble_eq_true rfl)⟩ (fun h => by cases h) (fun v1 ly1 N4 ⟨q2, qr, hh⟩ => ?_)
      rw [q2]
      rcases hh with ⟨z2, q1, y2, x2_, g2, hrN4⟩ | ⟨z2, q1, g2, hfa⟩
      · skip
        rw [q1]
        have hFN4 : pcF M N4 pl := hFN3.tr (pcF.o qr (fun a hb => g2 a (fun e => hb (Or.inr (Or.inl e)))))
        have hXN4 : XW ly N4.2.2 := hFN4.xw hX
        have h24N4 : N4.2.2 2 4 = some pl := (hFN4.1 2 4 (by omega)).trans h24
        refine Rn.istore_n (lv' := [some (.ref 2), some (.int (nI (p.ct 2))), some (.int (nvF f n (nx f n (nx f n i)))), some (.int (nvF f n (nx f n (nx f n (nx f n i)))))]) dX6_readSleeper_57 (by decide) rfl ?_
        refine Rn.iload_n dX6_readSleeper_58 rfl ?_
        refine Rn.iconstv (v := -1) dX6_readSleeper_59 ic_m1 ?_
        refine Rn.icmp_eq dX6_readSleeper_60 (fun h9 => absurd h9 y2) (fun h9 => ?_)
        refine Rn.iload_n dX6_readSleeper_63 rfl ?_
        refine Rn.iconstv (v := 4) dX6_readSleeper_64 ic_4 ?_
        refine Rn.icmp_lt dX6_readSleeper_65 (fun h9 => ?_) (fun h9 => absurd ((nI_ltI (a := p.ct 2) (b := 4) (by omega) (by decide)).mpr hlt) h9)
        refine Rn.aload_n dX6_readSleeper_70 rfl ?_
        refine Rn.getR dX6_readSleeper_71 fX6_33 rfl (xc2 hXN4) (show N4.2.2 2 4 = some pl from h24N4) ?_
        refine Rn.getR dX6_readSleeper_74 fX6_147 rfl (pc0 hXN4 hp7) (show N4.2.2 pl 13 = some (pl + 16) from (pp0_13 hXN4 hp7)) ?_
        refine Rn.iload_n dX6_readSleeper_77 rfl ?_
        refine Rn.iload_n dX6_readSleeper_78 rfl ?_
        refine Rn.iastN (k0 := (p.ct 2)) dX6_readSleeper_79 (pc16 hXN4 hp7) (by omega) (by decide) ?_
        refine Rn.aload_n dX6_readSleeper_80 rfl ?_
        refine Rn.getR dX6_readSleeper_81 fX6_33 rfl (xc2 hXN4) (show N4.2.2 2 4 = some pl from h24N4) ?_
        refine Rn.getR dX6_readSleeper_84 fX6_150 rfl (pc0 hXN4 hp7) (show N4.2.2 pl 14 = some (pl + 17) from (pp0_14 hXN4 hp7)) ?_
        refine Rn.iload_n dX6_readSleeper_87 rfl ?_
        refine Rn.iload_n dX6_readSleeper_88 rfl ?_
        refine Rn.iastN (k0 := (p.ct 2)) dX6_readSleeper_89 (pc17 hXN4 hp7) (by omega) (by decide) ?_
        refine Rn.meq (M2 := sI (sI N4 (pl + 16) (upd (N4.1 (pl + 16)) (p.ct 2) (nvF f n (nx f n (nx f n i))))) (pl + 17) (upd (N4.1 (pl + 17)) (p.ct 2) (nvF f n (nx f n (nx f n (nx f n i)))))) (congrArg (fun r9 => sI (sI N4 (pl + 16) (upd (N4.1 (pl + 16)) (p.ct 2) (nvF f n (nx f n (nx f n i))))) (pl + 17) (upd r9 (p.ct 2) (nvF f n (nx f n (nx f n (nx f n i)))))) (sI_ne (show pl + 17 ≠ pl + 16 by omega))) ?_
        refine Rn.iconstv (v := 1) dX6_readSleeper_90 ic_1 ?_
        have oN4 : ∀ a, a ≠ 2 → a ≠ 3 → a ≠ pl + 1 → a ≠ pl + 5 → N4.1 a = M.1 a := fun a a0 a1 a2 a3 => (g2 a a1).trans ((g1 a a1).trans (oN2 a a0 a1 a2 a3))
        obtain ⟨N5, e9⟩ : ∃ N9, N9 = sI (sI N4 (pl + 16) (upd (N4.1 (pl + 16)) (p.ct 2) (nvF f n (nx f n (nx f n i))))) (pl + 17) (upd (N4.1 (pl + 17)) (p.ct 2) (nvF f n (nx f n (nx f n (nx f n i))))) := ⟨_, rfl⟩
        rw [← e9]
        have d16 : N5.1 (pl + 16) = upd (N4.1 (pl + 16)) (p.ct 2) (nvF f n (nx f n (nx f n i))) := by rw [e9, sI_ne (show pl + 16 ≠ pl + 17 by omega)]; exact sI_at _ _ _
        have d17 : N5.1 (pl + 17) = upd (N4.1 (pl + 17)) (p.ct 2) (nvF f n (nx f n (nx f n (nx f n i)))) := by rw [e9]; exact sI_at _ _ _
        have dO : ∀ a, a ≠ pl + 16 → a ≠ pl + 17 → N5.1 a = N4.1 a := fun a a1 a2 => by rw [e9, sI_ne a2, sI_ne a1]
        have d0 : N5.2.2 = N4.2.2 := by rw [e9]; rfl
        clear e9
        have hFN5 : pcF M N5 pl := hFN4.tr (pcF.o d0 (fun a hb => dO a (by omega) (by omega)))
        have hXN5 : XW ly N5.2.2 := hFN5.xw hX
        have h24N5 : N5.2.2 2 4 = some pl := (hFN5.1 2 4 (by omega)).trans h24
        have hOK : ∀ a, a ≠ 2 → a ≠ 3 → a ≠ pl + 1 → a ≠ pl + 5 → ¬ (pl + 16 ≤ a ∧ a ≤ pl + 17) → N5.1 a = M.1 a := fun a a1 a2 a3 a4 a5 => (dO a (by omega) (by omega)).trans (oN4 a a1 a2 a3 a4)
        have hres : lnZ (kdF f n) (nvF f n) (nx f n) p i = .inl (addZ p (nvF f n (nx f n i)) (nvF f n (nx f n (nx f n i))) (nvF f n (nx f n (nx f n (nx f n i)))), nx f n (nx f n (nx f n (nx f n i)))) := (if_neg hne).trans ((qK_0 za).trans ((qK_0 z1).trans (qK_0 z2)))
        have hrow : ∀ r, 1 ≤ r → r ≤ 13 → knD r = 2 → N5.1 (pl + cOf r) = upd (M.1 (pl + cOf r)) (p.ct 2) ((addZ p (nvF f n (nx f n i)) (nvF f n (nx f n (nx f n i))) (nvF f n (nx f n (nx f n (nx f n i))))).1 r (p.ct 2)) := by
          intro r r1 r2 hk9
          match r, r1, r2 with
          | 1, _, _ => exact absurd hk9 (by decide)
          | 2, _, _ => exact absurd hk9 (by decide)
          | 3, _, _ => exact (dO (pl + 5) (by omega) (by omega)).trans (((g2 (pl + 5) (by omega)).trans ((g1 (pl + 5) (by omega)).trans (s2 (pl + 5) (by omega)))).trans (ga.trans (congrArg (upd _ _) (show nvF f n (nx f n i) = (addZ p (nvF f n (nx f n i)) (nvF f n (nx f n (nx f n i))) (nvF f n (nx f n (nx f n (nx f n i))))).1 3 (p.ct 2) from pk_us.symm))))
          | 4, _, _ => exact absurd hk9 (by decide)
          | 5, _, _ => exact absurd hk9 (by decide)
          | 6, _, _ => exact absurd hk9 (by decide)
          | 7, _, _ => exact absurd hk9 (by decide)
          | 8, _, _ => exact absurd hk9 (by decide)
          | 9, _, _ => exact absurd hk9 (by decide)
          | 10, _, _ => exact absurd hk9 (by decide)
          | 11, _, _ => exact absurd hk9 (by decide)
          | 12, _, _ => exact d16.trans ((congrArg (fun r9 => upd r9 _ _) (oN4 (pl + 16) (by omega) (by omega) (by omega) (by omega))).trans (congrArg (upd _ _) (show _ = (addZ p (nvF f n (nx f n i)) (nvF f n (nx f n (nx f n i))) (nvF f n (nx f n (nx f n (nx f n i))))).1 12 (p.ct 2) from pk_us.symm)))
          | 13, _, _ => exact d17.trans ((congrArg (fun r9 => upd r9 _ _) (oN4 (pl + 17) (by omega) (by omega) (by omega) (by omega))).trans (congrArg (upd _ _) (show _ = (addZ p (nvF f n (nx f n i)) (nvF f n (nx f n (nx f n i))) (nvF f n (nx f n (nx f n (nx f n i))))).1 13 (p.ct 2) from pk_us.symm)))
        have hrow2 : ∀ r, 1 ≤ r → r ≤ 13 → knD r ≠ 2 → N5.1 (pl + cOf r) = M.1 (pl + cOf r) := by
          intro r r1 r2 hk9
          match r, r1, r2 with
          | 1, _, _ => exact hOK (pl + 3) (by omega) (by omega) (by omega) (by omega) (by omega)
          | 2, _, _ => exact hOK (pl + 4) (by omega) (by omega) (by omega) (by omega) (by omega)
          | 3, _, _ => exact absurd rfl hk9
          | 4, _, _ => exact hOK (pl + 6) (by omega) (by omega) (by omega) (by omega) (by omega)
          | 5, _, _ => exact hOK (pl + 8) (by omega) (by omega) (by omega) (by omega) (by omega)
          | 6, _, _ => exact hOK (pl + 9) (by omega) (by omega) (by omega) (by omega) (by omega)
          | 7, _, _ => exact hOK (pl + 10) (by omega) (by omega) (by omega) (by omega) (by omega)
          | 8, _, _ => exact hOK (pl + 11) (by omega) (by omega) (by omega) (by omega) (by omega)
          | 9, _, _ => exact hOK (pl + 12) (by omega) (by omega) (by omega) (by omega) (by omega)
          | 10, _, _ => exact hOK (pl + 14) (by omega) (by omega) (by omega) (by omega) (by omega)
          | 11, _, _ => exact hOK (pl + 15) (by omega) (by omega) (by omega) (by omega) (by omega)
          | 12, _, _ => exact absurd rfl hk9
          | 13, _, _ => exact absurd rfl hk9
        have hD2 : ∀ r j, 1 ≤ r → r ≤ 13 → (knD r ≠ 2 ∨ j < p.ct 2) → (addZ p (nvF f n (nx f n i)) (nvF f n (nx f n (nx f n i))) (nvF f n (nx f n (nx f n (nx f n i))))).1 r j = p.D r j := fun r j _ _ h9 => (set2_k (a := 13) rfl h9).trans ((set2_k (a := 12) rfl h9).trans ((set2_k (a := 3) rfl h9).trans (rfl)))
        have hPN : CPl N5 pl (addZ p (nvF f n (nx f n i)) (nvF f n (nx f n (nx f n i))) (nvF f n (nx f n (nx f n (nx f n i))))) := CPl.add (k := 2) hP (hOK pl (by omega) (by omega) (by omega) (by omega) (by omega)) rfl ((dO (pl + 1) (by omega) (by omega)).trans (((g2 (pl + 1) (by omega)).trans ((g1 (pl + 1) (by omega)).trans (s2 (pl + 1) (by omega)))).trans gb)) ((congrFun (hOK (pl + 7) (by omega) (by omega) (by omega) (by omega) (by omega)) 0).trans hP.2.2.1.1) ((congrFun (hOK (pl + 13) (by omega) (by omega) (by omega) (by omega) (by omega)) 0).trans hP.2.2.1.2) hrow hrow2 hD2 (fun a a1 a2 => hOK a (by omega) (by omega) (by omega) (by omega) (by omega))
        have h2N : N5.1 2 = N2.1 2 := (dO 2 (by omega) (by omega)).trans ((g2 2 (by decide)).trans (g1 2 (by decide)))
        exact Rn.iret (ty := .boolean) dX6_readSleeper_91 rfl rfl ⟨rfl, hFN5, Or.inl ⟨_, _, hres, rfl, hrN4.of (dO 1 (by omega) (by omega)) (dO 3 (by omega) (by omega)) (dO 4 (by omega) (by omega)), hp7, h24N5, hPN, by rw [h2N, s6.2.1, g0 2 (by decide) (by omega) (by omega)]; exact hb, by rw [h2N]; exact s6.1, ⟨by rw [h2N, s6.2.2.1, g0 2 (by decide) (by omega) (by omega)]; exact hft.1, by rw [h2N, s6.2.2.2.1, g0 2 (by decide) (by omega) (by omega)]; exact hft.2⟩, hct.1, hct.2.1, hlt, hct.2.2.2.1, hct.2.2.2.2.1, hct.2.2.2.2.2⟩⟩
      · skip
        rw [q1]
        have hFN4 : pcF M N4 pl := hFN3.tr (pcF.o qr (fun a hb => g2 a (fun e => hb (Or.inl e))))
        have hXN4 : XW ly N4.2.2 := hFN4.xw hX
        have h24N4 : N4.2.2 2 4 = some pl := (hFN4.1 2 4 (by omega)).trans h24
        refine Rn.istore_n (lv' := [some (.ref 2), some (.int (nI (p.ct 2))), some (.int (nvF f n (nx f n (nx f n i)))), some (.int (-1))]) dX6_readSleeper_57 (by decide) rfl ?_
        refine Rn.iload_n dX6_readSleeper_58 rfl ?_
        refine Rn.iconstv (v := -1) dX6_readSleeper_59 ic_m1 ?_
        refine Rn.icmp_eq dX6_readSleeper_60 (fun h9 => ?_) (fun h9 => (by first | exact absurd h9 (by decide) | exact absurd (by decide) h9))
        refine Rn.iconstv (v := 0) dX6_readSleeper_68 ic_0 ?_
        exact Rn.iret (ty := .boolean) dX6_readSleeper_69 rfl rfl ⟨rfl, hFN4, Or.inr ⟨_, _, (if_neg hne).trans ((qK_0 za).trans ((qK_0 z1).trans (qK_n z2))), rfl, hfa⟩⟩
    · skip
      rw [q1]
      have hFN3 : pcF M N3 pl := hFN2.tr (pcF.o qr (fun a hb => g1 a (fun e => hb (Or.inl e))))
      have hXN3 : XW ly N3.2.2 := hFN3.xw hX
      have h24N3 : N3.2.2 2 4 = some pl := (hFN3.1 2 4 (by omega)).trans h24
      refine Rn.istore_n (lv' := [some (.ref 2), some (.int (nI (p.ct 2))), some (.int (-1)), none]) dX6_readSleeper_39 (by decide) rfl ?_
      refine Rn.iload_n dX6_readSleeper_40 rfl ?_
      refine Rn.iconstv (v := -1) dX6_readSleeper_41 ic_m1 ?_
      refine Rn.icmp_ne dX6_readSleeper_42 (fun h9 => (by first | exact absurd h9 (by decide) | exact absurd (by decide) h9)) (fun h9 => ?_)
      refine Rn.iconstv (v := -1) dX6_readSleeper_45 ic_m1 ?_
      refine Rn.goto dX6_readSleeper_46 ?_
      refine Rn.istore_n (lv' := [some (.ref 2), some (.int (nI (p.ct 2))), some (.int (-1)), some (.int (-1))]) dX6_readSleeper_57 (by decide) rfl ?_
      refine Rn.iload_n dX6_readSleeper_58 rfl ?_
      refine Rn.iconstv (v := -1) dX6_readSleeper_59 ic_m1 ?_
      refine Rn.icmp_eq dX6_readSleeper_60 (fun h9 => ?_) (fun h9 => (by first | exact absurd h9 (by decide) | exact absurd (by decide) h9))
      refine Rn.iconstv (v := 0) dX6_readSleeper_68 ic_0 ?_
      exact Rn.iret (ty := .boolean) dX6_readSleeper_69 rfl rfl ⟨rfl, hFN3, Or.inr ⟨_, _, (if_neg hne).trans ((qK_0 za).trans (qK_n z1)), rfl, hfa⟩⟩
theorem rlMay {G : Gx} {l : Launch} {ly : Ly} {M : Mm} {f : Nat → Int32} {n i : Nat} {pl : Nat} {p : Pl} (hS : CPs ly M f n pl p i)  (hX : XW ly M.2.2) : Mt G l mX6_readMay (4, 0, 0, false) [.ref 2] ly M (clP ly M f n pl (lnM (kdF f n) (nvF f n) (nx f n) p i)) := by
  refine Mt.of (lv := [some (.ref 2), none, none]) rfl ?_
  obtain ⟨hr, hp7, h24, hP, hb, h6, hft, hct⟩ := hS
  have r6 := hr.2.2.1
  have ht3 : M.1 (pl + 1) 3 = nI (p.ct 3) := hP.2.1 3 (by decide)
  refine Rn.aload_n dX6_readMay_0 rfl ?_
  refine Rn.getR dX6_readMay_1 fX6_33 rfl (xc2 hX) (show M.2.2 2 4 = some pl from h24) ?_
  refine Rn.getR dX6_readMay_4 fX6_144 rfl (pc0 hX hp7) (show M.2.2 pl 9 = some (pl + 1) from (pp0_9 hX hp7)) ?_
  refine Rn.iconstv (v := 3) dX6_readMay_7 ic_3 ?_
  refine Rn.iald dX6_readMay_8 (pc1 hX hp7) (by unfold vp_in; decide) ?_
  refine Rn.topI (y := M.1 (pl + 1) 3) (rfl) ?_
  refine Rn.topI (y := nI (p.ct 3)) (ht3) ?_
  refine Rn.istore_n (lv' := [some (.ref 2), some (.int (nI (p.ct 3))), none]) dX6_readMay_9 (by decide) rfl ?_
  refine Rn.aload_n dX6_readMay_10 rfl ?_
  refine Rn.iconstv (v := 3) dX6_readMay_11 ic_3 ?_
  refine Rn.callV1 dX6_readMay_12 vX6_112 (xc2 hX) (by decide) rfl (tkNamed (M := M) (i := i) (pl := pl) (k := 3) (m := p.ct 3) hr hp7 h24 (by decide) ⟨hP.2.1 3 (by decide), hct.2.2.2.1⟩ hX) (by decide) ⟨(Nat.le_of_ble_eq_true rfl), (Nat.le_of_ble_eq_true rfl), (Nat.le_of_ble_eq_true rfl)⟩ (fun h => by cases h) (fun v1 ly1 N1 ⟨q2, qr, hh⟩ => ?_)
  rw [q2]
  have hna := naQ_c (kd := kdF f n) (nv := nvF f n) (i := nx f n i) (m := p.ct 3) (N := M.1 (pl + 3 + 3)) (N2 := p.D 4) (fun j hj => hP.2.2.2.1 4 (by decide) (by decide) j hj)
  rw [hna] at hh
  rcases hh with ⟨z0, q1, g0, hfa⟩ | ⟨z0, za, q1, g0, hfa⟩ | ⟨z0, za, q1, g0, ga, gb, hrN1⟩
  · skip
    rw [q1]
    have hFN1 : pcF M N1 pl := pcF.o qr (fun a hb => g0 a (fun e => hb (Or.inl e)))
    have hXN1 : XW ly N1.2.2 := hFN1.xw hX
    have h24N1 : N1.2.2 2 4 = some pl := (hFN1.1 2 4 (by omega)).trans h24
    refine Rn.if_eq dX6_readMay_15 (fun h9 => ?_) (fun h9 => (by first | exact absurd h9 (by decide) | exact absurd (by decide) h9))
    refine Rn.iconstv (v := 0) dX6_readMay_23 ic_0 ?_
    exact Rn.iret (ty := .boolean) dX6_readMay_24 rfl rfl ⟨rfl, hFN1, Or.inr ⟨_, _, if_pos z0, rfl, hfa⟩⟩
  · skip
    rw [q1]
    have hne := Nat.ne_of_lt z0
    have hFN1 : pcF M N1 pl := pcF.o qr (fun a hb => g0 a (fun e => hb (Or.inl e)) (fun e => hb (Or.inr (Or.inl e))))
    have hXN1 : XW ly N1.2.2 := hFN1.xw hX
    have h24N1 : N1.2.2 2 4 = some pl := (hFN1.1 2 4 (by omega)).trans h24
    refine Rn.if_eq dX6_readMay_15 (fun h9 => ?_) (fun h9 => (by first | exact absurd h9 (by decide) | exact absurd (by decide) h9))
    refine Rn.iconstv (v := 0) dX6_readMay_23 ic_0 ?_
    exact Rn.iret (ty := .boolean) dX6_readMay_24 rfl rfl ⟨rfl, hFN1, Or.inr ⟨_, _, (if_neg hne).trans (qK_n za), rfl, hfa⟩⟩
  · skip
    rw [q1]
    have hne := Nat.ne_of_lt z0
    have hlt : p.ct 3 < 3 := z0
    have hFN1 : pcF M N1 pl := pcF.o qr (fun a hb => g0 a (by omega) (by omega) (by omega))
    have hXN1 : XW ly N1.2.2 := hFN1.xw hX
    have h24N1 : N1.2.2 2 4 = some pl := (hFN1.1 2 4 (by omega)).trans h24
    clear hna
    refine Rn.if_eq dX6_readMay_15 (fun h9 => (by first | exact absurd h9 (by decide) | exact absurd (by decide) h9)) (fun h9 => ?_)
    refine Rn.iload_n dX6_readMay_18 rfl ?_
    refine Rn.iconstv (v := 3) dX6_readMay_19 ic_3 ?_
    refine Rn.icmp_lt dX6_readMay_20 (fun h9 => ?_) (fun h9 => absurd ((nI_ltI (a := p.ct 3) (b := 3) (by omega) (by decide)).mpr hlt) h9)
    refine Rn.aload_n dX6_readMay_25 rfl ?_
    refine Rn.getR dX6_readMay_26 fX6_29 rfl (xc2 hXN1) (show N1.2.2 2 3 = some 5 from (xp2_3 hXN1)) ?_
    refine Rn.aload_n dX6_readMay_29 rfl ?_
    refine Rn.getR dX6_readMay_30 fX6_33 rfl (xc2 hXN1) (show N1.2.2 2 4 = some pl from h24N1) ?_
    refine Rn.aload_n dX6_readMay_33 rfl ?_
    refine Rn.getR dX6_readMay_34 fX6_33 rfl (xc2 hXN1) (show N1.2.2 2 4 = some pl from h24N1) ?_
    refine Rn.getR dX6_readMay_37 fX6_153 rfl (pc0 hXN1 hp7) (show N1.2.2 pl 17 = some (pl + 24) from (pp0_17 hXN1 hp7)) ?_
    refine Rn.iload_n dX6_readMay_40 rfl ?_
    have hla : laO (2 + p.ct 3) = 25 + 3 * p.ct 3 := by unfold laO; rw [if_neg (by omega), if_neg (by omega)]; omega
    have hkk : 2 + p.ct 3 < 5 := by omega
    refine Rn.aldq (a2 := pl + laO (2 + p.ct 3)) dX6_readMay_41 (pc24 hXN1 hp7) (vp_in_nI (n := (p.ct 3)) (by omega) (by decide)) (by rw [nI_clamp (by omega), hla]; exact (cN24 hXN1 hp7 (k := p.ct 3) (by omega)).1.trans (congrArg some (by omega))) ?_
    have hc8 : N1.1 pl 8 = nI p.c := by rw [g0 pl (by omega) (by omega) (by omega)]; exact hP.1.2.2.2.2.2.2.2.2
    refine Rn.callV2 dX6_readMay_42 vX6_157 (xc5 hXN1) (by decide) rfl (tX3_read (M := N1) (n := n) (q := pl + laO (2 + p.ct 3)) (pq := pl) (i := nx f n (nx f n i)) (c := p.c) hrN1 (by omega) (pc0 hXN1 hp7) ⟨hc8, hct.2.2.2.2.1⟩ (lawC hXN1 hp7 hkk) ⟨by have := laws_c (2 + p.ct 3) hkk; omega, by have := laws_c (2 + p.ct 3) hkk; omega⟩ hXN1) (by decide) ⟨(Nat.le_of_ble_eq_true rfl), (Nat.le_of_ble_eq_true rfl), (Nat.le_of_ble_eq_true rfl)⟩ (fun h => by cases h) (fun v1 ly1 N2 ⟨q2, fm, r9, j9, hm9, hr9, hh⟩ => ?_)
    rw [q2]
    have hmr := mRes_eq hm9
    have hlc := laws_c (2 + p.ct 3) hkk
    have hFN2 : pcF M N2 pl := hFN1.tr ⟨fm.1, fun a ha => (Classical.em (a = pl)).elim (fun e => absurd (Or.inr (Or.inr (Or.inr (Or.inr ⟨by omega, by omega⟩)))) ha) (fun e => fm.2.1 a (by omega) (by omega) (by omega) (by omega) (by omega) (by omega))⟩
    rcases hh with ⟨c9, em, e9, q1, k1, k2, k3, k4, k5⟩ | ⟨k9, e9, q1, k1⟩
    · skip
      rw [q1]
      rw [e9] at hmr
      have hXN2 : XW ly N2.2.2 := hFN2.xw hX
      have h24N2 : N2.2.2 2 4 = some pl := (hFN2.1 2 4 (by omega)).trans h24
      refine Rn.istore_n (lv' := [some (.ref 2), some (.int (nI (p.ct 3))), some (.int 0)]) dX6_readMay_45 (by decide) rfl ?_
      refine Rn.iload_n dX6_readMay_46 rfl ?_
      refine Rn.if_eq dX6_readMay_47 (fun h9 => ?_) (fun h9 => (by first | exact absurd h9 (by decide) | exact absurd (by decide) h9))
      refine Rn.iconstv (v := 1) dX6_readMay_58 ic_1 ?_
      refine Rn.goto dX6_readMay_59 ?_
      have hOK : ∀ a, a ≠ 3 → a ≠ pl + 1 → a ≠ pl + 6 → N1.1 a = M.1 a := g0
      have hres : lnM (kdF f n) (nvF f n) (nx f n) p i = .inl ((set2 p.D 4 (p.ct 3) (nvF f n (nx f n i)), setN p.ct 3 (p.ct 3 + 1), setL p.lw (2 + p.ct 3) em, c9, p.tb, p.hc), j9) := (if_neg hne).trans ((qK_0 za).trans (congrArg (Sum.elim _ _) hmr))
      have hrow : ∀ r, 1 ≤ r → r ≤ 13 → knD r = 3 → N1.1 (pl + cOf r) = upd (M.1 (pl + cOf r)) (p.ct 3) (((set2 p.D 4 (p.ct 3) (nvF f n (nx f n i)), setN p.ct 3 (p.ct 3 + 1), p.lw, p.c, p.tb, p.hc) : Pl).1 r (p.ct 3)) := by
        intro r r1 r2 hk9
        match r, r1, r2 with
        | 1, _, _ => exact absurd hk9 (by decide)
        | 2, _, _ => exact absurd hk9 (by decide)
        | 3, _, _ => exact absurd hk9 (by decide)
        | 4, _, _ => exact ga.trans (congrArg (upd _ _) (show nvF f n (nx f n i) = ((set2 p.D 4 (p.ct 3) (nvF f n (nx f n i)), setN p.ct 3 (p.ct 3 + 1), p.lw, p.c, p.tb, p.hc) : Pl).1 4 (p.ct 3) from pk_us.symm))
        | 5, _, _ => exact absurd hk9 (by decide)
        | 6, _, _ => exact absurd hk9 (by decide)
        | 7, _, _ => exact absurd hk9 (by decide)
        | 8, _, _ => exact absurd hk9 (by decide)
        | 9, _, _ => exact absurd hk9 (by decide)
        | 10, _, _ => exact absurd hk9 (by decide)
        | 11, _, _ => exact absurd hk9 (by decide)
        | 12, _, _ => exact absurd hk9 (by decide)
        | 13, _, _ => exact absurd hk9 (by decide)
      have hrow2 : ∀ r, 1 ≤ r → r ≤ 13 → knD r ≠ 3 → N1.1 (pl + cOf r) = M.1 (pl + cOf r) := by
        intro r r1 r2 hk9
        match r, r1, r2 with
        | 1, _, _ => exact hOK (pl + 3) (by omega) (by omega) (by omega)
        | 2, _, _ => exact hOK (pl + 4) (by omega) (by omega) (by omega)
        | 3, _, _ => exact hOK (pl + 5) (by omega) (by omega) (by omega)
        | 4, _, _ => exact absurd rfl hk9
        | 5, _, _ => exact hOK (pl + 8) (by omega) (by omega) (by omega)
        | 6, _, _ => exact hOK (pl + 9) (by omega) (by omega) (by omega)
        | 7, _, _ => exact hOK (pl + 10) (by omega) (by omega) (by omega)
        | 8, _, _ => exact hOK (pl + 11) (by omega) (by omega) (by omega)
        | 9, _, _ => exact hOK (pl + 12) (by omega) (by omega) (by omega)
        | 10, _, _ => exact hOK (pl + 14) (by omega) (by omega) (by omega)
        | 11, _, _ => exact hOK (pl + 15) (by omega) (by omega) (by omega)
        | 12, _, _ => exact hOK (pl + 16) (by omega) (by omega) (by omega)
        | 13, _, _ => exact hOK (pl + 17) (by omega) (by omega) (by omega)
      have hD2 : ∀ r j, 1 ≤ r → r ≤ 13 → (knD r ≠ 3 ∨ j < p.ct 3) → ((set2 p.D 4 (p.ct 3) (nvF f n (nx f n i)), setN p.ct 3 (p.ct 3 + 1), p.lw, p.c, p.tb, p.hc) : Pl).1 r j = p.D r j := fun r j _ _ h9 => (set2_k (a := 4) rfl h9).trans (rfl)
      have hPN : CPl N1 pl (set2 p.D 4 (p.ct 3) (nvF f n (nx f n i)), setN p.ct 3 (p.ct 3 + 1), p.lw, p.c, p.tb, p.hc) := CPl.add (k := 3) hP (hOK pl (by omega) (by omega) (by omega)) rfl gb ((congrFun (hOK (pl + 7) (by omega) (by omega) (by omega)) 0).trans hP.2.2.1.1) ((congrFun (hOK (pl + 13) (by omega) (by omega) (by omega)) 0).trans hP.2.2.1.2) hrow hrow2 hD2 (fun a a1 a2 => hOK a (by omega) (by omega) (by omega))
      have hPL := hPN.law (tb := p.tb) (hc := p.hc) hkk fm.2.2 k1 k4 k5 (fun a a1 a2 a3 a4 => fm.2.1 a (by omega) (by omega) (by omega) a3 a4 (by omega))
      have h2N : N2.1 2 = M.1 2 := (fm.2.1 2 (by omega) (by omega) (by omega) (by omega) (by omega) (by omega)).trans (g0 2 (by omega) (by omega) (by omega))
      exact Rn.iret (ty := .boolean) dX6_readMay_63 rfl rfl ⟨rfl, hFN2, Or.inl ⟨_, _, hres, rfl, hr9, hp7, h24N2, hPL, by rw [h2N]; exact hb, by rw [h2N]; exact h6, by rw [h2N]; exact hft, hct.1, hct.2.1, hct.2.2.1, hlt, k2, m00 (D := p.D) (r := 4) (ix := p.ct 3) (x := nvF f n (nx f n i)) (by omega) hct.2.2.2.2.2⟩⟩
    · skip
      rw [q1]
      rw [e9] at hmr
      have hXN2 : XW ly N2.2.2 := hFN2.xw hX
      have pl9 := hr9.2.2.2.1
      refine Rn.istore_n (lv' := [some (.ref 2), some (.int (nI (p.ct 3))), some (.int k9)]) dX6_readMay_45 (by decide) rfl ?_
      refine Rn.iload_n dX6_readMay_46 rfl ?_
      refine Rn.if_eq dX6_readMay_47 (fun h9 => absurd h9 k1) (fun h9 => ?_)
      refine Rn.aload_n dX6_readMay_50 rfl ?_
      refine Rn.iload_n dX6_readMay_51 rfl ?_
      refine Rn.callV1 dX6_readMay_52 vX6_89 (xc2 hXN2) (by decide) rfl (tX6_fail (M := N2) (x := k9) hXN2) (by decide) ⟨(Nat.le_of_ble_eq_true rfl), (Nat.le_of_ble_eq_true rfl), (Nat.le_of_ble_eq_true rfl)⟩ (fun h => by cases h) (fun v1 ly1 M1 ⟨q1, q2, q3⟩ => ?_)
      rw [q1, q2, q3]
      show Rn G l mX6_readMay (4, 0, 0, false) 55 [some (.ref 2), some (.int (nI (p.ct 3))), some (.int k9)] [.int 0] ly (sI N2 2 (upd (upd (N2.1 2) 0 k9) 1 (N2.1 3 1))) (clP ly M f n pl (lnM (kdF f n) (nvF f n) (nx f n) p i))
      show Rn G l mX6_readMay (4, 0, 0, false) 55 [some (.ref 2), some (.int (nI (p.ct 3))), some (.int k9)] [.int 0] ly (sI N2 2 (upd (upd (N2.1 2) 0 k9) 1 (N2.1 3 1))) (clP ly M f n pl (lnM (kdF f n) (nvF f n) (nx f n) p i))
      refine Rn.if_eq dX6_readMay_55 (fun h9 => ?_) (fun h9 => (by first | exact absurd h9 (by decide) | exact absurd (by decide) h9))
      refine Rn.iconstv (v := 0) dX6_readMay_62 ic_0 ?_
      exact Rn.iret (ty := .boolean) dX6_readMay_63 rfl rfl ⟨rfl, hFN2.tr (pcF.s (Or.inl rfl)), Or.inr ⟨k9, j9, (if_neg hne).trans ((qK_0 za).trans (congrArg (Sum.elim _ _) hmr)), rfl, rfl, pl9⟩⟩
theorem rlLaw {G : Gx} {l : Launch} {ly : Ly} {M : Mm} {f : Nat → Int32} {n i : Nat} {pl : Nat} {p : Pl} (hS : CPs ly M f n pl p i)  (hX : XW ly M.2.2) : Mt G l mX6_readLaw (4, 0, 0, false) [.ref 2] ly M (clP ly M f n pl (lnL (kdF f n) (nvF f n) (nx f n) p i)) := by
  refine Mt.of (lv := [some (.ref 2), none, none]) rfl ?_
  obtain ⟨hr, hp7, h24, hP, hb, h6, hft, hct⟩ := hS
  have r6 := hr.2.2.1
  refine Rn.aload_n dX6_readLaw_0 rfl ?_
  refine Rn.getR dX6_readLaw_1 fX6_20 rfl (xc2 hX) (show M.2.2 2 2 = some 3 from (xp2_2 hX)) ?_
  refine Rn.callV0 dX6_readLaw_4 vX6_115 (xc3 hX) (by decide) rfl (advC (M := M) hr hX) (by decide) ⟨(Nat.le_of_ble_eq_true rfl), (Nat.le_of_ble_eq_true rfl), (Nat.le_of_ble_eq_true rfl)⟩ (fun h => by cases h) (fun v1 ly1 N1 ⟨q1, q2, f1, hrN1⟩ => ?_)
  rw [q1, q2]
  have hFN1 : pcF M N1 pl := pcF.o f1.1 (fun a hb => f1.2.1 a (fun e => hb (Or.inr (Or.inl e))))
  have hXN1 : XW ly N1.2.2 := hFN1.xw hX
  have h24N1 : N1.2.2 2 4 = some pl := (hFN1.1 2 4 (by omega)).trans h24
  have rk := hrN1.2.2.1
  have pk := hrN1.2.2.2.1
  have b1 : N1.1 2 = M.1 2 := f1.2.1 2 (by decide)
  by_cases h14 : kdF f n (nx f n i) = 14
  · skip
    refine Rn.aload_n dX6_readLaw_7 rfl ?_
    refine Rn.getR dX6_readLaw_8 fX6_20 rfl (xc2 hXN1) (show N1.2.2 2 2 = some 3 from (xp2_2 hXN1)) ?_
    refine Rn.getI dX6_readLaw_11 fX6_56 rfl (xc3 hXN1) ?_
    refine Rn.topI (y := kdF f n (nx f n i)) (rk) ?_
    refine Rn.istore_n (lv' := [some (.ref 2), some (.int (kdF f n (nx f n i))), none]) dX6_readLaw_14 (by decide) rfl ?_
    refine Rn.iload_n dX6_readLaw_15 rfl ?_
    refine Rn.bipushv (v := 14) dX6_readLaw_16 bp_14 ?_
    refine Rn.icmp_eq dX6_readLaw_18 (fun h9 => ?_) (fun h9 => absurd h14 h9)
    refine Rn.aload_n dX6_readLaw_33 rfl ?_
    refine Rn.callV0 dX6_readLaw_34 vX6_92 (xc2 hXN1) (by decide) rfl (tkOnce (M := N1) (i := nx f n i) (w := 14) (tb := p.tb) (hc := p.hc) hrN1 ⟨h14, by decide⟩ (by rw [b1]; exact hb) (by rw [b1]; exact h6) hXN1) (by decide) ⟨(Nat.le_of_ble_eq_true rfl), (Nat.le_of_ble_eq_true rfl), (Nat.le_of_ble_eq_true rfl)⟩ (fun h => by cases h) (fun v1 ly1 N2 ⟨q2, qr, hh⟩ => ?_)
    rw [q2]
    rcases hh with ⟨zt, q1, gt, hfa⟩ | ⟨zt, zh, q1, gt, hfa⟩ | ⟨zt, zh, q1, gt, hb1, h61, h62, hrN2⟩
    · skip
      rw [q1]
      have hFN2 : pcF M N2 pl := hFN1.tr (pcF.o qr (fun a hb => gt a (fun e => hb (Or.inl e))))
      have hXN2 : XW ly N2.2.2 := hFN2.xw hX
      have h24N2 : N2.2.2 2 4 = some pl := (hFN2.1 2 4 (by omega)).trans h24
      refine Rn.if_ne dX6_readLaw_37 (fun h9 => (by first | exact absurd h9 (by decide) | exact absurd (by decide) h9)) (fun h9 => ?_)
      refine Rn.iconstv (v := 0) dX6_readLaw_40 ic_0 ?_
      exact Rn.iret (ty := .boolean) dX6_readLaw_41 rfl rfl ⟨rfl, hFN2, Or.inr ⟨_, _, (if_pos h14).trans (if_pos zt), rfl, hfa⟩⟩
    · skip
      exact absurd zh.1 (by decide)
    · skip
      rw [q1]
      have hFN2 : pcF M N2 pl := hFN1.tr (pcF.o qr (fun a hb => gt a (fun e => hb (Or.inl e)) (fun e => hb (Or.inr (Or.inl e)))))
      have hXN2 : XW ly N2.2.2 := hFN2.xw hX
      have h24N2 : N2.2.2 2 4 = some pl := (hFN2.1 2 4 (by omega)).trans h24
      refine Rn.if_ne dX6_readLaw_37 (fun h9 => ?_) (fun h9 => (by first | exact absurd h9 (by decide) | exact absurd (by decide) h9))
      refine Rn.aload_n dX6_readLaw_42 rfl ?_
      refine Rn.getR dX6_readLaw_43 fX6_29 rfl (xc2 hXN2) (show N2.2.2 2 3 = some 5 from (xp2_3 hXN2)) ?_
      refine Rn.aload_n dX6_readLaw_46 rfl ?_
      refine Rn.getR dX6_readLaw_47 fX6_33 rfl (xc2 hXN2) (show N2.2.2 2 4 = some pl from h24N2) ?_
      refine Rn.iload_n dX6_readLaw_50 rfl ?_
      refine Rn.bipushv (v := 14) dX6_readLaw_51 bp_14 ?_
      refine Rn.icmp_ne dX6_readLaw_53 (fun h9 => absurd h14 h9) (fun h9 => ?_)
      have hkk : 0 < 5 := by decide
      have oN2 : ∀ a, a ≠ 2 → a ≠ 3 → N2.1 a = M.1 a := fun a a1 a2 => (gt a a1 a2).trans (f1.2.1 a a2)
      have hP2 : CPl N2 pl p := hP.of (fun a a1 a2 => oN2 a (by omega) (by omega))
      have hc8 : N2.1 pl 8 = nI p.c := hP2.1.2.2.2.2.2.2.2.2
      refine Rn.aload_n dX6_readLaw_56 rfl ?_
      refine Rn.getR dX6_readLaw_57 fX6_33 rfl (xc2 hXN2) (show N2.2.2 2 4 = some pl from h24N2) ?_
      refine Rn.getR dX6_readLaw_60 fX6_161 rfl (pc0 hXN2 hp7) (show N2.2.2 pl 15 = some (pl + 18) from (pp0_15 hXN2 hp7)) ?_
      refine Rn.goto dX6_readLaw_63 ?_
      refine Rn.callV2 dX6_readLaw_73 vX6_157 (xc5 hXN2) (by decide) rfl (tX3_read (M := N2) (n := n) (q := pl + laO 0) (pq := pl) (i := nx f n (nx f n i)) (c := p.c) hrN2 (by omega) (pc0 hXN2 hp7) ⟨hc8, hct.2.2.2.2.1⟩ (lawC hXN2 hp7 hkk) ⟨by have := laws_c 0 hkk; omega, by have := laws_c 0 hkk; omega⟩ hXN2) (by decide) ⟨(Nat.le_of_ble_eq_true rfl), (Nat.le_of_ble_eq_true rfl), (Nat.le_of_ble_eq_true rfl)⟩ (fun h => by cases h) (fun v1 ly1 N3 ⟨q2, fm, r9, j9, hm9, hr9, hh⟩ => ?_)
      rw [q2]
      have hmr := mRes_eq hm9
      have hlc := laws_c 0 hkk
      have hFN3 : pcF M N3 pl := hFN2.tr ⟨fm.1, fun a ha => (Classical.em (a = pl)).elim (fun e => absurd (Or.inr (Or.inr (Or.inr (Or.inr ⟨by omega, by omega⟩)))) ha) (fun e => fm.2.1 a (by omega) (by omega) (by omega) (by omega) (by omega) (by omega))⟩
      rcases hh with ⟨c9, em, e9, q1, k1, k2, k3, k4, k5⟩ | ⟨k9, e9, q1, k1⟩
      · skip
        rw [q1]
        rw [e9] at hmr
        have hXN3 : XW ly N3.2.2 := hFN3.xw hX
        have h24N3 : N3.2.2 2 4 = some pl := (hFN3.1 2 4 (by omega)).trans h24
        refine Rn.istore_n (lv' := [some (.ref 2), some (.int (kdF f n (nx f n i))), some (.int 0)]) dX6_readLaw_76 (by decide) rfl ?_
        refine Rn.iload_n dX6_readLaw_77 rfl ?_
        refine Rn.if_eq dX6_readLaw_78 (fun h9 => ?_) (fun h9 => (by first | exact absurd h9 (by decide) | exact absurd (by decide) h9))
        refine Rn.iconstv (v := 1) dX6_readLaw_89 ic_1 ?_
        refine Rn.goto dX6_readLaw_90 ?_
        have hres : lnL (kdF f n) (nvF f n) (nx f n) p i = .inl ((p.D, p.ct, setL p.lw 0 em, c9, setB p.tb 14 true, p.hc), j9) := (if_pos h14).trans ((if_neg zt).trans (congrArg (Sum.elim _ _) hmr))
        have hPL := hP2.law (tb := setB p.tb 14 true) (hc := p.hc) hkk fm.2.2 k1 k4 k5 (fun a a1 a2 a3 a4 => fm.2.1 a (by omega) (by omega) (by omega) a3 a4 (by omega))
        have h2N : N3.1 2 = N2.1 2 := fm.2.1 2 (by omega) (by omega) (by omega) (by omega) (by omega) (by omega)
        exact Rn.iret (ty := .boolean) dX6_readLaw_94 rfl rfl ⟨rfl, hFN3, Or.inl ⟨_, _, hres, rfl, hr9, hp7, h24N3, hPL, by rw [h2N]; exact hb1, by rw [h2N]; exact h61.trans (by rw [b1]; exact h6), ⟨by rw [h2N]; exact h62.1.trans (by rw [b1]; exact hft.1), by rw [h2N]; exact h62.2.trans (by rw [b1]; exact hft.2)⟩, hct.1, hct.2.1, hct.2.2.1, hct.2.2.2.1, k2, hct.2.2.2.2.2⟩⟩
      · skip
        rw [q1]
        rw [e9] at hmr
        have hXN3 : XW ly N3.2.2 := hFN3.xw hX
        have pl9 := hr9.2.2.2.1
        refine Rn.istore_n (lv' := [some (.ref 2), some (.int (kdF f n (nx f n i))), some (.int k9)]) dX6_readLaw_76 (by decide) rfl ?_
        refine Rn.iload_n dX6_readLaw_77 rfl ?_
        refine Rn.if_eq dX6_readLaw_78 (fun h9 => absurd h9 k1) (fun h9 => ?_)
        refine Rn.aload_n dX6_readLaw_81 rfl ?_
        refine Rn.iload_n dX6_readLaw_82 rfl ?_
        refine Rn.callV1 dX6_readLaw_83 vX6_89 (xc2 hXN3) (by decide) rfl (tX6_fail (M := N3) (x := k9) hXN3) (by decide) ⟨(Nat.le_of_ble_eq_true rfl), (Nat.le_of_ble_eq_true rfl), (Nat.le_of_ble_eq_true rfl)⟩ (fun h => by cases h) (fun v1 ly1 M1 ⟨q1, q2, q3⟩ => ?_)
        rw [q1, q2, q3]
        show Rn G l mX6_readLaw (4, 0, 0, false) 86 [some (.ref 2), some (.int (kdF f n (nx f n i))), some (.int k9)] [.int 0] ly (sI N3 2 (upd (upd (N3.1 2) 0 k9) 1 (N3.1 3 1))) (clP ly M f n pl (lnL (kdF f n) (nvF f n) (nx f n) p i))
        show Rn G l mX6_readLaw (4, 0, 0, false) 86 [some (.ref 2), some (.int (kdF f n (nx f n i))), some (.int k9)] [.int 0] ly (sI N3 2 (upd (upd (N3.1 2) 0 k9) 1 (N3.1 3 1))) (clP ly M f n pl (lnL (kdF f n) (nvF f n) (nx f n) p i))
        refine Rn.if_eq dX6_readLaw_86 (fun h9 => ?_) (fun h9 => (by first | exact absurd h9 (by decide) | exact absurd (by decide) h9))
        refine Rn.iconstv (v := 0) dX6_readLaw_93 ic_0 ?_
        exact Rn.iret (ty := .boolean) dX6_readLaw_94 rfl rfl ⟨rfl, hFN3.tr (pcF.s (Or.inl rfl)), Or.inr ⟨k9, j9, (if_pos h14).trans ((if_neg zt).trans (congrArg (Sum.elim _ _) hmr)), rfl, rfl, pl9⟩⟩
  · skip
    by_cases h15 : kdF f n (nx f n i) = 15
    · skip
      refine Rn.aload_n dX6_readLaw_7 rfl ?_
      refine Rn.getR dX6_readLaw_8 fX6_20 rfl (xc2 hXN1) (show N1.2.2 2 2 = some 3 from (xp2_2 hXN1)) ?_
      refine Rn.getI dX6_readLaw_11 fX6_56 rfl (xc3 hXN1) ?_
      refine Rn.topI (y := kdF f n (nx f n i)) (rk) ?_
      refine Rn.istore_n (lv' := [some (.ref 2), some (.int (kdF f n (nx f n i))), none]) dX6_readLaw_14 (by decide) rfl ?_
      refine Rn.iload_n dX6_readLaw_15 rfl ?_
      refine Rn.bipushv (v := 14) dX6_readLaw_16 bp_14 ?_
      refine Rn.icmp_eq dX6_readLaw_18 (fun h9 => absurd h9 h14) (fun h9 => ?_)
      refine Rn.iload_n dX6_readLaw_21 rfl ?_
      refine Rn.bipushv (v := 15) dX6_readLaw_22 bp_15 ?_
      refine Rn.icmp_eq dX6_readLaw_24 (fun h9 => ?_) (fun h9 => absurd h15 h9)
      refine Rn.aload_n dX6_readLaw_33 rfl ?_
      refine Rn.callV0 dX6_readLaw_34 vX6_92 (xc2 hXN1) (by decide) rfl (tkOnce (M := N1) (i := nx f n i) (w := 15) (tb := p.tb) (hc := p.hc) hrN1 ⟨h15, by decide⟩ (by rw [b1]; exact hb) (by rw [b1]; exact h6) hXN1) (by decide) ⟨(Nat.le_of_ble_eq_true rfl), (Nat.le_of_ble_eq_true rfl), (Nat.le_of_ble_eq_true rfl)⟩ (fun h => by cases h) (fun v1 ly1 N2 ⟨q2, qr, hh⟩ => ?_)
      rw [q2]
      rcases hh with ⟨zt, q1, gt, hfa⟩ | ⟨zt, zh, q1, gt, hfa⟩ | ⟨zt, zh, q1, gt, hb1, h61, h62, hrN2⟩
      · skip
        rw [q1]
        have hFN2 : pcF M N2 pl := hFN1.tr (pcF.o qr (fun a hb => gt a (fun e => hb (Or.inl e))))
        have hXN2 : XW ly N2.2.2 := hFN2.xw hX
        have h24N2 : N2.2.2 2 4 = some pl := (hFN2.1 2 4 (by omega)).trans h24
        refine Rn.if_ne dX6_readLaw_37 (fun h9 => (by first | exact absurd h9 (by decide) | exact absurd (by decide) h9)) (fun h9 => ?_)
        refine Rn.iconstv (v := 0) dX6_readLaw_40 ic_0 ?_
        exact Rn.iret (ty := .boolean) dX6_readLaw_41 rfl rfl ⟨rfl, hFN2, Or.inr ⟨_, _, (if_neg h14).trans ((if_pos h15).trans (if_pos zt)), rfl, hfa⟩⟩
      · skip
        exact absurd zh.1 (by decide)
      · skip
        rw [q1]
        have hFN2 : pcF M N2 pl := hFN1.tr (pcF.o qr (fun a hb => gt a (fun e => hb (Or.inl e)) (fun e => hb (Or.inr (Or.inl e)))))
        have hXN2 : XW ly N2.2.2 := hFN2.xw hX
        have h24N2 : N2.2.2 2 4 = some pl := (hFN2.1 2 4 (by omega)).trans h24
        refine Rn.if_ne dX6_readLaw_37 (fun h9 => ?_) (fun h9 => (by first | exact absurd h9 (by decide) | exact absurd (by decide) h9))
        refine Rn.aload_n dX6_readLaw_42 rfl ?_
        refine Rn.getR dX6_readLaw_43 fX6_29 rfl (xc2 hXN2) (show N2.2.2 2 3 = some 5 from (xp2_3 hXN2)) ?_
        refine Rn.aload_n dX6_readLaw_46 rfl ?_
        refine Rn.getR dX6_readLaw_47 fX6_33 rfl (xc2 hXN2) (show N2.2.2 2 4 = some pl from h24N2) ?_
        refine Rn.iload_n dX6_readLaw_50 rfl ?_
        refine Rn.bipushv (v := 14) dX6_readLaw_51 bp_14 ?_
        refine Rn.icmp_ne dX6_readLaw_53 (fun h9 => ?_) (fun h9 => absurd h9 h14)
        have hkk : 1 < 5 := by decide
        have oN2 : ∀ a, a ≠ 2 → a ≠ 3 → N2.1 a = M.1 a := fun a a1 a2 => (gt a a1 a2).trans (f1.2.1 a a2)
        have hP2 : CPl N2 pl p := hP.of (fun a a1 a2 => oN2 a (by omega) (by omega))
        have hc8 : N2.1 pl 8 = nI p.c := hP2.1.2.2.2.2.2.2.2.2
        refine Rn.aload_n dX6_readLaw_66 rfl ?_
        refine Rn.getR dX6_readLaw_67 fX6_33 rfl (xc2 hXN2) (show N2.2.2 2 4 = some pl from h24N2) ?_
        refine Rn.getR dX6_readLaw_70 fX6_165 rfl (pc0 hXN2 hp7) (show N2.2.2 pl 16 = some (pl + 21) from (pp0_16 hXN2 hp7)) ?_
        refine Rn.callV2 dX6_readLaw_73 vX6_157 (xc5 hXN2) (by decide) rfl (tX3_read (M := N2) (n := n) (q := pl + laO 1) (pq := pl) (i := nx f n (nx f n i)) (c := p.c) hrN2 (by omega) (pc0 hXN2 hp7) ⟨hc8, hct.2.2.2.2.1⟩ (lawC hXN2 hp7 hkk) ⟨by have := laws_c 1 hkk; omega, by have := laws_c 1 hkk; omega⟩ hXN2) (by decide) ⟨(Nat.le_of_ble_eq_true rfl), (Nat.le_of_ble_eq_true rfl), (Nat.le_of_ble_eq_true rfl)⟩ (fun h => by cases h) (fun v1 ly1 N3 ⟨q2, fm, r9, j9, hm9, hr9, hh⟩ => ?_)
        rw [q2]
        have hmr := mRes_eq hm9
        have hlc := laws_c 1 hkk
        have hFN3 : pcF M N3 pl := hFN2.tr ⟨fm.1, fun a ha => (Classical.em (a = pl)).elim (fun e => absurd (Or.inr (Or.inr (Or.inr (Or.inr ⟨by omega, by omega⟩)))) ha) (fun e => fm.2.1 a (by omega) (by omega) (by omega) (by omega) (by omega) (by omega))⟩
        rcases hh with ⟨c9, em, e9, q1, k1, k2, k3, k4, k5⟩ | ⟨k9, e9, q1, k1⟩
        · skip
          rw [q1]
          rw [e9] at hmr
          have hXN3 : XW ly N3.2.2 := hFN3.xw hX
          have h24N3 : N3.2.2 2 4 = some pl := (hFN3.1 2 4 (by omega)).trans h24
          refine Rn.istore_n (lv' := [some (.ref 2), some (.int (kdF f n (nx f n i))), some (.int 0)]) dX6_readLaw_76 (by decide) rfl ?_
          refine Rn.iload_n dX6_readLaw_77 rfl ?_
          refine Rn.if_eq dX6_readLaw_78 (fun h9 => ?_) (fun h9 => (by first | exact absurd h9 (by decide) | exact absurd (by decide) h9))
          refine Rn.iconstv (v := 1) dX6_readLaw_89 ic_1 ?_
          refine Rn.goto dX6_readLaw_90 ?_
          have hres : lnL (kdF f n) (nvF f n) (nx f n) p i = .inl ((p.D, p.ct, setL p.lw 1 em, c9, setB p.tb 15 true, p.hc), j9) := (if_neg h14).trans ((if_pos h15).trans ((if_neg zt).trans (congrArg (Sum.elim _ _) hmr)))
          have hPL := hP2.law (tb := setB p.tb 15 true) (hc := p.hc) hkk fm.2.2 k1 k4 k5 (fun a a1 a2 a3 a4 => fm.2.1 a (by omega) (by omega) (by omega) a3 a4 (by omega))
          have h2N : N3.1 2 = N2.1 2 := fm.2.1 2 (by omega) (by omega) (by omega) (by omega) (by omega) (by omega)
          exact Rn.iret (ty := .boolean) dX6_readLaw_94 rfl rfl ⟨rfl, hFN3, Or.inl ⟨_, _, hres, rfl, hr9, hp7, h24N3, hPL, by rw [h2N]; exact hb1, by rw [h2N]; exact h61.trans (by rw [b1]; exact h6), ⟨by rw [h2N]; exact h62.1.trans (by rw [b1]; exact hft.1), by rw [h2N]; exact h62.2.trans (by rw [b1]; exact hft.2)⟩, hct.1, hct.2.1, hct.2.2.1, hct.2.2.2.1, k2, hct.2.2.2.2.2⟩⟩
        · skip
          rw [q1]
          rw [e9] at hmr
          have hXN3 : XW ly N3.2.2 := hFN3.xw hX
          have pl9 := hr9.2.2.2.1
          refine Rn.istore_n (lv' := [some (.ref 2), some (.int (kdF f n (nx f n i))), some (.int k9)]) dX6_readLaw_76 (by decide) rfl ?_
          refine Rn.iload_n dX6_readLaw_77 rfl ?_
          refine Rn.if_eq dX6_readLaw_78 (fun h9 => absurd h9 k1) (fun h9 => ?_)
          refine Rn.aload_n dX6_readLaw_81 rfl ?_
          refine Rn.iload_n dX6_readLaw_82 rfl ?_
          refine Rn.callV1 dX6_readLaw_83 vX6_89 (xc2 hXN3) (by decide) rfl (tX6_fail (M := N3) (x := k9) hXN3) (by decide) ⟨(Nat.le_of_ble_eq_true rfl), (Nat.le_of_ble_eq_true rfl), (Nat.le_of_ble_eq_true rfl)⟩ (fun h => by cases h) (fun v1 ly1 M1 ⟨q1, q2, q3⟩ => ?_)
          rw [q1, q2, q3]
          show Rn G l mX6_readLaw (4, 0, 0, false) 86 [some (.ref 2), some (.int (kdF f n (nx f n i))), some (.int k9)] [.int 0] ly (sI N3 2 (upd (upd (N3.1 2) 0 k9) 1 (N3.1 3 1))) (clP ly M f n pl (lnL (kdF f n) (nvF f n) (nx f n) p i))
          show Rn G l mX6_readLaw (4, 0, 0, false) 86 [some (.ref 2), some (.int (kdF f n (nx f n i))), some (.int k9)] [.int 0] ly (sI N3 2 (upd (upd (N3.1 2) 0 k9) 1 (N3.1 3 1))) (clP ly M f n pl (lnL (kdF f n) (nvF f n) (nx f n) p i))
          refine Rn.if_eq dX6_readLaw_86 (fun h9 => ?_) (fun h9 => (by first | exact absurd h9 (by decide) | exact absurd (by decide) h9))
          refine Rn.iconstv (v := 0) dX6_readLaw_93 ic_0 ?_
          exact Rn.iret (ty := .boolean) dX6_readLaw_94 rfl rfl ⟨rfl, hFN3.tr (pcF.s (Or.inl rfl)), Or.inr ⟨k9, j9, (if_neg h14).trans ((if_pos h15).trans ((if_neg zt).trans (congrArg (Sum.elim _ _) hmr))), rfl, rfl, pl9⟩⟩
    · skip
      refine Rn.aload_n dX6_readLaw_7 rfl ?_
      refine Rn.getR dX6_readLaw_8 fX6_20 rfl (xc2 hXN1) (show N1.2.2 2 2 = some 3 from (xp2_2 hXN1)) ?_
      refine Rn.getI dX6_readLaw_11 fX6_56 rfl (xc3 hXN1) ?_
      refine Rn.topI (y := kdF f n (nx f n i)) (rk) ?_
      refine Rn.istore_n (lv' := [some (.ref 2), some (.int (kdF f n (nx f n i))), none]) dX6_readLaw_14 (by decide) rfl ?_
      refine Rn.iload_n dX6_readLaw_15 rfl ?_
      refine Rn.bipushv (v := 14) dX6_readLaw_16 bp_14 ?_
      refine Rn.icmp_eq dX6_readLaw_18 (fun h9 => absurd h9 h14) (fun h9 => ?_)
      refine Rn.iload_n dX6_readLaw_21 rfl ?_
      refine Rn.bipushv (v := 15) dX6_readLaw_22 bp_15 ?_
      refine Rn.icmp_eq dX6_readLaw_24 (fun h9 => absurd h9 h15) (fun h9 => ?_)
      refine Rn.aload_n dX6_readLaw_27 rfl ?_
      refine Rn.iconstv (v := 1) dX6_readLaw_28 ic_1 ?_
      refine Rn.callV1 dX6_readLaw_29 vX6_89 (xc2 hXN1) (by decide) rfl (tX6_fail (M := N1) (x := 1) hXN1) (by decide) ⟨(Nat.le_of_ble_eq_true rfl), (Nat.le_of_ble_eq_true rfl), (Nat.le_of_ble_eq_true rfl)⟩ (fun h => by cases h) (fun v1 ly1 M1 ⟨q1, q2, q3⟩ => ?_)
      rw [q1, q2, q3]
      show Rn G l mX6_readLaw (4, 0, 0, false) 32 [some (.ref 2), some (.int (kdF f n (nx f n i))), none] [.int 0] ly (sI N1 2 (upd (upd (N1.1 2) 0 1) 1 (N1.1 3 1))) (clP ly M f n pl (lnL (kdF f n) (nvF f n) (nx f n) p i))
      exact Rn.iret (ty := .boolean) dX6_readLaw_32 rfl rfl ⟨rfl, hFN1.tr (pcF.s (Or.inl rfl)), Or.inr ⟨_, _, (if_neg h14).trans (if_neg h15), rfl, rfl, pk⟩⟩
