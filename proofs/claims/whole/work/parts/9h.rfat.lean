theorem rfatLine {G : Gx} {l : Launch} {ly : Ly} {M : Mm} {f : Nat → Int32} {n i : Nat} {p : Pl} (hS : RPs M f n p (nx f n i)) (h6 : p.ct 1 < 4) (hR : RW ly M.2.2) : Mt G l mX12_fatLine (9, 0, 0, false) [.ref 149, .int (nI (4 + p.ct 1))] ly M (rsP ly M f n (lnT (kdF f n) (nvF f n) (nx f n) p i)) := by
  refine Mt.of (lv := [some (.ref 149), some (.int (nI (4 + p.ct 1))), none, none]) rfl ?_
  obtain ⟨hrd, h150, h29, h33, h34, hbw, h22, hP, hct⟩ := hS
  have hz : RDz M f n (nx f n i) := ⟨hrd, h150, h29⟩
  have hne : ¬ p.ct 1 = 4 := Nat.ne_of_lt h6
  have h1510 : M.1 151 20 = nI (p.ct 1) := hP.2.1 1 (by decide)
  have hD00 : M.1 151 13 = p.D 0 0 := hP.1 0 (Or.inl (by decide))
  refine Rn.aload_n dX12_fatLine_0 rfl ?_
  refine Rn.iconstv (v := 1) dX12_fatLine_1 ic_1 ?_
  refine Rn.putZ dX12_fatLine_2 fX12_258 rfl rfl rfl (by decide) (rc149 hR) ?_
  obtain ⟨N1, eN1⟩ : ∃ N9, N9 = sI M 149 (upd (M.1 149) 22 1) := ⟨_, rfl⟩
  rw [← eN1]
  have rN1 : rlF M N1 := by rw [eN1]; exact rlF.f (fun j hj => pk_un (by omega))
  have oN1 : ∀ a, a ≠ 149 → N1.1 a = M.1 a := fun a a0 => by rw [eN1, sI_ne a0]
  have XN1 : N1.1 149 21 = M.1 149 21 ∧ N1.1 149 22 = 1 ∧ (N1.1 149 33 = M.1 149 33 ∧ N1.1 149 30 = M.1 149 30) ∧ N1.1 149 34 = M.1 149 34 := by rw [eN1]; exact ⟨rfl, rfl, ⟨rfl, rfl⟩, rfl⟩
  have zN1 : RDz N1 f n (nx f n i) := hz.of (by rw [eN1]; exact ⟨rfl, rfl, rfl, rfl, rfl, rfl⟩) (by rw [eN1]; rfl)
  clear eN1
  have hRN1 : RW ly N1.2.2 := by rw [rN1.1]; exact hR
  have h151_ : N1.1 151 20 = nI (p.ct 1) := by rw [oN1 151 (by decide)]; exact h1510
  have hNm : ∀ j, j < p.ct 1 → N1.1 158 (4 + j) = p.D 2 j := fun j hj => by rw [oN1 158 (by decide)]; exact hP.2.2.2.1 2 (by decide) (by decide) j hj (fun g => absurd g (by decide))
  refine Rn.aload_n dX12_fatLine_5 rfl ?_
  refine Rn.getR dX12_fatLine_6 fX12_36 rfl (rc149 hRN1) (show N1.2.2 149 10 = some 158 from (rpt10 hRN1)) ?_
  refine Rn.iload_n dX12_fatLine_9 rfl ?_
  refine Rn.aload_n dX12_fatLine_10 rfl ?_
  refine Rn.aload_n dX12_fatLine_11 rfl ?_
  refine Rn.getR dX12_fatLine_12 fX12_36 rfl (rc149 hRN1) (show N1.2.2 149 10 = some 158 from (rpt10 hRN1)) ?_
  refine Rn.iconstv (v := 4) dX12_fatLine_15 ic_4 ?_
  refine Rn.aload_n dX12_fatLine_16 rfl ?_
  refine Rn.bipushv (v := 7) dX12_fatLine_17 bp_7 ?_
  refine Rn.callV1 dX12_fatLine_19 vX12_245 (rc149 hRN1) (by decide) rfl (tX12_fresher (M := N1) (k := 7) (by decide) hRN1) (by omega) ⟨(Nat.le_of_ble_eq_true rfl), (Nat.le_of_ble_eq_true rfl), (Nat.le_of_ble_eq_true rfl)⟩ (fun h => by cases h) (fun v1 ly1 M1 ⟨q1, q2, q3⟩ => ?_)
  rw [q1, q2, q3]
  refine Rn.topI (y := nI (p.ct 1)) (show N1.1 151 (13 + 7) = nI (p.ct 1) from h151_) ?_
  refine Rn.callV3 dX12_fatLine_22 vX12_278 (rc149 hRN1) (by decide) rfl (rfresh (M := N1) (i := nx f n i) (a := 158) (fo := 4) (m := p.ct 1) (len := 8) (N := p.D 2) zN1 (rc158 hRN1) (by omega) (by decide) hNm hRN1) (by decide) ⟨(Nat.le_of_ble_eq_true rfl), (Nat.le_of_ble_eq_true rfl), (Nat.le_of_ble_eq_true rfl)⟩ (fun h => by cases h) (fun v1 ly1 N2 ⟨q2, hh⟩ => ?_)
  rw [q2]
  rcases hh with ⟨zN2a, q1, tN2, zN2⟩ | ⟨zN2a, q1, gN2, hfa⟩
  · skip
    rw [q1]
    have rN2 : rlF M N2 := rN1.tr (rlF.tok tN2)
    have oN2 : ∀ a, a ≠ 149 → N2.1 a = M.1 a := fun a a0 => (tN2.2.1 a a0).trans (oN1 a a0 )
    have xN2 : N2.1 149 21 = N1.1 149 21 ∧ N2.1 149 22 = N1.1 149 22 ∧ (N2.1 149 33 = N1.1 149 33 ∧ N2.1 149 30 = N1.1 149 30) ∧ N2.1 149 34 = N1.1 149 34 := ⟨tN2.2.2 21 (by omega), tN2.2.2 22 (by omega), ⟨tN2.2.2 33 (by omega), tN2.2.2 30 (by omega)⟩, tN2.2.2 34 (by omega)⟩
    have XN2 := (⟨xN2.1.trans XN1.1, xN2.2.1.trans XN1.2.1, ⟨xN2.2.2.1.1.trans XN1.2.2.1.1, xN2.2.2.1.2.trans XN1.2.2.1.2⟩, xN2.2.2.2.trans XN1.2.2.2⟩ : N2.1 149 21 = M.1 149 21 ∧ N2.1 149 22 = 1 ∧ (N2.1 149 33 = M.1 149 33 ∧ N2.1 149 30 = M.1 149 30) ∧ N2.1 149 34 = M.1 149 34)
    have hRN2 : RW ly N2.2.2 := by rw [rN2.1]; exact hR
    replace h151_ := h1510
    refine Rn.iastN (k0 := (4 + p.ct 1)) dX12_fatLine_25 (rc158 hRN2) (by omega) (by decide) ?_
    obtain ⟨N3, eN3⟩ : ∃ N9, N9 = sI N2 158 (upd (N2.1 158) (4 + p.ct 1) (nvF f n (nx f n i))) := ⟨_, rfl⟩
    rw [← eN3]
    have fN3 : rlF N2 N3 := by rw [eN3]; exact rlF.r (by decide) ⟨by decide, by decide, by show 4 ≤ _; omega⟩
    have rN3 : rlF M N3 := rN2.tr fN3
    have oN3 : ∀ a, a ≠ 149 → a ≠ 158 → N3.1 a = M.1 a := fun a a0 a158 => by rw [eN3, sI_ne a158]; exact oN2 a a0 
    have cN3_158 : N3.1 158 = upd (M.1 158) (4 + p.ct 1) (nvF f n (nx f n i)) := by rw [eN3, sI_at]; exact congrArg (fun r9 => upd r9 _ _) (oN2 158 (by decide) )
    have yN3 : N3.1 149 = N2.1 149 := by rw [eN3]; exact sI_ne (by decide)
    have xN3 : N3.1 149 21 = N2.1 149 21 ∧ N3.1 149 22 = N2.1 149 22 ∧ (N3.1 149 33 = N2.1 149 33 ∧ N3.1 149 30 = N2.1 149 30) ∧ N3.1 149 34 = N2.1 149 34 := by rw [yN3]; exact ⟨rfl, rfl, ⟨rfl, rfl⟩, rfl⟩
    have wN3 : N3.1 150 = N2.1 150 := by rw [eN3]; exact sI_ne (by decide)
    clear eN3
    have XN3 := (⟨xN3.1.trans XN2.1, xN3.2.1.trans XN2.2.1, ⟨xN3.2.2.1.1.trans XN2.2.2.1.1, xN3.2.2.1.2.trans XN2.2.2.1.2⟩, xN3.2.2.2.trans XN2.2.2.2⟩ : N3.1 149 21 = M.1 149 21 ∧ N3.1 149 22 = 1 ∧ (N3.1 149 33 = M.1 149 33 ∧ N3.1 149 30 = M.1 149 30) ∧ N3.1 149 34 = M.1 149 34)
    have hRN3 : RW ly N3.2.2 := by rw [rN3.1]; exact hR
    have zN3 : RDz N3 f n (nx f n (nx f n i)) := zN2.of (by rw [yN3]; exact ⟨rfl, rfl, rfl, rfl, rfl, rfl⟩) wN3
    refine Rn.aload_n dX12_fatLine_26 rfl ?_
    refine Rn.iconstv (v := 0) dX12_fatLine_27 ic_0 ?_
    refine Rn.aload_n dX12_fatLine_28 rfl ?_
    refine Rn.iconstv (v := 0) dX12_fatLine_29 ic_0 ?_
    refine Rn.callV1 dX12_fatLine_30 vX12_245 (rc149 hRN3) (by decide) rfl (tX12_fresher (M := N3) (k := 0) (by decide) hRN3) (by omega) ⟨(Nat.le_of_ble_eq_true rfl), (Nat.le_of_ble_eq_true rfl), (Nat.le_of_ble_eq_true rfl)⟩ (fun h => by cases h) (fun v1 ly1 M1 ⟨q1, q2, q3⟩ => ?_)
    rw [q1, q2, q3]
    refine Rn.topI (y := p.D 0 0) (show N3.1 151 (13 + 0) = p.D 0 0 from (congrFun (oN3 151 (by decide) (by decide)) 13).trans hD00) ?_
    refine Rn.iconstv (v := 1) dX12_fatLine_33 ic_1 ?_
    refine Rn.isub dX12_fatLine_34 ?_
    refine Rn.callV2 dX12_fatLine_35 vX12_234 (rc149 hRN3) (by decide) rfl (rnah (M := N3) (i := nx f n (nx f n i)) zN3 hRN3) (by decide) ⟨(Nat.le_of_ble_eq_true rfl), (Nat.le_of_ble_eq_true rfl), (Nat.le_of_ble_eq_true rfl)⟩ (fun h => by cases h) (fun v1 ly1 N0 ⟨q2, hh⟩ => ?_)
    rw [q2]
    rcases hh with ⟨zc, q1, bc, q3⟩ | ⟨zc, q1, gc, hfa⟩
    · skip
      rw [q1, q3]
      refine Rn.istore_n (lv' := [some (.ref 149), some (.int (nI (4 + p.ct 1))), some (.int (nvF f n (nx f n (nx f n i)))), none]) dX12_fatLine_38 (by decide) rfl ?_
      refine Rn.iconstv (v := 4) dX12_fatLine_39 ic_4 ?_
      refine Rn.istore_n (lv' := [some (.ref 149), some (.int (nI (4 + p.ct 1))), some (.int (nvF f n (nx f n (nx f n i)))), some (.int 4)]) dX12_fatLine_40 (by decide) rfl ?_
      have hrw : ∀ j, j < p.ct 1 → N3.1 159 (4 + j) = p.D 10 j := fun j hj => by rw [oN3 159 (by decide) (by decide)]; exact hP.2.2.2.1 10 (by decide) (by decide) j hj (fun g => absurd g (by decide))
      have exit : wdF (fun j => decide (p.D 10 j = nvF f n (nx f n (nx f n i)))) (p.ct 1) 0 = -1 → Rn G l mX12_fatLine (9, 0, 0, false) 74 [some (.ref 149), some (.int (nI (4 + p.ct 1))), some (.int (nvF f n (nx f n (nx f n i)))), none] [] ly N3 (rsP ly M f n (lnT (kdF f n) (nvF f n) (nx f n) p i)) := by
        intro hst
        refine Rn.aload_n dX12_fatLine_74 rfl ?_
        refine Rn.getI dX12_fatLine_75 fX12_222 rfl (rc149 hRN3) ?_
        refine Rn.if_eq dX12_fatLine_78 (fun h9 => ?_) (fun h9 => absurd zN3.2.2 h9)
        refine Rn.aload_n dX12_fatLine_82 rfl ?_
        refine Rn.getR dX12_fatLine_83 fX12_39 rfl (rc149 hRN3) (show N3.2.2 149 11 = some 159 from (rpt11 hRN3)) ?_
        refine Rn.iload_n dX12_fatLine_86 rfl ?_
        refine Rn.iload_n dX12_fatLine_87 rfl ?_
        refine Rn.iastN (k0 := (4 + p.ct 1)) dX12_fatLine_88 (rc159 hRN3) (by omega) (by decide) ?_
        obtain ⟨N4, eN4⟩ : ∃ N9, N9 = sI N3 159 (upd (N3.1 159) (4 + p.ct 1) (nvF f n (nx f n (nx f n i)))) := ⟨_, rfl⟩
        rw [← eN4]
        have fN4 : rlF N3 N4 := by rw [eN4]; exact rlF.r (by decide) ⟨by decide, by decide, by show 4 ≤ _; omega⟩
        have rN4 : rlF M N4 := rN3.tr fN4
        have oN4 : ∀ a, a ≠ 149 → a ≠ 158 → a ≠ 159 → N4.1 a = M.1 a := fun a a0 a158 a159 => by rw [eN4, sI_ne a159]; exact oN3 a a0 a158
        have cN4_158 : N4.1 158 = upd (M.1 158) (4 + p.ct 1) (nvF f n (nx f n i)) := by rw [eN4, sI_ne (by decide)]; exact cN3_158
        have cN4_159 : N4.1 159 = upd (M.1 159) (4 + p.ct 1) (nvF f n (nx f n (nx f n i))) := by rw [eN4, sI_at]; exact congrArg (fun r9 => upd r9 _ _) (oN3 159 (by decide) (by decide))
        have yN4 : N4.1 149 = N3.1 149 := by rw [eN4]; exact sI_ne (by decide)
        have xN4 : N4.1 149 21 = N3.1 149 21 ∧ N4.1 149 22 = N3.1 149 22 ∧ (N4.1 149 33 = N3.1 149 33 ∧ N4.1 149 30 = N3.1 149 30) ∧ N4.1 149 34 = N3.1 149 34 := by rw [yN4]; exact ⟨rfl, rfl, ⟨rfl, rfl⟩, rfl⟩
        have wN4 : N4.1 150 = N3.1 150 := by rw [eN4]; exact sI_ne (by decide)
        clear eN4
        have XN4 := (⟨xN4.1.trans XN3.1, xN4.2.1.trans XN3.2.1, ⟨xN4.2.2.1.1.trans XN3.2.2.1.1, xN4.2.2.1.2.trans XN3.2.2.1.2⟩, xN4.2.2.2.trans XN3.2.2.2⟩ : N4.1 149 21 = M.1 149 21 ∧ N4.1 149 22 = 1 ∧ (N4.1 149 33 = M.1 149 33 ∧ N4.1 149 30 = M.1 149 30) ∧ N4.1 149 34 = M.1 149 34)
        have hRN4 : RW ly N4.2.2 := by rw [rN4.1]; exact hR
        have zN4 : RDz N4 f n (nx f n (nx f n i)) := zN3.of (by rw [yN4]; exact ⟨rfl, rfl, rfl, rfl, rfl, rfl⟩) wN4
        refine Rn.aload_n dX12_fatLine_89 rfl ?_
        refine Rn.callV0 dX12_fatLine_90 vX12_228 (rc149 hRN4) (by decide) rfl (rtok (M := N4) (i := nx f n (nx f n i)) zN4 hRN4) (by decide) ⟨(Nat.le_of_ble_eq_true rfl), (Nat.le_of_ble_eq_true rfl), (Nat.le_of_ble_eq_true rfl)⟩ (fun h => by cases h) (fun v1 ly1 N5 ⟨q1, q2, tN5, zN5⟩ => ?_)
        rw [q1, q2]
        have rN5 : rlF M N5 := rN4.tr (rlF.tok tN5)
        have oN5 : ∀ a, a ≠ 149 → a ≠ 158 → a ≠ 159 → N5.1 a = M.1 a := fun a a0 a158 a159 => (tN5.2.1 a a0).trans (oN4 a a0 a158 a159)
        have cN5_158 : N5.1 158 = upd (M.1 158) (4 + p.ct 1) (nvF f n (nx f n i)) := (tN5.2.1 158 (by decide)).trans cN4_158
        have cN5_159 : N5.1 159 = upd (M.1 159) (4 + p.ct 1) (nvF f n (nx f n (nx f n i))) := (tN5.2.1 159 (by decide)).trans cN4_159
        have xN5 : N5.1 149 21 = N4.1 149 21 ∧ N5.1 149 22 = N4.1 149 22 ∧ (N5.1 149 33 = N4.1 149 33 ∧ N5.1 149 30 = N4.1 149 30) ∧ N5.1 149 34 = N4.1 149 34 := ⟨tN5.2.2 21 (by omega), tN5.2.2 22 (by omega), ⟨tN5.2.2 33 (by omega), tN5.2.2 30 (by omega)⟩, tN5.2.2 34 (by omega)⟩
        have XN5 := (⟨xN5.1.trans XN4.1, xN5.2.1.trans XN4.2.1, ⟨xN5.2.2.1.1.trans XN4.2.2.1.1, xN5.2.2.1.2.trans XN4.2.2.1.2⟩, xN5.2.2.2.trans XN4.2.2.2⟩ : N5.1 149 21 = M.1 149 21 ∧ N5.1 149 22 = 1 ∧ (N5.1 149 33 = M.1 149 33 ∧ N5.1 149 30 = M.1 149 30) ∧ N5.1 149 34 = M.1 149 34)
        have hRN5 : RW ly N5.2.2 := by rw [rN5.1]; exact hR
        refine Rn.aload_n dX12_fatLine_93 rfl ?_
        refine Rn.getR dX12_fatLine_94 fX12_42 rfl (rc149 hRN5) (show N5.2.2 149 12 = some 160 from (rpt12 hRN5)) ?_
        refine Rn.iload_n dX12_fatLine_97 rfl ?_
        refine Rn.aload_n dX12_fatLine_98 rfl ?_
        refine Rn.iconstv (v := 1) dX12_fatLine_99 ic_1 ?_
        refine Rn.bipushv (v := 99) dX12_fatLine_100 bp_99 ?_
        refine Rn.callV2 dX12_fatLine_102 vX12_262 (rc149 hRN5) (by decide) rfl (rnum (M := N5) (i := nx f n (nx f n (nx f n i))) zN5 hRN5) (by decide) ⟨(Nat.le_of_ble_eq_true rfl), (Nat.le_of_ble_eq_true rfl), (Nat.le_of_ble_eq_true rfl)⟩ (fun h => by cases h) (fun v1 ly1 N6 ⟨q2, hh⟩ => ?_)
        rw [q2]
        rcases hh with ⟨zN6a, q1, bN6, tN6, zN6⟩ | ⟨zN6a, q1, gN6, hfa⟩
        · skip
          rw [q1]
          have rN6 : rlF M N6 := rN5.tr (rlF.tok tN6)
          have oN6 : ∀ a, a ≠ 149 → a ≠ 158 → a ≠ 159 → N6.1 a = M.1 a := fun a a0 a158 a159 => (tN6.2.1 a a0).trans (oN5 a a0 a158 a159)
          have cN6_158 : N6.1 158 = upd (M.1 158) (4 + p.ct 1) (nvF f n (nx f n i)) := (tN6.2.1 158 (by decide)).trans cN5_158
          have cN6_159 : N6.1 159 = upd (M.1 159) (4 + p.ct 1) (nvF f n (nx f n (nx f n i))) := (tN6.2.1 159 (by decide)).trans cN5_159
          have xN6 : N6.1 149 21 = N5.1 149 21 ∧ N6.1 149 22 = N5.1 149 22 ∧ (N6.1 149 33 = N5.1 149 33 ∧ N6.1 149 30 = N5.1 149 30) ∧ N6.1 149 34 = N5.1 149 34 := ⟨tN6.2.2 21 (by omega), tN6.2.2 22 (by omega), ⟨tN6.2.2 33 (by omega), tN6.2.2 30 (by omega)⟩, tN6.2.2 34 (by omega)⟩
          have XN6 := (⟨xN6.1.trans XN5.1, xN6.2.1.trans XN5.2.1, ⟨xN6.2.2.1.1.trans XN5.2.2.1.1, xN6.2.2.1.2.trans XN5.2.2.1.2⟩, xN6.2.2.2.trans XN5.2.2.2⟩ : N6.1 149 21 = M.1 149 21 ∧ N6.1 149 22 = 1 ∧ (N6.1 149 33 = M.1 149 33 ∧ N6.1 149 30 = M.1 149 30) ∧ N6.1 149 34 = M.1 149 34)
          have hRN6 : RW ly N6.2.2 := by rw [rN6.1]; exact hR
          refine Rn.iastN (k0 := (4 + p.ct 1)) dX12_fatLine_105 (rc160 hRN6) (by omega) (by decide) ?_
          obtain ⟨N7, eN7⟩ : ∃ N9, N9 = sI N6 160 (upd (N6.1 160) (4 + p.ct 1) (nvF f n (nx f n (nx f n (nx f n i))))) := ⟨_, rfl⟩
          rw [← eN7]
          have fN7 : rlF N6 N7 := by rw [eN7]; exact rlF.r (by decide) ⟨by decide, by decide, by show 4 ≤ _; omega⟩
          have rN7 : rlF M N7 := rN6.tr fN7
          have oN7 : ∀ a, a ≠ 149 → a ≠ 158 → a ≠ 159 → a ≠ 160 → N7.1 a = M.1 a := fun a a0 a158 a159 a160 => by rw [eN7, sI_ne a160]; exact oN6 a a0 a158 a159
          have cN7_158 : N7.1 158 = upd (M.1 158) (4 + p.ct 1) (nvF f n (nx f n i)) := by rw [eN7, sI_ne (by decide)]; exact cN6_158
          have cN7_159 : N7.1 159 = upd (M.1 159) (4 + p.ct 1) (nvF f n (nx f n (nx f n i))) := by rw [eN7, sI_ne (by decide)]; exact cN6_159
          have cN7_160 : N7.1 160 = upd (M.1 160) (4 + p.ct 1) (nvF f n (nx f n (nx f n (nx f n i)))) := by rw [eN7, sI_at]; exact congrArg (fun r9 => upd r9 _ _) (oN6 160 (by decide) (by decide) (by decide))
          have yN7 : N7.1 149 = N6.1 149 := by rw [eN7]; exact sI_ne (by decide)
          have xN7 : N7.1 149 21 = N6.1 149 21 ∧ N7.1 149 22 = N6.1 149 22 ∧ (N7.1 149 33 = N6.1 149 33 ∧ N7.1 149 30 = N6.1 149 30) ∧ N7.1 149 34 = N6.1 149 34 := by rw [yN7]; exact ⟨rfl, rfl, ⟨rfl, rfl⟩, rfl⟩
          have wN7 : N7.1 150 = N6.1 150 := by rw [eN7]; exact sI_ne (by decide)
          clear eN7
          have XN7 := (⟨xN7.1.trans XN6.1, xN7.2.1.trans XN6.2.1, ⟨xN7.2.2.1.1.trans XN6.2.2.1.1, xN7.2.2.1.2.trans XN6.2.2.1.2⟩, xN7.2.2.2.trans XN6.2.2.2⟩ : N7.1 149 21 = M.1 149 21 ∧ N7.1 149 22 = 1 ∧ (N7.1 149 33 = M.1 149 33 ∧ N7.1 149 30 = M.1 149 30) ∧ N7.1 149 34 = M.1 149 34)
          have hRN7 : RW ly N7.2.2 := by rw [rN7.1]; exact hR
          have zN7 : RDz N7 f n (nx f n (nx f n (nx f n (nx f n i)))) := zN6.of (by rw [yN7]; exact ⟨rfl, rfl, rfl, rfl, rfl, rfl⟩) wN7
          refine Rn.aload_n dX12_fatLine_106 rfl ?_
          refine Rn.bipushv (v := 7) dX12_fatLine_107 bp_7 ?_
          refine Rn.aload_n dX12_fatLine_109 rfl ?_
          refine Rn.bipushv (v := 7) dX12_fatLine_110 bp_7 ?_
          refine Rn.callV1 dX12_fatLine_112 vX12_245 (rc149 hRN7) (by decide) rfl (tX12_fresher (M := N7) (k := 7) (by decide) hRN7) (by omega) ⟨(Nat.le_of_ble_eq_true rfl), (Nat.le_of_ble_eq_true rfl), (Nat.le_of_ble_eq_true rfl)⟩ (fun h => by cases h) (fun v1 ly1 M1 ⟨q1, q2, q3⟩ => ?_)
          rw [q1, q2, q3]
          refine Rn.topI (y := nI (p.ct 1)) (show N7.1 151 (13 + 7) = nI (p.ct 1) from (congrFun (oN7 151 (by decide) (by decide) (by decide) (by decide)) 20).trans h151_) ?_
          refine Rn.iconstv (v := 1) dX12_fatLine_115 ic_1 ?_
          refine Rn.iadd dX12_fatLine_116 ?_
          refine Rn.topI (y := nI (p.ct 1 + 1)) (nI_add (p.ct 1) 1) ?_
          refine Rn.callV2 dX12_fatLine_117 vX12_265 (rc149 hRN7) (by decide) rfl (tX12_reads (M := N7) (k := 7) (x := nI (p.ct 1 + 1)) (by decide) hRN7) (by omega) ⟨(Nat.le_of_ble_eq_true rfl), (Nat.le_of_ble_eq_true rfl), (Nat.le_of_ble_eq_true rfl)⟩ (fun h => by cases h) (fun v1 ly1 M1 ⟨q1, q2, q3⟩ => ?_)
          rw [q1, q2, q3]
          obtain ⟨N8, eN8⟩ : ∃ N9, N9 = sI N7 151 (upd (N7.1 151) (13 + 7) (nI (p.ct 1 + 1))) := ⟨_, rfl⟩
          rw [← eN8]
          have fN8 : rlF N7 N8 := by rw [eN8]; exact rlF.r (by decide) ⟨by decide, by decide, by show 13 ≤ _; omega⟩
          have rN8 : rlF M N8 := rN7.tr fN8
          have oN8 : ∀ a, a ≠ 149 → a ≠ 158 → a ≠ 159 → a ≠ 160 → a ≠ 151 → N8.1 a = M.1 a := fun a a0 a158 a159 a160 a151 => by rw [eN8, sI_ne a151]; exact oN7 a a0 a158 a159 a160
          have cN8_158 : N8.1 158 = upd (M.1 158) (4 + p.ct 1) (nvF f n (nx f n i)) := by rw [eN8, sI_ne (by decide)]; exact cN7_158
          have cN8_159 : N8.1 159 = upd (M.1 159) (4 + p.ct 1) (nvF f n (nx f n (nx f n i))) := by rw [eN8, sI_ne (by decide)]; exact cN7_159
          have cN8_160 : N8.1 160 = upd (M.1 160) (4 + p.ct 1) (nvF f n (nx f n (nx f n (nx f n i)))) := by rw [eN8, sI_ne (by decide)]; exact cN7_160
          have cN8_151 : N8.1 151 = upd (M.1 151) (13 + 7) (nI (p.ct 1 + 1)) := by rw [eN8, sI_at]; exact congrArg (fun r9 => upd r9 _ _) (oN7 151 (by decide) (by decide) (by decide) (by decide))
          have yN8 : N8.1 149 = N7.1 149 := by rw [eN8]; exact sI_ne (by decide)
          have xN8 : N8.1 149 21 = N7.1 149 21 ∧ N8.1 149 22 = N7.1 149 22 ∧ (N8.1 149 33 = N7.1 149 33 ∧ N8.1 149 30 = N7.1 149 30) ∧ N8.1 149 34 = N7.1 149 34 := by rw [yN8]; exact ⟨rfl, rfl, ⟨rfl, rfl⟩, rfl⟩
          have wN8 : N8.1 150 = N7.1 150 := by rw [eN8]; exact sI_ne (by decide)
          clear eN8
          have XN8 := (⟨xN8.1.trans XN7.1, xN8.2.1.trans XN7.2.1, ⟨xN8.2.2.1.1.trans XN7.2.2.1.1, xN8.2.2.1.2.trans XN7.2.2.1.2⟩, xN8.2.2.2.trans XN7.2.2.2⟩ : N8.1 149 21 = M.1 149 21 ∧ N8.1 149 22 = 1 ∧ (N8.1 149 33 = M.1 149 33 ∧ N8.1 149 30 = M.1 149 30) ∧ N8.1 149 34 = M.1 149 34)
          have hRN8 : RW ly N8.2.2 := by rw [rN8.1]; exact hR
          have zN8 : RDz N8 f n (nx f n (nx f n (nx f n (nx f n i)))) := zN7.of (by rw [yN8]; exact ⟨rfl, rfl, rfl, rfl, rfl, rfl⟩) wN8
          have hres : lnT (kdF f n) (nvF f n) (nx f n) p i = .inl (addF p (nvF f n (nx f n i)) (nvF f n (nx f n (nx f n i))) (nvF f n (nx f n (nx f n (nx f n i)))), nx f n (nx f n (nx f n (nx f n i)))) := (if_neg hne).trans ((qK_0 zN2a).trans ((qK_0 zc).trans ((if_pos hst).trans (qK_0 zN6a))))
          have hrow : ∀ r, 1 ≤ r → r ≤ 13 → knD r = 1 → (∀ j, j ≠ rOf 1 + p.ct 1 → N8.1 (rCl r) j = M.1 (rCl r) j) ∧ ((r = 9 → (addF p (nvF f n (nx f n i)) (nvF f n (nx f n (nx f n i))) (nvF f n (nx f n (nx f n (nx f n i))))).1 8 (p.ct 1) = 0) → N8.1 (rCl r) (rOf 1 + p.ct 1) = (addF p (nvF f n (nx f n i)) (nvF f n (nx f n (nx f n i))) (nvF f n (nx f n (nx f n (nx f n i))))).1 r (p.ct 1)) := by
            intro r r1 r2 hk9
            match r, r1, r2 with
            | 1, _, _ => exact absurd hk9 (by decide)
            | 2, _, _ => exact ⟨fun j hj => (congrFun cN8_158 j).trans (pk_un hj), fun _ => (congrFun cN8_158 _).trans (pk_us.trans (show _ = (addF p (nvF f n (nx f n i)) (nvF f n (nx f n (nx f n i))) (nvF f n (nx f n (nx f n (nx f n i))))).1 2 (p.ct 1) from pk_us.symm))⟩
            | 3, _, _ => exact absurd hk9 (by decide)
            | 4, _, _ => exact absurd hk9 (by decide)
            | 5, _, _ => exact absurd hk9 (by decide)
            | 6, _, _ => exact absurd hk9 (by decide)
            | 7, _, _ => exact absurd hk9 (by decide)
            | 8, _, _ => exact absurd hk9 (by decide)
            | 9, _, _ => exact absurd hk9 (by decide)
            | 10, _, _ => exact ⟨fun j hj => (congrFun cN8_159 j).trans (pk_un hj), fun _ => (congrFun cN8_159 _).trans (pk_us.trans (show _ = (addF p (nvF f n (nx f n i)) (nvF f n (nx f n (nx f n i))) (nvF f n (nx f n (nx f n (nx f n i))))).1 10 (p.ct 1) from pk_us.symm))⟩
            | 11, _, _ => exact ⟨fun j hj => (congrFun cN8_160 j).trans (pk_un hj), fun _ => (congrFun cN8_160 _).trans (pk_us.trans (show _ = (addF p (nvF f n (nx f n i)) (nvF f n (nx f n (nx f n i))) (nvF f n (nx f n (nx f n (nx f n i))))).1 11 (p.ct 1) from pk_us.symm))⟩
            | 12, _, _ => exact absurd hk9 (by decide)
            | 13, _, _ => exact absurd hk9 (by decide)
          have hrow2 : ∀ r, 1 ≤ r → r ≤ 13 → knD r ≠ 1 → N8.1 (rCl r) = M.1 (rCl r) := by
            intro r r1 r2 hk9
            match r, r1, r2 with
            | 1, _, _ => exact oN8 152 (by decide) (by decide) (by decide) (by decide) (by decide)
            | 2, _, _ => exact absurd rfl hk9
            | 3, _, _ => exact oN8 161 (by decide) (by decide) (by decide) (by decide) (by decide)
            | 4, _, _ => exact oN8 164 (by decide) (by decide) (by decide) (by decide) (by decide)
            | 5, _, _ => exact oN8 153 (by decide) (by decide) (by decide) (by decide) (by decide)
            | 6, _, _ => exact oN8 154 (by decide) (by decide) (by decide) (by decide) (by decide)
            | 7, _, _ => exact oN8 155 (by decide) (by decide) (by decide) (by decide) (by decide)
            | 8, _, _ => exact oN8 156 (by decide) (by decide) (by decide) (by decide) (by decide)
            | 9, _, _ => exact oN8 157 (by decide) (by decide) (by decide) (by decide) (by decide)
            | 10, _, _ => exact absurd rfl hk9
            | 11, _, _ => exact absurd rfl hk9
            | 12, _, _ => exact oN8 162 (by decide) (by decide) (by decide) (by decide) (by decide)
            | 13, _, _ => exact oN8 163 (by decide) (by decide) (by decide) (by decide) (by decide)
          have hD2 : ∀ r j, 1 ≤ r → r ≤ 13 → (knD r ≠ 1 ∨ j < p.ct 1) → (addF p (nvF f n (nx f n i)) (nvF f n (nx f n (nx f n i))) (nvF f n (nx f n (nx f n (nx f n i))))).1 r j = p.D r j := fun r j _ _ h9 => (set2_k (a := 11) rfl h9).trans ((set2_k (a := 10) rfl h9).trans ((set2_k (a := 2) rfl h9).trans (rfl)))
          have hPN : RPl N8 (addF p (nvF f n (nx f n i)) (nvF f n (nx f n (nx f n i))) (nvF f n (nx f n (nx f n (nx f n i))))) := RPl.add (k := 1) hP (by decide) rfl cN8_151 hrow hrow2 hD2 ⟨oN8 165 (by decide) (by decide) (by decide) (by decide) (by decide), oN8 166 (by decide) (by decide) (by decide) (by decide) (by decide), oN8 167 (by decide) (by decide) (by decide) (by decide) (by decide), oN8 168 (by decide) (by decide) (by decide) (by decide) (by decide)⟩
          exact Rn.vret dX12_fatLine_120 rfl ⟨rfl, rfl, rN8, Or.inl ⟨_, _, hres, zN8.1, zN8.2.1, zN8.2.2, ⟨XN8.2.2.1.1.trans h33.1, XN8.2.2.1.2.trans h33.2⟩, XN8.2.2.2.trans h34, by rw [XN8.1]; exact hbw, XN8.2.1, hPN, ⟨hct.1, h6, hct.2.2.1, hct.2.2.2.1, hct.2.2.2.2.1, hct.2.2.2.2.2⟩⟩⟩
        · skip
          rw [q1]
          have rN6 : rlF M N6 := rN5.tr gN6
          have hRN6 : RW ly N6.2.2 := by rw [rN6.1]; exact hR
          have hf9 : ¬ N6.1 149 29 = 0 := by rw [hfa.1]; exact hfa.2.1
          refine Rn.iastN (k0 := (4 + p.ct 1)) dX12_fatLine_105 (rc160 hRN6) (by omega) (by decide) ?_
          refine Rn.aload_n dX12_fatLine_106 rfl ?_
          refine Rn.bipushv (v := 7) dX12_fatLine_107 bp_7 ?_
          refine Rn.aload_n dX12_fatLine_109 rfl ?_
          refine Rn.bipushv (v := 7) dX12_fatLine_110 bp_7 ?_
          show Rn G l mX12_fatLine (9, 0, 0, false) 112 [some (.ref 149), some (.int (nI (4 + p.ct 1))), some (.int (nvF f n (nx f n (nx f n i)))), none] [.int 7, .ref 149, .int 7, .ref 149] ly (sI N6 160 (upd (N6.1 160) (4 + p.ct 1) 1)) (rsP ly M f n (lnT (kdF f n) (nvF f n) (nx f n) p i))
          obtain ⟨F9, eF9⟩ : ∃ N9, N9 = sI N6 160 (upd (N6.1 160) (4 + p.ct 1) 1) := ⟨_, rfl⟩
          rw [← eF9]
          have rF9 : rlF M F9 := by rw [eF9]; exact (rN6).tr (rlF.r (by decide) ⟨by decide, by decide, by show 4 ≤ _; omega⟩)
          have gF9 : F9.1 149 29 = N6.1 149 29 ∧ F9.1 149 30 = N6.1 149 30 := by rw [eF9]; exact ⟨rfl, rfl⟩
          clear eF9
          have hfaF9 : faR f n F9 _ _ := ⟨gF9.1.trans hfa.1, hfa.2.1, gF9.2.trans hfa.2.2⟩
          have hf9 : ¬ F9.1 149 29 = 0 := by rw [hfaF9.1]; exact hfaF9.2.1
          have hRF9 : RW ly F9.2.2 := by rw [rF9.1]; exact hR
          refine Rn.callV1 dX12_fatLine_112 vX12_245 (rc149 hRF9) (by decide) rfl (tX12_fresher (M := F9) (k := 7) (by decide) hRF9) (by omega) ⟨(Nat.le_of_ble_eq_true rfl), (Nat.le_of_ble_eq_true rfl), (Nat.le_of_ble_eq_true rfl)⟩ (fun h => by cases h) (fun v1 ly1 M1 ⟨q1, q2, q3⟩ => ?_)
          rw [q1, q2, q3]
          refine Rn.iconstv (v := 1) dX12_fatLine_115 ic_1 ?_
          refine Rn.iadd dX12_fatLine_116 ?_
          refine Rn.callV2 dX12_fatLine_117 vX12_265 (rc149 hRF9) (by decide) rfl (tX12_reads (M := F9) (k := 7) (x := (F9.1 151 (13 + 7)) + 1) (by omega) hRF9) (by omega) ⟨(Nat.le_of_ble_eq_true rfl), (Nat.le_of_ble_eq_true rfl), (Nat.le_of_ble_eq_true rfl)⟩ (fun h => by cases h) (fun v1 ly1 M1 ⟨q1, q2, q3⟩ => ?_)
          rw [q1, q2, q3]
          exact Rn.vret dX12_fatLine_120 rfl ⟨rfl, rfl, (rF9).tr (rlF.r (by decide) ⟨by decide, by decide, by show 13 ≤ _; omega⟩), Or.inr ⟨_, _, (if_neg hne).trans ((qK_0 zN2a).trans ((qK_0 zc).trans ((if_pos hst).trans (qK_n zN6a)))), hfaF9⟩⟩
      have loop : ∀ (k j : Nat), j + k = p.ct 1 → wdF (fun j => decide (p.D 10 j = nvF f n (nx f n (nx f n i)))) (p.ct 1) 0 = wdF (fun j => decide (p.D 10 j = nvF f n (nx f n (nx f n i)))) k j → Rn G l mX12_fatLine (9, 0, 0, false) 41 [some (.ref 149), some (.int (nI (4 + p.ct 1))), some (.int (nvF f n (nx f n (nx f n i)))), some (.int (nI (4 + j)))] [] ly N3 (rsP ly M f n (lnT (kdF f n) (nvF f n) (nx f n) p i)) := by
        intro k
        induction k with
        | zero =>
          intro j hj hwd
          refine Rn.iload_n dX12_fatLine_41 rfl ?_
          refine Rn.iload_n dX12_fatLine_42 rfl ?_
          refine Rn.icmp_ge dX12_fatLine_43 (fun hc => ?_) (fun hc => ?_)
          · skip
            refine Rn.forget (lv' := [some (.ref 149), some (.int (nI (4 + p.ct 1))), some (.int (nvF f n (nx f n (nx f n i)))), none]) (⟨rfl, ⟨rfl, ⟨rfl, trivial⟩⟩⟩) ?_
            exact exit hwd
          · skip
            exact absurd (nI_le (a := 4 + p.ct 1) (b := 4 + j) (by omega) (by omega)) hc
        | succ k ih =>
          intro j hj hwd
          refine Rn.iload_n dX12_fatLine_41 rfl ?_
          refine Rn.iload_n dX12_fatLine_42 rfl ?_
          refine Rn.icmp_ge dX12_fatLine_43 (fun hc => ?_) (fun hc => ?_)
          · skip
            exact absurd hc (nI_ge (a := 4 + j) (b := 4 + p.ct 1) (by omega) (by omega))
          · skip
            refine Rn.aload_n dX12_fatLine_46 rfl ?_
            refine Rn.getI dX12_fatLine_47 fX12_222 rfl (rc149 hRN3) ?_
            refine Rn.if_ne dX12_fatLine_50 (fun h9 => absurd zN3.2.2 h9) (fun h9 => ?_)
            refine Rn.aload_n dX12_fatLine_53 rfl ?_
            refine Rn.getR dX12_fatLine_54 fX12_39 rfl (rc149 hRN3) (show N3.2.2 149 11 = some 159 from (rpt11 hRN3)) ?_
            refine Rn.iload_n dX12_fatLine_57 rfl ?_
            refine Rn.ialdN (k0 := (4 + j)) dX12_fatLine_58 (rc159 hRN3) (by omega) (by decide) ?_
            refine Rn.topI (y := p.D 10 j) (hrw j (by omega)) ?_
            refine Rn.iload_n dX12_fatLine_59 rfl ?_
            refine Rn.icmp_ne dX12_fatLine_60 (fun hx => ?_) (fun hx => ?_)
            · skip
              refine Rn.iincN (lv' := [some (.ref 149), some (.int (nI (4 + p.ct 1))), some (.int (nvF f n (nx f n (nx f n i)))), some (.int (nI ((4 + j) + 1)))]) dX12_fatLine_68 rfl (by decide) rfl ?_
              refine Rn.goto dX12_fatLine_71 ?_
              exact ih (j + 1) (by omega) (hwd.trans (if_neg (fun g => hx (of_decide_eq_true g))))
            · skip
              have hst : ¬ wdF (fun j => decide (p.D 10 j = nvF f n (nx f n (nx f n i)))) (p.ct 1) 0 = -1 := by rw [hwd]; exact wdF_y (k + 1) j j (by omega) (Nat.le_refl j) (by omega) (decide_eq_true hx)
              refine Rn.aload_n dX12_fatLine_63 rfl ?_
              refine Rn.iconstv (v := 5) dX12_fatLine_64 ic_5 ?_
              refine Rn.callV1 dX12_fatLine_65 vX12_231 (rc149 hRN3) (by decide) rfl (rdWrong (M := N3) (x := 5) zN3.2.2 hRN3) (by omega) ⟨(Nat.le_of_ble_eq_true rfl), (Nat.le_of_ble_eq_true rfl), (Nat.le_of_ble_eq_true rfl)⟩ (fun h => by cases h) (fun v1 ly1 M1 ⟨q1, q2, q3⟩ => ?_)
              rw [q1, q2, q3]
              obtain ⟨N9, e9⟩ : ∃ N0, N0 = wrM N3 5 := ⟨_, rfl⟩
              rw [← e9]
              have rN9 : rlF M N9 := by rw [e9]; exact rN3.tr rlF.wr
              have hfa : faR f n N9 5 (nx f n (nx f n i)) := by rw [e9]; exact zN3.wr (by decide)
              clear e9
              have hRN9 : RW ly N9.2.2 := by rw [rN9.1]; exact hR
              have hf9 : ¬ N9.1 149 29 = 0 := by rw [hfa.1]; exact hfa.2.1
              refine Rn.iincN (lv' := [some (.ref 149), some (.int (nI (4 + p.ct 1))), some (.int (nvF f n (nx f n (nx f n i)))), some (.int (nI ((4 + j) + 1)))]) dX12_fatLine_68 rfl (by decide) rfl ?_
              refine Rn.goto dX12_fatLine_71 ?_
              refine Rn.iload_n dX12_fatLine_41 rfl ?_
              refine Rn.iload_n dX12_fatLine_42 rfl ?_
              refine Rn.icmp_ge dX12_fatLine_43 (fun hlp => ?_) (fun hlp => ?_)
              · skip
                have hf9 : ¬ N9.1 149 29 = 0 := by rw [hfa.1]; exact hfa.2.1
                refine Rn.aload_n dX12_fatLine_74 rfl ?_
                refine Rn.getI dX12_fatLine_75 fX12_222 rfl (rc149 hRN9) ?_
                refine Rn.if_eq dX12_fatLine_78 (fun h9 => absurd h9 hf9) (fun h9 => ?_)
                exact Rn.vret dX12_fatLine_81 rfl ⟨rfl, rfl, rN9, Or.inr ⟨_, _, (if_neg hne).trans ((qK_0 zN2a).trans ((qK_0 zc).trans (if_neg hst))), hfa⟩⟩
              · skip
                have hf9 : ¬ N9.1 149 29 = 0 := by rw [hfa.1]; exact hfa.2.1
                refine Rn.aload_n dX12_fatLine_46 rfl ?_
                refine Rn.getI dX12_fatLine_47 fX12_222 rfl (rc149 hRN9) ?_
                refine Rn.if_ne dX12_fatLine_50 (fun h9 => ?_) (fun h9 => absurd h9 hf9)
                refine Rn.aload_n dX12_fatLine_74 rfl ?_
                refine Rn.getI dX12_fatLine_75 fX12_222 rfl (rc149 hRN9) ?_
                refine Rn.if_eq dX12_fatLine_78 (fun h9 => absurd h9 hf9) (fun h9 => ?_)
                exact Rn.vret dX12_fatLine_81 rfl ⟨rfl, rfl, rN9, Or.inr ⟨_, _, (if_neg hne).trans ((qK_0 zN2a).trans ((qK_0 zc).trans (if_neg hst))), hfa⟩⟩
      exact loop (p.ct 1) 0 (by omega) rfl
    · skip
      rw [q1]
      have rN0 : rlF M N0 := rN3.tr gc
      have hRN0 : RW ly N0.2.2 := by rw [rN0.1]; exact hR
      have hf9 : ¬ N0.1 149 29 = 0 := by rw [hfa.1]; exact hfa.2.1
      refine Rn.istore_n (lv' := [some (.ref 149), some (.int (nI (4 + p.ct 1))), some (.int 0), none]) dX12_fatLine_38 (by decide) rfl ?_
      refine Rn.iconstv (v := 4) dX12_fatLine_39 ic_4 ?_
      refine Rn.istore_n (lv' := [some (.ref 149), some (.int (nI (4 + p.ct 1))), some (.int 0), some (.int 4)]) dX12_fatLine_40 (by decide) rfl ?_
      refine Rn.iload_n dX12_fatLine_41 rfl ?_
      refine Rn.iload_n dX12_fatLine_42 rfl ?_
      refine Rn.icmp_ge dX12_fatLine_43 (fun hlp => ?_) (fun hlp => ?_)
      · skip
        have hf9 : ¬ N0.1 149 29 = 0 := by rw [hfa.1]; exact hfa.2.1
        refine Rn.aload_n dX12_fatLine_74 rfl ?_
        refine Rn.getI dX12_fatLine_75 fX12_222 rfl (rc149 hRN0) ?_
        refine Rn.if_eq dX12_fatLine_78 (fun h9 => absurd h9 hf9) (fun h9 => ?_)
        exact Rn.vret dX12_fatLine_81 rfl ⟨rfl, rfl, rN0, Or.inr ⟨_, _, (if_neg hne).trans ((qK_0 zN2a).trans (qK_n zc)), hfa⟩⟩
      · skip
        have hf9 : ¬ N0.1 149 29 = 0 := by rw [hfa.1]; exact hfa.2.1
        refine Rn.aload_n dX12_fatLine_46 rfl ?_
        refine Rn.getI dX12_fatLine_47 fX12_222 rfl (rc149 hRN0) ?_
        refine Rn.if_ne dX12_fatLine_50 (fun h9 => ?_) (fun h9 => absurd h9 hf9)
        refine Rn.aload_n dX12_fatLine_74 rfl ?_
        refine Rn.getI dX12_fatLine_75 fX12_222 rfl (rc149 hRN0) ?_
        refine Rn.if_eq dX12_fatLine_78 (fun h9 => absurd h9 hf9) (fun h9 => ?_)
        exact Rn.vret dX12_fatLine_81 rfl ⟨rfl, rfl, rN0, Or.inr ⟨_, _, (if_neg hne).trans ((qK_0 zN2a).trans (qK_n zc)), hfa⟩⟩
  · skip
    rw [q1]
    have rN2 : rlF M N2 := rN1.tr gN2
    have hRN2 : RW ly N2.2.2 := by rw [rN2.1]; exact hR
    have hf9 : ¬ N2.1 149 29 = 0 := by rw [hfa.1]; exact hfa.2.1
    refine Rn.iastN (k0 := (4 + p.ct 1)) dX12_fatLine_25 (rc158 hRN2) (by omega) (by decide) ?_
    refine Rn.aload_n dX12_fatLine_26 rfl ?_
    refine Rn.iconstv (v := 0) dX12_fatLine_27 ic_0 ?_
    refine Rn.aload_n dX12_fatLine_28 rfl ?_
    refine Rn.iconstv (v := 0) dX12_fatLine_29 ic_0 ?_
    show Rn G l mX12_fatLine (9, 0, 0, false) 30 [some (.ref 149), some (.int (nI (4 + p.ct 1))), none, none] [.int 0, .ref 149, .int 0, .ref 149] ly (sI N2 158 (upd (N2.1 158) (4 + p.ct 1) 0)) (rsP ly M f n (lnT (kdF f n) (nvF f n) (nx f n) p i))
    obtain ⟨F10, eF10⟩ : ∃ N9, N9 = sI N2 158 (upd (N2.1 158) (4 + p.ct 1) 0) := ⟨_, rfl⟩
    rw [← eF10]
    have rF10 : rlF M F10 := by rw [eF10]; exact (rN2).tr (rlF.r (by decide) ⟨by decide, by decide, by show 4 ≤ _; omega⟩)
    have gF10 : F10.1 149 29 = N2.1 149 29 ∧ F10.1 149 30 = N2.1 149 30 := by rw [eF10]; exact ⟨rfl, rfl⟩
    clear eF10
    have hfaF10 : faR f n F10 _ _ := ⟨gF10.1.trans hfa.1, hfa.2.1, gF10.2.trans hfa.2.2⟩
    have hf9 : ¬ F10.1 149 29 = 0 := by rw [hfaF10.1]; exact hfaF10.2.1
    have hRF10 : RW ly F10.2.2 := by rw [rF10.1]; exact hR
    refine Rn.callV1 dX12_fatLine_30 vX12_245 (rc149 hRF10) (by decide) rfl (tX12_fresher (M := F10) (k := 0) (by decide) hRF10) (by omega) ⟨(Nat.le_of_ble_eq_true rfl), (Nat.le_of_ble_eq_true rfl), (Nat.le_of_ble_eq_true rfl)⟩ (fun h => by cases h) (fun v1 ly1 M1 ⟨q1, q2, q3⟩ => ?_)
    rw [q1, q2, q3]
    refine Rn.iconstv (v := 1) dX12_fatLine_33 ic_1 ?_
    refine Rn.isub dX12_fatLine_34 ?_
    refine Rn.callV2 dX12_fatLine_35 vX12_234 (rc149 hRF10) (by decide) rfl (rnah0 (M := F10) hf9 hRF10) (by omega) ⟨(Nat.le_of_ble_eq_true rfl), (Nat.le_of_ble_eq_true rfl), (Nat.le_of_ble_eq_true rfl)⟩ (fun h => by cases h) (fun v1 ly1 M1 ⟨q1, q2, q3⟩ => ?_)
    rw [q1, q2, q3]
    refine Rn.istore_n (lv' := [some (.ref 149), some (.int (nI (4 + p.ct 1))), some (.int 0), none]) dX12_fatLine_38 (by decide) rfl ?_
    refine Rn.iconstv (v := 4) dX12_fatLine_39 ic_4 ?_
    refine Rn.istore_n (lv' := [some (.ref 149), some (.int (nI (4 + p.ct 1))), some (.int 0), some (.int 4)]) dX12_fatLine_40 (by decide) rfl ?_
    refine Rn.iload_n dX12_fatLine_41 rfl ?_
    refine Rn.iload_n dX12_fatLine_42 rfl ?_
    refine Rn.icmp_ge dX12_fatLine_43 (fun hlp => ?_) (fun hlp => ?_)
    · skip
      have hf9 : ¬ F10.1 149 29 = 0 := by rw [hfaF10.1]; exact hfaF10.2.1
      refine Rn.aload_n dX12_fatLine_74 rfl ?_
      refine Rn.getI dX12_fatLine_75 fX12_222 rfl (rc149 hRF10) ?_
      refine Rn.if_eq dX12_fatLine_78 (fun h9 => absurd h9 hf9) (fun h9 => ?_)
      exact Rn.vret dX12_fatLine_81 rfl ⟨rfl, rfl, rF10, Or.inr ⟨_, _, (if_neg hne).trans (qK_n zN2a), hfaF10⟩⟩
    · skip
      have hf9 : ¬ F10.1 149 29 = 0 := by rw [hfaF10.1]; exact hfaF10.2.1
      refine Rn.aload_n dX12_fatLine_46 rfl ?_
      refine Rn.getI dX12_fatLine_47 fX12_222 rfl (rc149 hRF10) ?_
      refine Rn.if_ne dX12_fatLine_50 (fun h9 => ?_) (fun h9 => absurd h9 hf9)
      refine Rn.aload_n dX12_fatLine_74 rfl ?_
      refine Rn.getI dX12_fatLine_75 fX12_222 rfl (rc149 hRF10) ?_
      refine Rn.if_eq dX12_fatLine_78 (fun h9 => absurd h9 hf9) (fun h9 => ?_)
      exact Rn.vret dX12_fatLine_81 rfl ⟨rfl, rfl, rF10, Or.inr ⟨_, _, (if_neg hne).trans (qK_n zN2a), hfaF10⟩⟩
theorem rsleepLine {G : Gx} {l : Launch} {ly : Ly} {M : Mm} {f : Nat → Int32} {n i : Nat} {p : Pl} (hS : RPs M f n p (nx f n i)) (h6 : p.ct 2 < 4) (hR : RW ly M.2.2) : Mt G l mX12_sleepLine (9, 0, 0, false) [.ref 149, .int (nI (4 + p.ct 2))] ly M (rsP ly M f n (lnZ (kdF f n) (nvF f n) (nx f n) p i)) := by
  refine Mt.of (lv := [some (.ref 149), some (.int (nI (4 + p.ct 2)))]) rfl ?_
  obtain ⟨hrd, h150, h29, h33, h34, hbw, h22, hP, hct⟩ := hS
  have hz : RDz M f n (nx f n i) := ⟨hrd, h150, h29⟩
  have hne : ¬ p.ct 2 = 4 := Nat.ne_of_lt h6
  have h1520 : M.1 151 21 = nI (p.ct 2) := hP.2.1 2 (by decide)
  have hD00 : M.1 151 13 = p.D 0 0 := hP.1 0 (Or.inl (by decide))
  refine Rn.aload_n dX12_sleepLine_0 rfl ?_
  refine Rn.iconstv (v := 1) dX12_sleepLine_1 ic_1 ?_
  refine Rn.putZ dX12_sleepLine_2 fX12_258 rfl rfl rfl (by decide) (rc149 hR) ?_
  obtain ⟨N1, eN1⟩ : ∃ N9, N9 = sI M 149 (upd (M.1 149) 22 1) := ⟨_, rfl⟩
  rw [← eN1]
  have rN1 : rlF M N1 := by rw [eN1]; exact rlF.f (fun j hj => pk_un (by omega))
  have oN1 : ∀ a, a ≠ 149 → N1.1 a = M.1 a := fun a a0 => by rw [eN1, sI_ne a0]
  have XN1 : N1.1 149 21 = M.1 149 21 ∧ N1.1 149 22 = 1 ∧ (N1.1 149 33 = M.1 149 33 ∧ N1.1 149 30 = M.1 149 30) ∧ N1.1 149 34 = M.1 149 34 := by rw [eN1]; exact ⟨rfl, rfl, ⟨rfl, rfl⟩, rfl⟩
  have zN1 : RDz N1 f n (nx f n i) := hz.of (by rw [eN1]; exact ⟨rfl, rfl, rfl, rfl, rfl, rfl⟩) (by rw [eN1]; rfl)
  clear eN1
  have hRN1 : RW ly N1.2.2 := by rw [rN1.1]; exact hR
  have h152_ : N1.1 151 21 = nI (p.ct 2) := by rw [oN1 151 (by decide)]; exact h1520
  have hNm : ∀ j, j < p.ct 2 → N1.1 161 (4 + j) = p.D 3 j := fun j hj => by rw [oN1 161 (by decide)]; exact hP.2.2.2.1 3 (by decide) (by decide) j hj (fun g => absurd g (by decide))
  refine Rn.aload_n dX12_sleepLine_5 rfl ?_
  refine Rn.getR dX12_sleepLine_6 fX12_45 rfl (rc149 hRN1) (show N1.2.2 149 13 = some 161 from (rpt13 hRN1)) ?_
  refine Rn.iload_n dX12_sleepLine_9 rfl ?_
  refine Rn.aload_n dX12_sleepLine_10 rfl ?_
  refine Rn.aload_n dX12_sleepLine_11 rfl ?_
  refine Rn.getR dX12_sleepLine_12 fX12_45 rfl (rc149 hRN1) (show N1.2.2 149 13 = some 161 from (rpt13 hRN1)) ?_
  refine Rn.iconstv (v := 4) dX12_sleepLine_15 ic_4 ?_
  refine Rn.aload_n dX12_sleepLine_16 rfl ?_
  refine Rn.bipushv (v := 8) dX12_sleepLine_17 bp_8 ?_
  refine Rn.callV1 dX12_sleepLine_19 vX12_245 (rc149 hRN1) (by decide) rfl (tX12_fresher (M := N1) (k := 8) (by decide) hRN1) (by omega) ⟨(Nat.le_of_ble_eq_true rfl), (Nat.le_of_ble_eq_true rfl), (Nat.le_of_ble_eq_true rfl)⟩ (fun h => by cases h) (fun v1 ly1 M1 ⟨q1, q2, q3⟩ => ?_)
  rw [q1, q2, q3]
  refine Rn.topI (y := nI (p.ct 2)) (show N1.1 151 (13 + 8) = nI (p.ct 2) from h152_) ?_
  refine Rn.callV3 dX12_sleepLine_22 vX12_278 (rc149 hRN1) (by decide) rfl (rfresh (M := N1) (i := nx f n i) (a := 161) (fo := 4) (m := p.ct 2) (len := 8) (N := p.D 3) zN1 (rc161 hRN1) (by omega) (by decide) hNm hRN1) (by decide) ⟨(Nat.le_of_ble_eq_true rfl), (Nat.le_of_ble_eq_true rfl), (Nat.le_of_ble_eq_true rfl)⟩ (fun h => by cases h) (fun v1 ly1 N2 ⟨q2, hh⟩ => ?_)
  rw [q2]
  rcases hh with ⟨zN2a, q1, tN2, zN2⟩ | ⟨zN2a, q1, gN2, hfa⟩
  · skip
    rw [q1]
    have rN2 : rlF M N2 := rN1.tr (rlF.tok tN2)
    have oN2 : ∀ a, a ≠ 149 → N2.1 a = M.1 a := fun a a0 => (tN2.2.1 a a0).trans (oN1 a a0 )
    have xN2 : N2.1 149 21 = N1.1 149 21 ∧ N2.1 149 22 = N1.1 149 22 ∧ (N2.1 149 33 = N1.1 149 33 ∧ N2.1 149 30 = N1.1 149 30) ∧ N2.1 149 34 = N1.1 149 34 := ⟨tN2.2.2 21 (by omega), tN2.2.2 22 (by omega), ⟨tN2.2.2 33 (by omega), tN2.2.2 30 (by omega)⟩, tN2.2.2 34 (by omega)⟩
    have XN2 := (⟨xN2.1.trans XN1.1, xN2.2.1.trans XN1.2.1, ⟨xN2.2.2.1.1.trans XN1.2.2.1.1, xN2.2.2.1.2.trans XN1.2.2.1.2⟩, xN2.2.2.2.trans XN1.2.2.2⟩ : N2.1 149 21 = M.1 149 21 ∧ N2.1 149 22 = 1 ∧ (N2.1 149 33 = M.1 149 33 ∧ N2.1 149 30 = M.1 149 30) ∧ N2.1 149 34 = M.1 149 34)
    have hRN2 : RW ly N2.2.2 := by rw [rN2.1]; exact hR
    replace h152_ := h1520
    refine Rn.iastN (k0 := (4 + p.ct 2)) dX12_sleepLine_25 (rc161 hRN2) (by omega) (by decide) ?_
    obtain ⟨N3, eN3⟩ : ∃ N9, N9 = sI N2 161 (upd (N2.1 161) (4 + p.ct 2) (nvF f n (nx f n i))) := ⟨_, rfl⟩
    rw [← eN3]
    have fN3 : rlF N2 N3 := by rw [eN3]; exact rlF.r (by decide) ⟨by decide, by decide, by show 4 ≤ _; omega⟩
    have rN3 : rlF M N3 := rN2.tr fN3
    have oN3 : ∀ a, a ≠ 149 → a ≠ 161 → N3.1 a = M.1 a := fun a a0 a161 => by rw [eN3, sI_ne a161]; exact oN2 a a0 
    have cN3_161 : N3.1 161 = upd (M.1 161) (4 + p.ct 2) (nvF f n (nx f n i)) := by rw [eN3, sI_at]; exact congrArg (fun r9 => upd r9 _ _) (oN2 161 (by decide) )
    have yN3 : N3.1 149 = N2.1 149 := by rw [eN3]; exact sI_ne (by decide)
    have xN3 : N3.1 149 21 = N2.1 149 21 ∧ N3.1 149 22 = N2.1 149 22 ∧ (N3.1 149 33 = N2.1 149 33 ∧ N3.1 149 30 = N2.1 149 30) ∧ N3.1 149 34 = N2.1 149 34 := by rw [yN3]; exact ⟨rfl, rfl, ⟨rfl, rfl⟩, rfl⟩
    have wN3 : N3.1 150 = N2.1 150 := by rw [eN3]; exact sI_ne (by decide)
    clear eN3
    have XN3 := (⟨xN3.1.trans XN2.1, xN3.2.1.trans XN2.2.1, ⟨xN3.2.2.1.1.trans XN2.2.2.1.1, xN3.2.2.1.2.trans XN2.2.2.1.2⟩, xN3.2.2.2.trans XN2.2.2.2⟩ : N3.1 149 21 = M.1 149 21 ∧ N3.1 149 22 = 1 ∧ (N3.1 149 33 = M.1 149 33 ∧ N3.1 149 30 = M.1 149 30) ∧ N3.1 149 34 = M.1 149 34)
    have hRN3 : RW ly N3.2.2 := by rw [rN3.1]; exact hR
    have zN3 : RDz N3 f n (nx f n (nx f n i)) := zN2.of (by rw [yN3]; exact ⟨rfl, rfl, rfl, rfl, rfl, rfl⟩) wN3
    refine Rn.aload_n dX12_sleepLine_26 rfl ?_
    refine Rn.getR dX12_sleepLine_27 fX12_48 rfl (rc149 hRN3) (show N3.2.2 149 14 = some 162 from (rpt14 hRN3)) ?_
    refine Rn.iload_n dX12_sleepLine_30 rfl ?_
    refine Rn.aload_n dX12_sleepLine_31 rfl ?_
    refine Rn.iconstv (v := 0) dX12_sleepLine_32 ic_0 ?_
    refine Rn.aload_n dX12_sleepLine_33 rfl ?_
    refine Rn.iconstv (v := 0) dX12_sleepLine_34 ic_0 ?_
    refine Rn.callV1 dX12_sleepLine_35 vX12_245 (rc149 hRN3) (by decide) rfl (tX12_fresher (M := N3) (k := 0) (by decide) hRN3) (by omega) ⟨(Nat.le_of_ble_eq_true rfl), (Nat.le_of_ble_eq_true rfl), (Nat.le_of_ble_eq_true rfl)⟩ (fun h => by cases h) (fun v1 ly1 M1 ⟨q1, q2, q3⟩ => ?_)
    rw [q1, q2, q3]
    refine Rn.topI (y := p.D 0 0) (show N3.1 151 (13 + 0) = p.D 0 0 from (congrFun (oN3 151 (by decide) (by decide)) 13).trans hD00) ?_
    refine Rn.iconstv (v := 1) dX12_sleepLine_38 ic_1 ?_
    refine Rn.isub dX12_sleepLine_39 ?_
    refine Rn.callV2 dX12_sleepLine_40 vX12_262 (rc149 hRN3) (by decide) rfl (rnum (M := N3) (i := nx f n (nx f n i)) zN3 hRN3) (by decide) ⟨(Nat.le_of_ble_eq_true rfl), (Nat.le_of_ble_eq_true rfl), (Nat.le_of_ble_eq_true rfl)⟩ (fun h => by cases h) (fun v1 ly1 N4 ⟨q2, hh⟩ => ?_)
    rw [q2]
    rcases hh with ⟨zN4a, q1, bN4, tN4, zN4⟩ | ⟨zN4a, q1, gN4, hfa⟩
    · skip
      rw [q1]
      have rN4 : rlF M N4 := rN3.tr (rlF.tok tN4)
      have oN4 : ∀ a, a ≠ 149 → a ≠ 161 → N4.1 a = M.1 a := fun a a0 a161 => (tN4.2.1 a a0).trans (oN3 a a0 a161)
      have cN4_161 : N4.1 161 = upd (M.1 161) (4 + p.ct 2) (nvF f n (nx f n i)) := (tN4.2.1 161 (by decide)).trans cN3_161
      have xN4 : N4.1 149 21 = N3.1 149 21 ∧ N4.1 149 22 = N3.1 149 22 ∧ (N4.1 149 33 = N3.1 149 33 ∧ N4.1 149 30 = N3.1 149 30) ∧ N4.1 149 34 = N3.1 149 34 := ⟨tN4.2.2 21 (by omega), tN4.2.2 22 (by omega), ⟨tN4.2.2 33 (by omega), tN4.2.2 30 (by omega)⟩, tN4.2.2 34 (by omega)⟩
      have XN4 := (⟨xN4.1.trans XN3.1, xN4.2.1.trans XN3.2.1, ⟨xN4.2.2.1.1.trans XN3.2.2.1.1, xN4.2.2.1.2.trans XN3.2.2.1.2⟩, xN4.2.2.2.trans XN3.2.2.2⟩ : N4.1 149 21 = M.1 149 21 ∧ N4.1 149 22 = 1 ∧ (N4.1 149 33 = M.1 149 33 ∧ N4.1 149 30 = M.1 149 30) ∧ N4.1 149 34 = M.1 149 34)
      have hRN4 : RW ly N4.2.2 := by rw [rN4.1]; exact hR
      refine Rn.iastN (k0 := (4 + p.ct 2)) dX12_sleepLine_43 (rc162 hRN4) (by omega) (by decide) ?_
      obtain ⟨N5, eN5⟩ : ∃ N9, N9 = sI N4 162 (upd (N4.1 162) (4 + p.ct 2) (nvF f n (nx f n (nx f n i)))) := ⟨_, rfl⟩
      rw [← eN5]
      have fN5 : rlF N4 N5 := by rw [eN5]; exact rlF.r (by decide) ⟨by decide, by decide, by show 4 ≤ _; omega⟩
      have rN5 : rlF M N5 := rN4.tr fN5
      have oN5 : ∀ a, a ≠ 149 → a ≠ 161 → a ≠ 162 → N5.1 a = M.1 a := fun a a0 a161 a162 => by rw [eN5, sI_ne a162]; exact oN4 a a0 a161
      have cN5_161 : N5.1 161 = upd (M.1 161) (4 + p.ct 2) (nvF f n (nx f n i)) := by rw [eN5, sI_ne (by decide)]; exact cN4_161
      have cN5_162 : N5.1 162 = upd (M.1 162) (4 + p.ct 2) (nvF f n (nx f n (nx f n i))) := by rw [eN5, sI_at]; exact congrArg (fun r9 => upd r9 _ _) (oN4 162 (by decide) (by decide))
      have yN5 : N5.1 149 = N4.1 149 := by rw [eN5]; exact sI_ne (by decide)
      have xN5 : N5.1 149 21 = N4.1 149 21 ∧ N5.1 149 22 = N4.1 149 22 ∧ (N5.1 149 33 = N4.1 149 33 ∧ N5.1 149 30 = N4.1 149 30) ∧ N5.1 149 34 = N4.1 149 34 := by rw [yN5]; exact ⟨rfl, rfl, ⟨rfl, rfl⟩, rfl⟩
      have wN5 : N5.1 150 = N4.1 150 := by rw [eN5]; exact sI_ne (by decide)
      clear eN5
      have XN5 := (⟨xN5.1.trans XN4.1, xN5.2.1.trans XN4.2.1, ⟨xN5.2.2.1.1.trans XN4.2.2.1.1, xN5.2.2.1.2.trans XN4.2.2.1.2⟩, xN5.2.2.2.trans XN4.2.2.2⟩ : N5.1 149 21 = M.1 149 21 ∧ N5.1 149 22 = 1 ∧ (N5.1 149 33 = M.1 149 33 ∧ N5.1 149 30 = M.1 149 30) ∧ N5.1 149 34 = M.1 149 34)
      have hRN5 : RW ly N5.2.2 := by rw [rN5.1]; exact hR
      have zN5 : RDz N5 f n (nx f n (nx f n (nx f n i))) := zN4.of (by rw [yN5]; exact ⟨rfl, rfl, rfl, rfl, rfl, rfl⟩) wN5
      refine Rn.aload_n dX12_sleepLine_44 rfl ?_
      refine Rn.getR dX12_sleepLine_45 fX12_51 rfl (rc149 hRN5) (show N5.2.2 149 15 = some 163 from (rpt15 hRN5)) ?_
      refine Rn.iload_n dX12_sleepLine_48 rfl ?_
      refine Rn.aload_n dX12_sleepLine_49 rfl ?_
      refine Rn.iconstv (v := 1) dX12_sleepLine_50 ic_1 ?_
      refine Rn.sipushv (v := 9999) dX12_sleepLine_51 sp_9999 ?_
      refine Rn.callV2 dX12_sleepLine_54 vX12_262 (rc149 hRN5) (by decide) rfl (rnum (M := N5) (i := nx f n (nx f n (nx f n i))) zN5 hRN5) (by decide) ⟨(Nat.le_of_ble_eq_true rfl), (Nat.le_of_ble_eq_true rfl), (Nat.le_of_ble_eq_true rfl)⟩ (fun h => by cases h) (fun v1 ly1 N6 ⟨q2, hh⟩ => ?_)
      rw [q2]
      rcases hh with ⟨zN6a, q1, bN6, tN6, zN6⟩ | ⟨zN6a, q1, gN6, hfa⟩
      · skip
        rw [q1]
        have rN6 : rlF M N6 := rN5.tr (rlF.tok tN6)
        have oN6 : ∀ a, a ≠ 149 → a ≠ 161 → a ≠ 162 → N6.1 a = M.1 a := fun a a0 a161 a162 => (tN6.2.1 a a0).trans (oN5 a a0 a161 a162)
        have cN6_161 : N6.1 161 = upd (M.1 161) (4 + p.ct 2) (nvF f n (nx f n i)) := (tN6.2.1 161 (by decide)).trans cN5_161
        have cN6_162 : N6.1 162 = upd (M.1 162) (4 + p.ct 2) (nvF f n (nx f n (nx f n i))) := (tN6.2.1 162 (by decide)).trans cN5_162
        have xN6 : N6.1 149 21 = N5.1 149 21 ∧ N6.1 149 22 = N5.1 149 22 ∧ (N6.1 149 33 = N5.1 149 33 ∧ N6.1 149 30 = N5.1 149 30) ∧ N6.1 149 34 = N5.1 149 34 := ⟨tN6.2.2 21 (by omega), tN6.2.2 22 (by omega), ⟨tN6.2.2 33 (by omega), tN6.2.2 30 (by omega)⟩, tN6.2.2 34 (by omega)⟩
        have XN6 := (⟨xN6.1.trans XN5.1, xN6.2.1.trans XN5.2.1, ⟨xN6.2.2.1.1.trans XN5.2.2.1.1, xN6.2.2.1.2.trans XN5.2.2.1.2⟩, xN6.2.2.2.trans XN5.2.2.2⟩ : N6.1 149 21 = M.1 149 21 ∧ N6.1 149 22 = 1 ∧ (N6.1 149 33 = M.1 149 33 ∧ N6.1 149 30 = M.1 149 30) ∧ N6.1 149 34 = M.1 149 34)
        have hRN6 : RW ly N6.2.2 := by rw [rN6.1]; exact hR
        refine Rn.iastN (k0 := (4 + p.ct 2)) dX12_sleepLine_57 (rc163 hRN6) (by omega) (by decide) ?_
        obtain ⟨N7, eN7⟩ : ∃ N9, N9 = sI N6 163 (upd (N6.1 163) (4 + p.ct 2) (nvF f n (nx f n (nx f n (nx f n i))))) := ⟨_, rfl⟩
        rw [← eN7]
        have fN7 : rlF N6 N7 := by rw [eN7]; exact rlF.r (by decide) ⟨by decide, by decide, by show 4 ≤ _; omega⟩
        have rN7 : rlF M N7 := rN6.tr fN7
        have oN7 : ∀ a, a ≠ 149 → a ≠ 161 → a ≠ 162 → a ≠ 163 → N7.1 a = M.1 a := fun a a0 a161 a162 a163 => by rw [eN7, sI_ne a163]; exact oN6 a a0 a161 a162
        have cN7_161 : N7.1 161 = upd (M.1 161) (4 + p.ct 2) (nvF f n (nx f n i)) := by rw [eN7, sI_ne (by decide)]; exact cN6_161
        have cN7_162 : N7.1 162 = upd (M.1 162) (4 + p.ct 2) (nvF f n (nx f n (nx f n i))) := by rw [eN7, sI_ne (by decide)]; exact cN6_162
        have cN7_163 : N7.1 163 = upd (M.1 163) (4 + p.ct 2) (nvF f n (nx f n (nx f n (nx f n i)))) := by rw [eN7, sI_at]; exact congrArg (fun r9 => upd r9 _ _) (oN6 163 (by decide) (by decide) (by decide))
        have yN7 : N7.1 149 = N6.1 149 := by rw [eN7]; exact sI_ne (by decide)
        have xN7 : N7.1 149 21 = N6.1 149 21 ∧ N7.1 149 22 = N6.1 149 22 ∧ (N7.1 149 33 = N6.1 149 33 ∧ N7.1 149 30 = N6.1 149 30) ∧ N7.1 149 34 = N6.1 149 34 := by rw [yN7]; exact ⟨rfl, rfl, ⟨rfl, rfl⟩, rfl⟩
        have wN7 : N7.1 150 = N6.1 150 := by rw [eN7]; exact sI_ne (by decide)
        clear eN7
        have XN7 := (⟨xN7.1.trans XN6.1, xN7.2.1.trans XN6.2.1, ⟨xN7.2.2.1.1.trans XN6.2.2.1.1, xN7.2.2.1.2.trans XN6.2.2.1.2⟩, xN7.2.2.2.trans XN6.2.2.2⟩ : N7.1 149 21 = M.1 149 21 ∧ N7.1 149 22 = 1 ∧ (N7.1 149 33 = M.1 149 33 ∧ N7.1 149 30 = M.1 149 30) ∧ N7.1 149 34 = M.1 149 34)
        have hRN7 : RW ly N7.2.2 := by rw [rN7.1]; exact hR
        have zN7 : RDz N7 f n (nx f n (nx f n (nx f n (nx f n i)))) := zN6.of (by rw [yN7]; exact ⟨rfl, rfl, rfl, rfl, rfl, rfl⟩) wN7
        refine Rn.aload_n dX12_sleepLine_58 rfl ?_
        refine Rn.bipushv (v := 8) dX12_sleepLine_59 bp_8 ?_
        refine Rn.aload_n dX12_sleepLine_61 rfl ?_
        refine Rn.bipushv (v := 8) dX12_sleepLine_62 bp_8 ?_
        refine Rn.callV1 dX12_sleepLine_64 vX12_245 (rc149 hRN7) (by decide) rfl (tX12_fresher (M := N7) (k := 8) (by decide) hRN7) (by omega) ⟨(Nat.le_of_ble_eq_true rfl), (Nat.le_of_ble_eq_true rfl), (Nat.le_of_ble_eq_true rfl)⟩ (fun h => by cases h) (fun v1 ly1 M1 ⟨q1, q2, q3⟩ => ?_)
        rw [q1, q2, q3]
        refine Rn.topI (y := nI (p.ct 2)) (show N7.1 151 (13 + 8) = nI (p.ct 2) from (congrFun (oN7 151 (by decide) (by decide) (by decide) (by decide)) 21).trans h152_) ?_
        refine Rn.iconstv (v := 1) dX12_sleepLine_67 ic_1 ?_
        refine Rn.iadd dX12_sleepLine_68 ?_
        refine Rn.topI (y := nI (p.ct 2 + 1)) (nI_add (p.ct 2) 1) ?_
        refine Rn.callV2 dX12_sleepLine_69 vX12_265 (rc149 hRN7) (by decide) rfl (tX12_reads (M := N7) (k := 8) (x := nI (p.ct 2 + 1)) (by decide) hRN7) (by omega) ⟨(Nat.le_of_ble_eq_true rfl), (Nat.le_of_ble_eq_true rfl), (Nat.le_of_ble_eq_true rfl)⟩ (fun h => by cases h) (fun v1 ly1 M1 ⟨q1, q2, q3⟩ => ?_)
        rw [q1, q2, q3]
        obtain ⟨N8, eN8⟩ : ∃ N9, N9 = sI N7 151 (upd (N7.1 151) (13 + 8) (nI (p.ct 2 + 1))) := ⟨_, rfl⟩
        rw [← eN8]
        have fN8 : rlF N7 N8 := by rw [eN8]; exact rlF.r (by decide) ⟨by decide, by decide, by show 13 ≤ _; omega⟩
        have rN8 : rlF M N8 := rN7.tr fN8
        have oN8 : ∀ a, a ≠ 149 → a ≠ 161 → a ≠ 162 → a ≠ 163 → a ≠ 151 → N8.1 a = M.1 a := fun a a0 a161 a162 a163 a151 => by rw [eN8, sI_ne a151]; exact oN7 a a0 a161 a162 a163
        have cN8_161 : N8.1 161 = upd (M.1 161) (4 + p.ct 2) (nvF f n (nx f n i)) := by rw [eN8, sI_ne (by decide)]; exact cN7_161
        have cN8_162 : N8.1 162 = upd (M.1 162) (4 + p.ct 2) (nvF f n (nx f n (nx f n i))) := by rw [eN8, sI_ne (by decide)]; exact cN7_162
        have cN8_163 : N8.1 163 = upd (M.1 163) (4 + p.ct 2) (nvF f n (nx f n (nx f n (nx f n i)))) := by rw [eN8, sI_ne (by decide)]; exact cN7_163
        have cN8_151 : N8.1 151 = upd (M.1 151) (13 + 8) (nI (p.ct 2 + 1)) := by rw [eN8, sI_at]; exact congrArg (fun r9 => upd r9 _ _) (oN7 151 (by decide) (by decide) (by decide) (by decide))
        have yN8 : N8.1 149 = N7.1 149 := by rw [eN8]; exact sI_ne (by decide)
        have xN8 : N8.1 149 21 = N7.1 149 21 ∧ N8.1 149 22 = N7.1 149 22 ∧ (N8.1 149 33 = N7.1 149 33 ∧ N8.1 149 30 = N7.1 149 30) ∧ N8.1 149 34 = N7.1 149 34 := by rw [yN8]; exact ⟨rfl, rfl, ⟨rfl, rfl⟩, rfl⟩
        have wN8 : N8.1 150 = N7.1 150 := by rw [eN8]; exact sI_ne (by decide)
        clear eN8
        have XN8 := (⟨xN8.1.trans XN7.1, xN8.2.1.trans XN7.2.1, ⟨xN8.2.2.1.1.trans XN7.2.2.1.1, xN8.2.2.1.2.trans XN7.2.2.1.2⟩, xN8.2.2.2.trans XN7.2.2.2⟩ : N8.1 149 21 = M.1 149 21 ∧ N8.1 149 22 = 1 ∧ (N8.1 149 33 = M.1 149 33 ∧ N8.1 149 30 = M.1 149 30) ∧ N8.1 149 34 = M.1 149 34)
        have hRN8 : RW ly N8.2.2 := by rw [rN8.1]; exact hR
        have zN8 : RDz N8 f n (nx f n (nx f n (nx f n (nx f n i)))) := zN7.of (by rw [yN8]; exact ⟨rfl, rfl, rfl, rfl, rfl, rfl⟩) wN8
        have hres : lnZ (kdF f n) (nvF f n) (nx f n) p i = .inl (addZ p (nvF f n (nx f n i)) (nvF f n (nx f n (nx f n i))) (nvF f n (nx f n (nx f n (nx f n i)))), nx f n (nx f n (nx f n (nx f n i)))) := (if_neg hne).trans ((qK_0 zN2a).trans ((qK_0 zN4a).trans ((qK_0 zN6a).trans (rfl))))
        have hrow : ∀ r, 1 ≤ r → r ≤ 13 → knD r = 2 → (∀ j, j ≠ rOf 2 + p.ct 2 → N8.1 (rCl r) j = M.1 (rCl r) j) ∧ ((r = 9 → (addZ p (nvF f n (nx f n i)) (nvF f n (nx f n (nx f n i))) (nvF f n (nx f n (nx f n (nx f n i))))).1 8 (p.ct 2) = 0) → N8.1 (rCl r) (rOf 2 + p.ct 2) = (addZ p (nvF f n (nx f n i)) (nvF f n (nx f n (nx f n i))) (nvF f n (nx f n (nx f n (nx f n i))))).1 r (p.ct 2)) := by
          intro r r1 r2 hk9
          match r, r1, r2 with
          | 1, _, _ => exact absurd hk9 (by decide)
          | 2, _, _ => exact absurd hk9 (by decide)
          | 3, _, _ => exact ⟨fun j hj => (congrFun cN8_161 j).trans (pk_un hj), fun _ => (congrFun cN8_161 _).trans (pk_us.trans (show _ = (addZ p (nvF f n (nx f n i)) (nvF f n (nx f n (nx f n i))) (nvF f n (nx f n (nx f n (nx f n i))))).1 3 (p.ct 2) from pk_us.symm))⟩
          | 4, _, _ => exact absurd hk9 (by decide)
          | 5, _, _ => exact absurd hk9 (by decide)
          | 6, _, _ => exact absurd hk9 (by decide)
          | 7, _, _ => exact absurd hk9 (by decide)
          | 8, _, _ => exact absurd hk9 (by decide)
          | 9, _, _ => exact absurd hk9 (by decide)
          | 10, _, _ => exact absurd hk9 (by decide)
          | 11, _, _ => exact absurd hk9 (by decide)
          | 12, _, _ => exact ⟨fun j hj => (congrFun cN8_162 j).trans (pk_un hj), fun _ => (congrFun cN8_162 _).trans (pk_us.trans (show _ = (addZ p (nvF f n (nx f n i)) (nvF f n (nx f n (nx f n i))) (nvF f n (nx f n (nx f n (nx f n i))))).1 12 (p.ct 2) from pk_us.symm))⟩
          | 13, _, _ => exact ⟨fun j hj => (congrFun cN8_163 j).trans (pk_un hj), fun _ => (congrFun cN8_163 _).trans (pk_us.trans (show _ = (addZ p (nvF f n (nx f n i)) (nvF f n (nx f n (nx f n i))) (nvF f n (nx f n (nx f n (nx f n i))))).1 13 (p.ct 2) from pk_us.symm))⟩
        have hrow2 : ∀ r, 1 ≤ r → r ≤ 13 → knD r ≠ 2 → N8.1 (rCl r) = M.1 (rCl r) := by
          intro r r1 r2 hk9
          match r, r1, r2 with
          | 1, _, _ => exact oN8 152 (by decide) (by decide) (by decide) (by decide) (by decide)
          | 2, _, _ => exact oN8 158 (by decide) (by decide) (by decide) (by decide) (by decide)
          | 3, _, _ => exact absurd rfl hk9
          | 4, _, _ => exact oN8 164 (by decide) (by decide) (by decide) (by decide) (by decide)
          | 5, _, _ => exact oN8 153 (by decide) (by decide) (by decide) (by decide) (by decide)
          | 6, _, _ => exact oN8 154 (by decide) (by decide) (by decide) (by decide) (by decide)
          | 7, _, _ => exact oN8 155 (by decide) (by decide) (by decide) (by decide) (by decide)
          | 8, _, _ => exact oN8 156 (by decide) (by decide) (by decide) (by decide) (by decide)
          | 9, _, _ => exact oN8 157 (by decide) (by decide) (by decide) (by decide) (by decide)
          | 10, _, _ => exact oN8 159 (by decide) (by decide) (by decide) (by decide) (by decide)
          | 11, _, _ => exact oN8 160 (by decide) (by decide) (by decide) (by decide) (by decide)
          | 12, _, _ => exact absurd rfl hk9
          | 13, _, _ => exact absurd rfl hk9
        have hD2 : ∀ r j, 1 ≤ r → r ≤ 13 → (knD r ≠ 2 ∨ j < p.ct 2) → (addZ p (nvF f n (nx f n i)) (nvF f n (nx f n (nx f n i))) (nvF f n (nx f n (nx f n (nx f n i))))).1 r j = p.D r j := fun r j _ _ h9 => (set2_k (a := 13) rfl h9).trans ((set2_k (a := 12) rfl h9).trans ((set2_k (a := 3) rfl h9).trans (rfl)))
        have hPN : RPl N8 (addZ p (nvF f n (nx f n i)) (nvF f n (nx f n (nx f n i))) (nvF f n (nx f n (nx f n (nx f n i))))) := RPl.add (k := 2) hP (by decide) rfl cN8_151 hrow hrow2 hD2 ⟨oN8 165 (by decide) (by decide) (by decide) (by decide) (by decide), oN8 166 (by decide) (by decide) (by decide) (by decide) (by decide), oN8 167 (by decide) (by decide) (by decide) (by decide) (by decide), oN8 168 (by decide) (by decide) (by decide) (by decide) (by decide)⟩
        exact Rn.vret dX12_sleepLine_72 rfl ⟨rfl, rfl, rN8, Or.inl ⟨_, _, hres, zN8.1, zN8.2.1, zN8.2.2, ⟨XN8.2.2.1.1.trans h33.1, XN8.2.2.1.2.trans h33.2⟩, XN8.2.2.2.trans h34, by rw [XN8.1]; exact hbw, XN8.2.1, hPN, ⟨hct.1, hct.2.1, h6, hct.2.2.2.1, hct.2.2.2.2.1, hct.2.2.2.2.2⟩⟩⟩
      · skip
        rw [q1]
        have rN6 : rlF M N6 := rN5.tr gN6
        have hRN6 : RW ly N6.2.2 := by rw [rN6.1]; exact hR
        have hf9 : ¬ N6.1 149 29 = 0 := by rw [hfa.1]; exact hfa.2.1
        refine Rn.iastN (k0 := (4 + p.ct 2)) dX12_sleepLine_57 (rc163 hRN6) (by omega) (by decide) ?_
        refine Rn.aload_n dX12_sleepLine_58 rfl ?_
        refine Rn.bipushv (v := 8) dX12_sleepLine_59 bp_8 ?_
        refine Rn.aload_n dX12_sleepLine_61 rfl ?_
        refine Rn.bipushv (v := 8) dX12_sleepLine_62 bp_8 ?_
        show Rn G l mX12_sleepLine (9, 0, 0, false) 64 [some (.ref 149), some (.int (nI (4 + p.ct 2)))] [.int 8, .ref 149, .int 8, .ref 149] ly (sI N6 163 (upd (N6.1 163) (4 + p.ct 2) 1)) (rsP ly M f n (lnZ (kdF f n) (nvF f n) (nx f n) p i))
        obtain ⟨F9, eF9⟩ : ∃ N9, N9 = sI N6 163 (upd (N6.1 163) (4 + p.ct 2) 1) := ⟨_, rfl⟩
        rw [← eF9]
        have rF9 : rlF M F9 := by rw [eF9]; exact (rN6).tr (rlF.r (by decide) ⟨by decide, by decide, by show 4 ≤ _; omega⟩)
        have gF9 : F9.1 149 29 = N6.1 149 29 ∧ F9.1 149 30 = N6.1 149 30 := by rw [eF9]; exact ⟨rfl, rfl⟩
        clear eF9
        have hfaF9 : faR f n F9 _ _ := ⟨gF9.1.trans hfa.1, hfa.2.1, gF9.2.trans hfa.2.2⟩
        have hf9 : ¬ F9.1 149 29 = 0 := by rw [hfaF9.1]; exact hfaF9.2.1
        have hRF9 : RW ly F9.2.2 := by rw [rF9.1]; exact hR
        refine Rn.callV1 dX12_sleepLine_64 vX12_245 (rc149 hRF9) (by decide) rfl (tX12_fresher (M := F9) (k := 8) (by decide) hRF9) (by omega) ⟨(Nat.le_of_ble_eq_true rfl), (Nat.le_of_ble_eq_true rfl), (Nat.le_of_ble_eq_true rfl)⟩ (fun h => by cases h) (fun v1 ly1 M1 ⟨q1, q2, q3⟩ => ?_)
        rw [q1, q2, q3]
        refine Rn.iconstv (v := 1) dX12_sleepLine_67 ic_1 ?_
        refine Rn.iadd dX12_sleepLine_68 ?_
        refine Rn.callV2 dX12_sleepLine_69 vX12_265 (rc149 hRF9) (by decide) rfl (tX12_reads (M := F9) (k := 8) (x := (F9.1 151 (13 + 8)) + 1) (by omega) hRF9) (by omega) ⟨(Nat.le_of_ble_eq_true rfl), (Nat.le_of_ble_eq_true rfl), (Nat.le_of_ble_eq_true rfl)⟩ (fun h => by cases h) (fun v1 ly1 M1 ⟨q1, q2, q3⟩ => ?_)
        rw [q1, q2, q3]
        exact Rn.vret dX12_sleepLine_72 rfl ⟨rfl, rfl, (rF9).tr (rlF.r (by decide) ⟨by decide, by decide, by show 13 ≤ _; omega⟩), Or.inr ⟨_, _, (if_neg hne).trans ((qK_0 zN2a).trans ((qK_0 zN4a).trans (qK_n zN6a))), hfaF9⟩⟩
    · skip
      rw [q1]
      have rN4 : rlF M N4 := rN3.tr gN4
      have hRN4 : RW ly N4.2.2 := by rw [rN4.1]; exact hR
      have hf9 : ¬ N4.1 149 29 = 0 := by rw [hfa.1]; exact hfa.2.1
      refine Rn.iastN (k0 := (4 + p.ct 2)) dX12_sleepLine_43 (rc162 hRN4) (by omega) (by decide) ?_
      refine Rn.aload_n dX12_sleepLine_44 rfl ?_
      refine Rn.getR dX12_sleepLine_45 fX12_51 rfl (rc149 hRN4) (show N4.2.2 149 15 = some 163 from (rpt15 hRN4)) ?_
      refine Rn.iload_n dX12_sleepLine_48 rfl ?_
      refine Rn.aload_n dX12_sleepLine_49 rfl ?_
      refine Rn.iconstv (v := 1) dX12_sleepLine_50 ic_1 ?_
      refine Rn.sipushv (v := 9999) dX12_sleepLine_51 sp_9999 ?_
      show Rn G l mX12_sleepLine (9, 0, 0, false) 54 [some (.ref 149), some (.int (nI (4 + p.ct 2)))] [.int 9999, .int 1, .ref 149, .int (nI (4 + p.ct 2)), .ref 163] ly (sI N4 162 (upd (N4.1 162) (4 + p.ct 2) 0)) (rsP ly M f n (lnZ (kdF f n) (nvF f n) (nx f n) p i))
      obtain ⟨F10, eF10⟩ : ∃ N9, N9 = sI N4 162 (upd (N4.1 162) (4 + p.ct 2) 0) := ⟨_, rfl⟩
      rw [← eF10]
      have rF10 : rlF M F10 := by rw [eF10]; exact (rN4).tr (rlF.r (by decide) ⟨by decide, by decide, by show 4 ≤ _; omega⟩)
      have gF10 : F10.1 149 29 = N4.1 149 29 ∧ F10.1 149 30 = N4.1 149 30 := by rw [eF10]; exact ⟨rfl, rfl⟩
      clear eF10
      have hfaF10 : faR f n F10 _ _ := ⟨gF10.1.trans hfa.1, hfa.2.1, gF10.2.trans hfa.2.2⟩
      have hf9 : ¬ F10.1 149 29 = 0 := by rw [hfaF10.1]; exact hfaF10.2.1
      have hRF10 : RW ly F10.2.2 := by rw [rF10.1]; exact hR
      refine Rn.callV2 dX12_sleepLine_54 vX12_262 (rc149 hRF10) (by decide) rfl (rnum0 (M := F10) hf9 hRF10) (by omega) ⟨(Nat.le_of_ble_eq_true rfl), (Nat.le_of_ble_eq_true rfl), (Nat.le_of_ble_eq_true rfl)⟩ (fun h => by cases h) (fun v1 ly1 M1 ⟨q1, q2, q3⟩ => ?_)
      rw [q1, q2, q3]
      refine Rn.iastN (k0 := (4 + p.ct 2)) dX12_sleepLine_57 (rc163 hRF10) (by omega) (by decide) ?_
      refine Rn.aload_n dX12_sleepLine_58 rfl ?_
      refine Rn.bipushv (v := 8) dX12_sleepLine_59 bp_8 ?_
      refine Rn.aload_n dX12_sleepLine_61 rfl ?_
      refine Rn.bipushv (v := 8) dX12_sleepLine_62 bp_8 ?_
      show Rn G l mX12_sleepLine (9, 0, 0, false) 64 [some (.ref 149), some (.int (nI (4 + p.ct 2)))] [.int 8, .ref 149, .int 8, .ref 149] ly (sI F10 163 (upd (F10.1 163) (4 + p.ct 2) 1)) (rsP ly M f n (lnZ (kdF f n) (nvF f n) (nx f n) p i))
      obtain ⟨F11, eF11⟩ : ∃ N9, N9 = sI F10 163 (upd (F10.1 163) (4 + p.ct 2) 1) := ⟨_, rfl⟩
      rw [← eF11]
      have rF11 : rlF M F11 := by rw [eF11]; exact (rF10).tr (rlF.r (by decide) ⟨by decide, by decide, by show 4 ≤ _; omega⟩)
      have gF11 : F11.1 149 29 = F10.1 149 29 ∧ F11.1 149 30 = F10.1 149 30 := by rw [eF11]; exact ⟨rfl, rfl⟩
      clear eF11
      have hfaF11 : faR f n F11 _ _ := ⟨gF11.1.trans hfaF10.1, hfaF10.2.1, gF11.2.trans hfaF10.2.2⟩
      have hf9 : ¬ F11.1 149 29 = 0 := by rw [hfaF11.1]; exact hfaF11.2.1
      have hRF11 : RW ly F11.2.2 := by rw [rF11.1]; exact hR
      refine Rn.callV1 dX12_sleepLine_64 vX12_245 (rc149 hRF11) (by decide) rfl (tX12_fresher (M := F11) (k := 8) (by decide) hRF11) (by omega) ⟨(Nat.le_of_ble_eq_true rfl), (Nat.le_of_ble_eq_true rfl), (Nat.le_of_ble_eq_true rfl)⟩ (fun h => by cases h) (fun v1 ly1 M1 ⟨q1, q2, q3⟩ => ?_)
      rw [q1, q2, q3]
      refine Rn.iconstv (v := 1) dX12_sleepLine_67 ic_1 ?_
      refine Rn.iadd dX12_sleepLine_68 ?_
      refine Rn.callV2 dX12_sleepLine_69 vX12_265 (rc149 hRF11) (by decide) rfl (tX12_reads (M := F11) (k := 8) (x := (F11.1 151 (13 + 8)) + 1) (by omega) hRF11) (by omega) ⟨(Nat.le_of_ble_eq_true rfl), (Nat.le_of_ble_eq_true rfl), (Nat.le_of_ble_eq_true rfl)⟩ (fun h => by cases h) (fun v1 ly1 M1 ⟨q1, q2, q3⟩ => ?_)
      rw [q1, q2, q3]
      exact Rn.vret dX12_sleepLine_72 rfl ⟨rfl, rfl, (rF11).tr (rlF.r (by decide) ⟨by decide, by decide, by show 13 ≤ _; omega⟩), Or.inr ⟨_, _, (if_neg hne).trans ((qK_0 zN2a).trans (qK_n zN4a)), hfaF11⟩⟩
  · skip
    rw [q1]
    have rN2 : rlF M N2 := rN1.tr gN2
    have hRN2 : RW ly N2.2.2 := by rw [rN2.1]; exact hR
    have hf9 : ¬ N2.1 149 29 = 0 := by rw [hfa.1]; exact hfa.2.1
    refine Rn.iastN (k0 := (4 + p.ct 2)) dX12_sleepLine_25 (rc161 hRN2) (by omega) (by decide) ?_
    refine Rn.aload_n dX12_sleepLine_26 rfl ?_
    refine Rn.getR dX12_sleepLine_27 fX12_48 rfl (rc149 hRN2) (show N2.2.2 149 14 = some 162 from (rpt14 hRN2)) ?_
    refine Rn.iload_n dX12_sleepLine_30 rfl ?_
    refine Rn.aload_n dX12_sleepLine_31 rfl ?_
    refine Rn.iconstv (v := 0) dX12_sleepLine_32 ic_0 ?_
    refine Rn.aload_n dX12_sleepLine_33 rfl ?_
    refine Rn.iconstv (v := 0) dX12_sleepLine_34 ic_0 ?_
    show Rn G l mX12_sleepLine (9, 0, 0, false) 35 [some (.ref 149), some (.int (nI (4 + p.ct 2)))] [.int 0, .ref 149, .int 0, .ref 149, .int (nI (4 + p.ct 2)), .ref 162] ly (sI N2 161 (upd (N2.1 161) (4 + p.ct 2) 0)) (rsP ly M f n (lnZ (kdF f n) (nvF f n) (nx f n) p i))
    obtain ⟨F12, eF12⟩ : ∃ N9, N9 = sI N2 161 (upd (N2.1 161) (4 + p.ct 2) 0) := ⟨_, rfl⟩
    rw [← eF12]
    have rF12 : rlF M F12 := by rw [eF12]; exact (rN2).tr (rlF.r (by decide) ⟨by decide, by decide, by show 4 ≤ _; omega⟩)
    have gF12 : F12.1 149 29 = N2.1 149 29 ∧ F12.1 149 30 = N2.1 149 30 := by rw [eF12]; exact ⟨rfl, rfl⟩
    clear eF12
    have hfaF12 : faR f n F12 _ _ := ⟨gF12.1.trans hfa.1, hfa.2.1, gF12.2.trans hfa.2.2⟩
    have hf9 : ¬ F12.1 149 29 = 0 := by rw [hfaF12.1]; exact hfaF12.2.1
    have hRF12 : RW ly F12.2.2 := by rw [rF12.1]; exact hR
    refine Rn.callV1 dX12_sleepLine_35 vX12_245 (rc149 hRF12) (by decide) rfl (tX12_fresher (M := F12) (k := 0) (by decide) hRF12) (by omega) ⟨(Nat.le_of_ble_eq_true rfl), (Nat.le_of_ble_eq_true rfl), (Nat.le_of_ble_eq_true rfl)⟩ (fun h => by cases h) (fun v1 ly1 M1 ⟨q1, q2, q3⟩ => ?_)
    rw [q1, q2, q3]
    refine Rn.iconstv (v := 1) dX12_sleepLine_38 ic_1 ?_
    refine Rn.isub dX12_sleepLine_39 ?_
    refine Rn.callV2 dX12_sleepLine_40 vX12_262 (rc149 hRF12) (by decide) rfl (rnum0 (M := F12) hf9 hRF12) (by omega) ⟨(Nat.le_of_ble_eq_true rfl), (Nat.le_of_ble_eq_true rfl), (Nat.le_of_ble_eq_true rfl)⟩ (fun h => by cases h) (fun v1 ly1 M1 ⟨q1, q2, q3⟩ => ?_)
    rw [q1, q2, q3]
    refine Rn.iastN (k0 := (4 + p.ct 2)) dX12_sleepLine_43 (rc162 hRF12) (by omega) (by decide) ?_
    refine Rn.aload_n dX12_sleepLine_44 rfl ?_
    refine Rn.getR dX12_sleepLine_45 fX12_51 rfl (rc149 hRF12) (show F12.2.2 149 15 = some 163 from (rpt15 hRF12)) ?_
    refine Rn.iload_n dX12_sleepLine_48 rfl ?_
    refine Rn.aload_n dX12_sleepLine_49 rfl ?_
    refine Rn.iconstv (v := 1) dX12_sleepLine_50 ic_1 ?_
    refine Rn.sipushv (v := 9999) dX12_sleepLine_51 sp_9999 ?_
    show Rn G l mX12_sleepLine (9, 0, 0, false) 54 [some (.ref 149), some (.int (nI (4 + p.ct 2)))] [.int 9999, .int 1, .ref 149, .int (nI (4 + p.ct 2)), .ref 163] ly (sI F12 162 (upd (F12.1 162) (4 + p.ct 2) 0)) (rsP ly M f n (lnZ (kdF f n) (nvF f n) (nx f n) p i))
    obtain ⟨F13, eF13⟩ : ∃ N9, N9 = sI F12 162 (upd (F12.1 162) (4 + p.ct 2) 0) := ⟨_, rfl⟩
    rw [← eF13]
    have rF13 : rlF M F13 := by rw [eF13]; exact (rF12).tr (rlF.r (by decide) ⟨by decide, by decide, by show 4 ≤ _; omega⟩)
    have gF13 : F13.1 149 29 = F12.1 149 29 ∧ F13.1 149 30 = F12.1 149 30 := by rw [eF13]; exact ⟨rfl, rfl⟩
    clear eF13
    have hfaF13 : faR f n F13 _ _ := ⟨gF13.1.trans hfaF12.1, hfaF12.2.1, gF13.2.trans hfaF12.2.2⟩
    have hf9 : ¬ F13.1 149 29 = 0 := by rw [hfaF13.1]; exact hfaF13.2.1
    have hRF13 : RW ly F13.2.2 := by rw [rF13.1]; exact hR
    refine Rn.callV2 dX12_sleepLine_54 vX12_262 (rc149 hRF13) (by decide) rfl (rnum0 (M := F13) hf9 hRF13) (by omega) ⟨(Nat.le_of_ble_eq_true rfl), (Nat.le_of_ble_eq_true rfl), (Nat.le_of_ble_eq_true rfl)⟩ (fun h => by cases h) (fun v1 ly1 M1 ⟨q1, q2, q3⟩ => ?_)
    rw [q1, q2, q3]
    refine Rn.iastN (k0 := (4 + p.ct 2)) dX12_sleepLine_57 (rc163 hRF13) (by omega) (by decide) ?_
    refine Rn.aload_n dX12_sleepLine_58 rfl ?_
    refine Rn.bipushv (v := 8) dX12_sleepLine_59 bp_8 ?_
    refine Rn.aload_n dX12_sleepLine_61 rfl ?_
    refine Rn.bipushv (v := 8) dX12_sleepLine_62 bp_8 ?_
    show Rn G l mX12_sleepLine (9, 0, 0, false) 64 [some (.ref 149), some (.int (nI (4 + p.ct 2)))] [.int 8, .ref 149, .int 8, .ref 149] ly (sI F13 163 (upd (F13.1 163) (4 + p.ct 2) 1)) (rsP ly M f n (lnZ (kdF f n) (nvF f n) (nx f n) p i))
    obtain ⟨F14, eF14⟩ : ∃ N9, N9 = sI F13 163 (upd (F13.1 163) (4 + p.ct 2) 1) := ⟨_, rfl⟩
    rw [← eF14]
    have rF14 : rlF M F14 := by rw [eF14]; exact (rF13).tr (rlF.r (by decide) ⟨by decide, by decide, by show 4 ≤ _; omega⟩)
    have gF14 : F14.1 149 29 = F13.1 149 29 ∧ F14.1 149 30 = F13.1 149 30 := by rw [eF14]; exact ⟨rfl, rfl⟩
    clear eF14
    have hfaF14 : faR f n F14 _ _ := ⟨gF14.1.trans hfaF13.1, hfaF13.2.1, gF14.2.trans hfaF13.2.2⟩
    have hf9 : ¬ F14.1 149 29 = 0 := by rw [hfaF14.1]; exact hfaF14.2.1
    have hRF14 : RW ly F14.2.2 := by rw [rF14.1]; exact hR
    refine Rn.callV1 dX12_sleepLine_64 vX12_245 (rc149 hRF14) (by decide) rfl (tX12_fresher (M := F14) (k := 8) (by decide) hRF14) (by omega) ⟨(Nat.le_of_ble_eq_true rfl), (Nat.le_of_ble_eq_true rfl), (Nat.le_of_ble_eq_true rfl)⟩ (fun h => by cases h) (fun v1 ly1 M1 ⟨q1, q2, q3⟩ => ?_)
    rw [q1, q2, q3]
    refine Rn.iconstv (v := 1) dX12_sleepLine_67 ic_1 ?_
    refine Rn.iadd dX12_sleepLine_68 ?_
    refine Rn.callV2 dX12_sleepLine_69 vX12_265 (rc149 hRF14) (by decide) rfl (tX12_reads (M := F14) (k := 8) (x := (F14.1 151 (13 + 8)) + 1) (by omega) hRF14) (by omega) ⟨(Nat.le_of_ble_eq_true rfl), (Nat.le_of_ble_eq_true rfl), (Nat.le_of_ble_eq_true rfl)⟩ (fun h => by cases h) (fun v1 ly1 M1 ⟨q1, q2, q3⟩ => ?_)
    rw [q1, q2, q3]
    exact Rn.vret dX12_sleepLine_72 rfl ⟨rfl, rfl, (rF14).tr (rlF.r (by decide) ⟨by decide, by decide, by show 13 ≤ _; omega⟩), Or.inr ⟨_, _, (if_neg hne).trans (qK_n zN2a), hfaF14⟩⟩
