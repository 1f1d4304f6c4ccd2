theorem rwalkerLine {G : Gx} {l : Launch} {ly : Ly} {M : Mm} {f : Nat → Int32} {n i : Nat} {p : Pl} (hS : RPs M f n p (nx f n i)) (h6 : p.ct 0 < 6) (hR : RW ly M.2.2) : Mt G l mX12_walkerLine (9, 0, 0, false) [.ref 149, .int (nI (6 + p.ct 0))] ly M (rsP ly M f n (lnW (kdF f n) (nvF f n) (nx f n) p i)) := by
  refine Mt.of (lv := [some (.ref 149), some (.int (nI (6 + p.ct 0)))]) rfl ?_
  obtain ⟨hrd, h150, h29, h33, h34, hbw, h22, hP, hct⟩ := hS
  have hz : RDz M f n (nx f n i) := ⟨hrd, h150, h29⟩
  have hne : ¬ p.ct 0 = 6 := Nat.ne_of_lt h6
  have h150_ : M.1 151 19 = nI (p.ct 0) := hP.2.1 0 (by decide)
  have h151 : True := trivial
  have h15k := h150_
  have hD00 : M.1 151 13 = p.D 0 0 := hP.1 0 (Or.inl (by decide))
  have hNm : ∀ j, j < p.ct 0 → M.1 152 (6 + j) = p.D 1 j := fun j hj => hP.2.2.2.1 1 (by decide) (by decide) j hj (fun g => absurd g (by decide))
  refine Rn.aload_n dX12_walkerLine_0 rfl ?_
  refine Rn.getR dX12_walkerLine_1 fX12_18 rfl (rc149 hR) (show M.2.2 149 4 = some 152 from (rpt4 hR)) ?_
  refine Rn.iload_n dX12_walkerLine_4 rfl ?_
  refine Rn.aload_n dX12_walkerLine_5 rfl ?_
  refine Rn.aload_n dX12_walkerLine_6 rfl ?_
  refine Rn.getR dX12_walkerLine_7 fX12_18 rfl (rc149 hR) (show M.2.2 149 4 = some 152 from (rpt4 hR)) ?_
  refine Rn.bipushv (v := 6) dX12_walkerLine_10 bp_6 ?_
  refine Rn.aload_n dX12_walkerLine_12 rfl ?_
  refine Rn.bipushv (v := 6) dX12_walkerLine_13 bp_6 ?_
  refine Rn.callV1 dX12_walkerLine_15 vX12_245 (rc149 hR) (by decide) rfl (tX12_fresher (M := M) (k := 6) (by decide) hR) (by omega) ⟨(Nat.le_of_ble_eq_true rfl), (Nat.le_of_ble_eq_true rfl), (Nat.le_of_ble_eq_true rfl)⟩ (fun h => by cases h) (fun v1 ly1 M1 ⟨q1, q2, q3⟩ => ?_)
  rw [q1, q2, q3]
  refine Rn.topI (y := nI (p.ct 0)) (show M.1 151 (13 + 6) = nI (p.ct 0) from h150_) ?_
  refine Rn.callV3 dX12_walkerLine_18 vX12_278 (rc149 hR) (by decide) rfl (rfresh (M := M) (i := nx f n i) (a := 152) (fo := 6) (m := p.ct 0) (len := 12) (N := p.D 1) hz (rc152 hR) (by omega) (by decide) hNm hR) (by decide) ⟨(Nat.le_of_ble_eq_true rfl), (Nat.le_of_ble_eq_true rfl), (Nat.le_of_ble_eq_true rfl)⟩ (fun h => by cases h) (fun v1 ly1 N1 ⟨q2, hh⟩ => ?_)
  rw [q2]
  rcases hh with ⟨zN1a, q1, tN1, zN1⟩ | ⟨zN1a, q1, gN1, hfa⟩
  · skip
    rw [q1]
    have rN1 : rlF M N1 := rlF.tok tN1
    have oN1 : ∀ a, a ≠ 149 → N1.1 a = M.1 a := fun a a0 => tN1.2.1 a a0
    have xN1 : N1.1 149 21 = M.1 149 21 ∧ N1.1 149 22 = M.1 149 22 ∧ (N1.1 149 33 = M.1 149 33 ∧ N1.1 149 30 = M.1 149 30) ∧ N1.1 149 34 = M.1 149 34 := ⟨tN1.2.2 21 (by omega), tN1.2.2 22 (by omega), ⟨tN1.2.2 33 (by omega), tN1.2.2 30 (by omega)⟩, tN1.2.2 34 (by omega)⟩
    have XN1 := xN1
    have hRN1 : RW ly N1.2.2 := by rw [rN1.1]; exact hR
    refine Rn.iastN (k0 := (6 + p.ct 0)) dX12_walkerLine_21 (rc152 hRN1) (by omega) (by decide) ?_
    obtain ⟨N2, eN2⟩ : ∃ N9, N9 = sI N1 152 (upd (N1.1 152) (6 + p.ct 0) (nvF f n (nx f n i))) := ⟨_, rfl⟩
    rw [← eN2]
    have fN2 : rlF N1 N2 := by rw [eN2]; exact rlF.r (by decide) ⟨by decide, by decide, by show 6 ≤ _; omega⟩
    have rN2 : rlF M N2 := rN1.tr fN2
    have oN2 : ∀ a, a ≠ 149 → a ≠ 152 → N2.1 a = M.1 a := fun a a0 a152 => by rw [eN2, sI_ne a152]; exact oN1 a a0 
    have cN2_152 : N2.1 152 = upd (M.1 152) (6 + p.ct 0) (nvF f n (nx f n i)) := by rw [eN2, sI_at]; exact congrArg (fun r9 => upd r9 _ _) (oN1 152 (by decide) )
    have yN2 : N2.1 149 = N1.1 149 := by rw [eN2]; exact sI_ne (by decide)
    have xN2 : N2.1 149 21 = N1.1 149 21 ∧ N2.1 149 22 = N1.1 149 22 ∧ (N2.1 149 33 = N1.1 149 33 ∧ N2.1 149 30 = N1.1 149 30) ∧ N2.1 149 34 = N1.1 149 34 := by rw [yN2]; exact ⟨rfl, rfl, ⟨rfl, rfl⟩, rfl⟩
    have wN2 : N2.1 150 = N1.1 150 := by rw [eN2]; exact sI_ne (by decide)
    clear eN2
    have XN2 := (⟨xN2.1.trans XN1.1, xN2.2.1.trans XN1.2.1, ⟨xN2.2.2.1.1.trans XN1.2.2.1.1, xN2.2.2.1.2.trans XN1.2.2.1.2⟩, xN2.2.2.2.trans XN1.2.2.2⟩ : N2.1 149 21 = M.1 149 21 ∧ N2.1 149 22 = M.1 149 22 ∧ (N2.1 149 33 = M.1 149 33 ∧ N2.1 149 30 = M.1 149 30) ∧ N2.1 149 34 = M.1 149 34)
    have hRN2 : RW ly N2.2.2 := by rw [rN2.1]; exact hR
    have zN2 : RDz N2 f n (nx f n (nx f n i)) := zN1.of (by rw [yN2]; exact ⟨rfl, rfl, rfl, rfl, rfl, rfl⟩) wN2
    refine Rn.aload_n dX12_walkerLine_22 rfl ?_
    refine Rn.getR dX12_walkerLine_23 fX12_21 rfl (rc149 hRN2) (show N2.2.2 149 5 = some 153 from (rpt5 hRN2)) ?_
    refine Rn.iload_n dX12_walkerLine_26 rfl ?_
    refine Rn.aload_n dX12_walkerLine_27 rfl ?_
    refine Rn.iconstv (v := 1) dX12_walkerLine_28 ic_1 ?_
    refine Rn.bipushv (v := 30) dX12_walkerLine_29 bp_30 ?_
    refine Rn.callV2 dX12_walkerLine_31 vX12_262 (rc149 hRN2) (by decide) rfl (rnum (M := N2) (i := nx f n (nx f n i)) zN2 hRN2) (by decide) ⟨(Nat.le_of_ble_eq_true rfl), (Nat.le_of_ble_eq_true rfl), (Nat.le_of_ble_eq_true rfl)⟩ (fun h => by cases h) (fun v1 ly1 N3 ⟨q2, hh⟩ => ?_)
    rw [q2]
    rcases hh with ⟨zN3a, q1, bN3, tN3, zN3⟩ | ⟨zN3a, q1, gN3, hfa⟩
    · skip
      rw [q1]
      have rN3 : rlF M N3 := rN2.tr (rlF.tok tN3)
      have oN3 : ∀ a, a ≠ 149 → a ≠ 152 → N3.1 a = M.1 a := fun a a0 a152 => (tN3.2.1 a a0).trans (oN2 a a0 a152)
      have cN3_152 : N3.1 152 = upd (M.1 152) (6 + p.ct 0) (nvF f n (nx f n i)) := (tN3.2.1 152 (by decide)).trans cN2_152
      have xN3 : N3.1 149 21 = N2.1 149 21 ∧ N3.1 149 22 = N2.1 149 22 ∧ (N3.1 149 33 = N2.1 149 33 ∧ N3.1 149 30 = N2.1 149 30) ∧ N3.1 149 34 = N2.1 149 34 := ⟨tN3.2.2 21 (by omega), tN3.2.2 22 (by omega), ⟨tN3.2.2 33 (by omega), tN3.2.2 30 (by omega)⟩, tN3.2.2 34 (by omega)⟩
      have XN3 := (⟨xN3.1.trans XN2.1, xN3.2.1.trans XN2.2.1, ⟨xN3.2.2.1.1.trans XN2.2.2.1.1, xN3.2.2.1.2.trans XN2.2.2.1.2⟩, xN3.2.2.2.trans XN2.2.2.2⟩ : N3.1 149 21 = M.1 149 21 ∧ N3.1 149 22 = M.1 149 22 ∧ (N3.1 149 33 = M.1 149 33 ∧ N3.1 149 30 = M.1 149 30) ∧ N3.1 149 34 = M.1 149 34)
      have hRN3 : RW ly N3.2.2 := by rw [rN3.1]; exact hR
      refine Rn.iastN (k0 := (6 + p.ct 0)) dX12_walkerLine_34 (rc153 hRN3) (by omega) (by decide) ?_
      obtain ⟨N4, eN4⟩ : ∃ N9, N9 = sI N3 153 (upd (N3.1 153) (6 + p.ct 0) (nvF f n (nx f n (nx f n i)))) := ⟨_, rfl⟩
      rw [← eN4]
      have fN4 : rlF N3 N4 := by rw [eN4]; exact rlF.r (by decide) ⟨by decide, by decide, by show 6 ≤ _; omega⟩
      have rN4 : rlF M N4 := rN3.tr fN4
      have oN4 : ∀ a, a ≠ 149 → a ≠ 152 → a ≠ 153 → N4.1 a = M.1 a := fun a a0 a152 a153 => by rw [eN4, sI_ne a153]; exact oN3 a a0 a152
      have cN4_152 : N4.1 152 = upd (M.1 152) (6 + p.ct 0) (nvF f n (nx f n i)) := by rw [eN4, sI_ne (by decide)]; exact cN3_152
      have cN4_153 : N4.1 153 = upd (M.1 153) (6 + p.ct 0) (nvF f n (nx f n (nx f n i))) := by rw [eN4, sI_at]; exact congrArg (fun r9 => upd r9 _ _) (oN3 153 (by decide) (by decide))
      have yN4 : N4.1 149 = N3.1 149 := by rw [eN4]; exact sI_ne (by decide)
      have xN4 : N4.1 149 21 = N3.1 149 21 ∧ N4.1 149 22 = N3.1 149 22 ∧ (N4.1 149 33 = N3.1 149 33 ∧ N4.1 149 30 = N3.1 149 30) ∧ N4.1 149 34 = N3.1 149 34 := by rw [yN4]; exact ⟨rfl, rfl, ⟨rfl, rfl⟩, rfl⟩
      have wN4 : N4.1 150 = N3.1 150 := by rw [eN4]; exact sI_ne (by decide)
      clear eN4
      have XN4 := (⟨xN4.1.trans XN3.1, xN4.2.1.trans XN3.2.1, ⟨xN4.2.2.1.1.trans XN3.2.2.1.1, xN4.2.2.1.2.trans XN3.2.2.1.2⟩, xN4.2.2.2.trans XN3.2.2.2⟩ : N4.1 149 21 = M.1 149 21 ∧ N4.1 149 22 = M.1 149 22 ∧ (N4.1 149 33 = M.1 149 33 ∧ N4.1 149 30 = M.1 149 30) ∧ N4.1 149 34 = M.1 149 34)
      have hRN4 : RW ly N4.2.2 := by rw [rN4.1]; exact hR
      have zN4 : RDz N4 f n (nx f n (nx f n (nx f n i))) := zN3.of (by rw [yN4]; exact ⟨rfl, rfl, rfl, rfl, rfl, rfl⟩) wN4
      refine Rn.aload_n dX12_walkerLine_35 rfl ?_
      refine Rn.getR dX12_walkerLine_36 fX12_24 rfl (rc149 hRN4) (show N4.2.2 149 6 = some 154 from (rpt6 hRN4)) ?_
      refine Rn.iload_n dX12_walkerLine_39 rfl ?_
      refine Rn.aload_n dX12_walkerLine_40 rfl ?_
      refine Rn.iconstv (v := 1) dX12_walkerLine_41 ic_1 ?_
      refine Rn.bipushv (v := 9) dX12_walkerLine_42 bp_9 ?_
      refine Rn.callV2 dX12_walkerLine_44 vX12_262 (rc149 hRN4) (by decide) rfl (rnum (M := N4) (i := nx f n (nx f n (nx f n i))) zN4 hRN4) (by decide) ⟨(Nat.le_of_ble_eq_true rfl), (Nat.le_of_ble_eq_true rfl), (Nat.le_of_ble_eq_true rfl)⟩ (fun h => by cases h) (fun v1 ly1 N5 ⟨q2, hh⟩ => ?_)
      rw [q2]
      rcases hh with ⟨zN5a, q1, bN5, tN5, zN5⟩ | ⟨zN5a, q1, gN5, hfa⟩
      · skip
        rw [q1]
        have rN5 : rlF M N5 := rN4.tr (rlF.tok tN5)
        have oN5 : ∀ a, a ≠ 149 → a ≠ 152 → a ≠ 153 → N5.1 a = M.1 a := fun a a0 a152 a153 => (tN5.2.1 a a0).trans (oN4 a a0 a152 a153)
        have cN5_152 : N5.1 152 = upd (M.1 152) (6 + p.ct 0) (nvF f n (nx f n i)) := (tN5.2.1 152 (by decide)).trans cN4_152
        have cN5_153 : N5.1 153 = upd (M.1 153) (6 + p.ct 0) (nvF f n (nx f n (nx f n i))) := (tN5.2.1 153 (by decide)).trans cN4_153
        have xN5 : N5.1 149 21 = N4.1 149 21 ∧ N5.1 149 22 = N4.1 149 22 ∧ (N5.1 149 33 = N4.1 149 33 ∧ N5.1 149 30 = N4.1 149 30) ∧ N5.1 149 34 = N4.1 149 34 := ⟨tN5.2.2 21 (by omega), tN5.2.2 22 (by omega), ⟨tN5.2.2 33 (by omega), tN5.2.2 30 (by omega)⟩, tN5.2.2 34 (by omega)⟩
        have XN5 := (⟨xN5.1.trans XN4.1, xN5.2.1.trans XN4.2.1, ⟨xN5.2.2.1.1.trans XN4.2.2.1.1, xN5.2.2.1.2.trans XN4.2.2.1.2⟩, xN5.2.2.2.trans XN4.2.2.2⟩ : N5.1 149 21 = M.1 149 21 ∧ N5.1 149 22 = M.1 149 22 ∧ (N5.1 149 33 = M.1 149 33 ∧ N5.1 149 30 = M.1 149 30) ∧ N5.1 149 34 = M.1 149 34)
        have hRN5 : RW ly N5.2.2 := by rw [rN5.1]; exact hR
        refine Rn.iastN (k0 := (6 + p.ct 0)) dX12_walkerLine_47 (rc154 hRN5) (by omega) (by decide) ?_
        obtain ⟨N6, eN6⟩ : ∃ N9, N9 = sI N5 154 (upd (N5.1 154) (6 + p.ct 0) (nvF f n (nx f n (nx f n (nx f n i))))) := ⟨_, rfl⟩
        rw [← eN6]
        have fN6 : rlF N5 N6 := by rw [eN6]; exact rlF.r (by decide) ⟨by decide, by decide, by show 6 ≤ _; omega⟩
        have rN6 : rlF M N6 := rN5.tr fN6
        have oN6 : ∀ a, a ≠ 149 → a ≠ 152 → a ≠ 153 → a ≠ 154 → N6.1 a = M.1 a := fun a a0 a152 a153 a154 => by rw [eN6, sI_ne a154]; exact oN5 a a0 a152 a153
        have cN6_152 : N6.1 152 = upd (M.1 152) (6 + p.ct 0) (nvF f n (nx f n i)) := by rw [eN6, sI_ne (by decide)]; exact cN5_152
        have cN6_153 : N6.1 153 = upd (M.1 153) (6 + p.ct 0) (nvF f n (nx f n (nx f n i))) := by rw [eN6, sI_ne (by decide)]; exact cN5_153
        have cN6_154 : N6.1 154 = upd (M.1 154) (6 + p.ct 0) (nvF f n (nx f n (nx f n (nx f n i)))) := by rw [eN6, sI_at]; exact congrArg (fun r9 => upd r9 _ _) (oN5 154 (by decide) (by decide) (by decide))
        have yN6 : N6.1 149 = N5.1 149 := by rw [eN6]; exact sI_ne (by decide)
        have xN6 : N6.1 149 21 = N5.1 149 21 ∧ N6.1 149 22 = N5.1 149 22 ∧ (N6.1 149 33 = N5.1 149 33 ∧ N6.1 149 30 = N5.1 149 30) ∧ N6.1 149 34 = N5.1 149 34 := by rw [yN6]; exact ⟨rfl, rfl, ⟨rfl, rfl⟩, rfl⟩
        have wN6 : N6.1 150 = N5.1 150 := by rw [eN6]; exact sI_ne (by decide)
        clear eN6
        have XN6 := (⟨xN6.1.trans XN5.1, xN6.2.1.trans XN5.2.1, ⟨xN6.2.2.1.1.trans XN5.2.2.1.1, xN6.2.2.1.2.trans XN5.2.2.1.2⟩, xN6.2.2.2.trans XN5.2.2.2⟩ : N6.1 149 21 = M.1 149 21 ∧ N6.1 149 22 = M.1 149 22 ∧ (N6.1 149 33 = M.1 149 33 ∧ N6.1 149 30 = M.1 149 30) ∧ N6.1 149 34 = M.1 149 34)
        have hRN6 : RW ly N6.2.2 := by rw [rN6.1]; exact hR
        have zN6 : RDz N6 f n (nx f n (nx f n (nx f n (nx f n i)))) := zN5.of (by rw [yN6]; exact ⟨rfl, rfl, rfl, rfl, rfl, rfl⟩) wN6
        refine Rn.aload_n dX12_walkerLine_48 rfl ?_
        refine Rn.getR dX12_walkerLine_49 fX12_27 rfl (rc149 hRN6) (show N6.2.2 149 7 = some 155 from (rpt7 hRN6)) ?_
        refine Rn.iload_n dX12_walkerLine_52 rfl ?_
        refine Rn.aload_n dX12_walkerLine_53 rfl ?_
        refine Rn.iconstv (v := 0) dX12_walkerLine_54 ic_0 ?_
        refine Rn.bipushv (v := 60) dX12_walkerLine_55 bp_60 ?_
        refine Rn.callV2 dX12_walkerLine_57 vX12_262 (rc149 hRN6) (by decide) rfl (rnum (M := N6) (i := nx f n (nx f n (nx f n (nx f n i)))) zN6 hRN6) (by decide) ⟨(Nat.le_of_ble_eq_true rfl), (Nat.le_of_ble_eq_true rfl), (Nat.le_of_ble_eq_true rfl)⟩ (fun h => by cases h) (fun v1 ly1 N7 ⟨q2, hh⟩ => ?_)
        rw [q2]
        rcases hh with ⟨zN7a, q1, bN7, tN7, zN7⟩ | ⟨zN7a, q1, gN7, hfa⟩
        · skip
          rw [q1]
          have rN7 : rlF M N7 := rN6.tr (rlF.tok tN7)
          have oN7 : ∀ a, a ≠ 149 → a ≠ 152 → a ≠ 153 → a ≠ 154 → N7.1 a = M.1 a := fun a a0 a152 a153 a154 => (tN7.2.1 a a0).trans (oN6 a a0 a152 a153 a154)
          have cN7_152 : N7.1 152 = upd (M.1 152) (6 + p.ct 0) (nvF f n (nx f n i)) := (tN7.2.1 152 (by decide)).trans cN6_152
          have cN7_153 : N7.1 153 = upd (M.1 153) (6 + p.ct 0) (nvF f n (nx f n (nx f n i))) := (tN7.2.1 153 (by decide)).trans cN6_153
          have cN7_154 : N7.1 154 = upd (M.1 154) (6 + p.ct 0) (nvF f n (nx f n (nx f n (nx f n i)))) := (tN7.2.1 154 (by decide)).trans cN6_154
          have xN7 : N7.1 149 21 = N6.1 149 21 ∧ N7.1 149 22 = N6.1 149 22 ∧ (N7.1 149 33 = N6.1 149 33 ∧ N7.1 149 30 = N6.1 149 30) ∧ N7.1 149 34 = N6.1 149 34 := ⟨tN7.2.2 21 (by omega), tN7.2.2 22 (by omega), ⟨tN7.2.2 33 (by omega), tN7.2.2 30 (by omega)⟩, tN7.2.2 34 (by omega)⟩
          have XN7 := (⟨xN7.1.trans XN6.1, xN7.2.1.trans XN6.2.1, ⟨xN7.2.2.1.1.trans XN6.2.2.1.1, xN7.2.2.1.2.trans XN6.2.2.1.2⟩, xN7.2.2.2.trans XN6.2.2.2⟩ : N7.1 149 21 = M.1 149 21 ∧ N7.1 149 22 = M.1 149 22 ∧ (N7.1 149 33 = M.1 149 33 ∧ N7.1 149 30 = M.1 149 30) ∧ N7.1 149 34 = M.1 149 34)
          have hRN7 : RW ly N7.2.2 := by rw [rN7.1]; exact hR
          refine Rn.iastN (k0 := (6 + p.ct 0)) dX12_walkerLine_60 (rc155 hRN7) (by omega) (by decide) ?_
          obtain ⟨N8, eN8⟩ : ∃ N9, N9 = sI N7 155 (upd (N7.1 155) (6 + p.ct 0) (nvF f n (nx f n (nx f n (nx f n (nx f n i)))))) := ⟨_, rfl⟩
          rw [← eN8]
          have fN8 : rlF N7 N8 := by rw [eN8]; exact rlF.r (by decide) ⟨by decide, by decide, by show 6 ≤ _; omega⟩
          have rN8 : rlF M N8 := rN7.tr fN8
          have oN8 : ∀ a, a ≠ 149 → a ≠ 152 → a ≠ 153 → a ≠ 154 → a ≠ 155 → N8.1 a = M.1 a := fun a a0 a152 a153 a154 a155 => by rw [eN8, sI_ne a155]; exact oN7 a a0 a152 a153 a154
          have cN8_152 : N8.1 152 = upd (M.1 152) (6 + p.ct 0) (nvF f n (nx f n i)) := by rw [eN8, sI_ne (by decide)]; exact cN7_152
          have cN8_153 : N8.1 153 = upd (M.1 153) (6 + p.ct 0) (nvF f n (nx f n (nx f n i))) := by rw [eN8, sI_ne (by decide)]; exact cN7_153
          have cN8_154 : N8.1 154 = upd (M.1 154) (6 + p.ct 0) (nvF f n (nx f n (nx f n (nx f n i)))) := by rw [eN8, sI_ne (by decide)]; exact cN7_154
          have cN8_155 : N8.1 155 = upd (M.1 155) (6 + p.ct 0) (nvF f n (nx f n (nx f n (nx f n (nx f n i))))) := by rw [eN8, sI_at]; exact congrArg (fun r9 => upd r9 _ _) (oN7 155 (by decide) (by decide) (by decide) (by decide))
          have yN8 : N8.1 149 = N7.1 149 := by rw [eN8]; exact sI_ne (by decide)
          have xN8 : N8.1 149 21 = N7.1 149 21 ∧ N8.1 149 22 = N7.1 149 22 ∧ (N8.1 149 33 = N7.1 149 33 ∧ N8.1 149 30 = N7.1 149 30) ∧ N8.1 149 34 = N7.1 149 34 := by rw [yN8]; exact ⟨rfl, rfl, ⟨rfl, rfl⟩, rfl⟩
          have wN8 : N8.1 150 = N7.1 150 := by rw [eN8]; exact sI_ne (by decide)
          clear eN8
          have XN8 := (⟨xN8.1.trans XN7.1, xN8.2.1.trans XN7.2.1, ⟨xN8.2.2.1.1.trans XN7.2.2.1.1, xN8.2.2.1.2.trans XN7.2.2.1.2⟩, xN8.2.2.2.trans XN7.2.2.2⟩ : N8.1 149 21 = M.1 149 21 ∧ N8.1 149 22 = M.1 149 22 ∧ (N8.1 149 33 = M.1 149 33 ∧ N8.1 149 30 = M.1 149 30) ∧ N8.1 149 34 = M.1 149 34)
          have hRN8 : RW ly N8.2.2 := by rw [rN8.1]; exact hR
          have zN8 : RDz N8 f n (nx f n (nx f n (nx f n (nx f n (nx f n i))))) := zN7.of (by rw [yN8]; exact ⟨rfl, rfl, rfl, rfl, rfl, rfl⟩) wN8
          have htc := zN8.tc
          refine Rn.aload_n dX12_walkerLine_61 rfl ?_
          refine Rn.getI dX12_walkerLine_62 fX12_222 rfl (rc149 hRN8) ?_
          refine Rn.if_ne dX12_walkerLine_65 (fun h9 => absurd zN8.2.2 h9) (fun h9 => ?_)
          by_cases h13 : kdF f n (nx f n (nx f n (nx f n (nx f n (nx f n i))))) = 13
          · skip
            have hsv := (htc.1.w (w := 13) (by decide)).mpr (htc.2.1.trans h13)
            refine Rn.aload_n dX12_walkerLine_68 rfl ?_
            refine Rn.getI dX12_walkerLine_69 fX12_188 rfl (rc149 hRN8) ?_
            refine Rn.topI (y := 0) (hsv.1) ?_
            refine Rn.if_ne dX12_walkerLine_72 (fun h9 => (by first | exact absurd h9 (by decide) | exact absurd (by decide) h9)) (fun h9 => ?_)
            refine Rn.aload_n dX12_walkerLine_75 rfl ?_
            refine Rn.getI dX12_walkerLine_76 fX12_198 rfl (rc149 hRN8) ?_
            refine Rn.topI (y := 13) (hsv.2) ?_
            refine Rn.bipushv (v := 11) dX12_walkerLine_79 bp_11 ?_
            refine Rn.icmp_lt dX12_walkerLine_81 (fun h9 => (by first | exact absurd h9 (by decide) | exact absurd (by decide) h9)) (fun h9 => ?_)
            refine Rn.aload_n dX12_walkerLine_84 rfl ?_
            refine Rn.getI dX12_walkerLine_85 fX12_198 rfl (rc149 hRN8) ?_
            refine Rn.topI (y := 13) (hsv.2) ?_
            refine Rn.bipushv (v := 13) dX12_walkerLine_88 bp_13 ?_
            refine Rn.icmp_le dX12_walkerLine_90 (fun h9 => ?_) (fun h9 => (by first | exact absurd h9 (by decide) | exact absurd (by decide) h9))
            refine Rn.aload_n dX12_walkerLine_98 rfl ?_
            refine Rn.getI dX12_walkerLine_99 fX12_222 rfl (rc149 hRN8) ?_
            refine Rn.topI (y := 0) (zN8.2.2) ?_
            refine Rn.if_eq dX12_walkerLine_102 (fun h9 => ?_) (fun h9 => (by first | exact absurd h9 (by decide) | exact absurd (by decide) h9))
            refine Rn.aload_n dX12_walkerLine_106 rfl ?_
            refine Rn.getR dX12_walkerLine_107 fX12_30 rfl (rc149 hRN8) (show N8.2.2 149 8 = some 156 from (rpt8 hRN8)) ?_
            refine Rn.iload_n dX12_walkerLine_110 rfl ?_
            refine Rn.aload_n dX12_walkerLine_111 rfl ?_
            refine Rn.getI dX12_walkerLine_112 fX12_198 rfl (rc149 hRN8) ?_
            refine Rn.topI (y := 13) (hsv.2) ?_
            refine Rn.bipushv (v := 11) dX12_walkerLine_115 bp_11 ?_
            refine Rn.icmp_ne dX12_walkerLine_117 (fun h9 => ?_) (fun h9 => (by first | exact absurd h9 (by decide) | exact absurd (by decide) h9))
            refine Rn.aload_n dX12_walkerLine_124 rfl ?_
            refine Rn.getI dX12_walkerLine_125 fX12_198 rfl (rc149 hRN8) ?_
            refine Rn.topI (y := 13) (hsv.2) ?_
            refine Rn.bipushv (v := 12) dX12_walkerLine_128 bp_12 ?_
            refine Rn.icmp_ne dX12_walkerLine_130 (fun h9 => ?_) (fun h9 => (by first | exact absurd h9 (by decide) | exact absurd (by decide) h9))
            refine Rn.iconstv (v := 0) dX12_walkerLine_137 ic_0 ?_
            refine Rn.iastN (k0 := (6 + p.ct 0)) dX12_walkerLine_138 (rc156 hRN8) (by omega) (by decide) ?_
            obtain ⟨N9, eN9⟩ : ∃ N9, N9 = sI N8 156 (upd (N8.1 156) (6 + p.ct 0) 0) := ⟨_, rfl⟩
            rw [← eN9]
            have fN9 : rlF N8 N9 := by rw [eN9]; exact rlF.r (by decide) ⟨by decide, by decide, by show 6 ≤ _; omega⟩
            have rN9 : rlF M N9 := rN8.tr fN9
            have oN9 : ∀ a, a ≠ 149 → a ≠ 152 → a ≠ 153 → a ≠ 154 → a ≠ 155 → a ≠ 156 → N9.1 a = M.1 a := fun a a0 a152 a153 a154 a155 a156 => by rw [eN9, sI_ne a156]; exact oN8 a a0 a152 a153 a154 a155
            have cN9_152 : N9.1 152 = upd (M.1 152) (6 + p.ct 0) (nvF f n (nx f n i)) := by rw [eN9, sI_ne (by decide)]; exact cN8_152
            have cN9_153 : N9.1 153 = upd (M.1 153) (6 + p.ct 0) (nvF f n (nx f n (nx f n i))) := by rw [eN9, sI_ne (by decide)]; exact cN8_153
            have cN9_154 : N9.1 154 = upd (M.1 154) (6 + p.ct 0) (nvF f n (nx f n (nx f n (nx f n i)))) := by rw [eN9, sI_ne (by decide)]; exact cN8_154
            have cN9_155 : N9.1 155 = upd (M.1 155) (6 + p.ct 0) (nvF f n (nx f n (nx f n (nx f n (nx f n i))))) := by rw [eN9, sI_ne (by decide)]; exact cN8_155
            have cN9_156 : N9.1 156 = upd (M.1 156) (6 + p.ct 0) 0 := by rw [eN9, sI_at]; exact congrArg (fun r9 => upd r9 _ _) (oN8 156 (by decide) (by decide) (by decide) (by decide) (by decide))
            have yN9 : N9.1 149 = N8.1 149 := by rw [eN9]; exact sI_ne (by decide)
            have xN9 : N9.1 149 21 = N8.1 149 21 ∧ N9.1 149 22 = N8.1 149 22 ∧ (N9.1 149 33 = N8.1 149 33 ∧ N9.1 149 30 = N8.1 149 30) ∧ N9.1 149 34 = N8.1 149 34 := by rw [yN9]; exact ⟨rfl, rfl, ⟨rfl, rfl⟩, rfl⟩
            have wN9 : N9.1 150 = N8.1 150 := by rw [eN9]; exact sI_ne (by decide)
            clear eN9
            have XN9 := (⟨xN9.1.trans XN8.1, xN9.2.1.trans XN8.2.1, ⟨xN9.2.2.1.1.trans XN8.2.2.1.1, xN9.2.2.1.2.trans XN8.2.2.1.2⟩, xN9.2.2.2.trans XN8.2.2.2⟩ : N9.1 149 21 = M.1 149 21 ∧ N9.1 149 22 = M.1 149 22 ∧ (N9.1 149 33 = M.1 149 33 ∧ N9.1 149 30 = M.1 149 30) ∧ N9.1 149 34 = M.1 149 34)
            have hRN9 : RW ly N9.2.2 := by rw [rN9.1]; exact hR
            have zN9 : RDz N9 f n (nx f n (nx f n (nx f n (nx f n (nx f n i))))) := zN8.of (by rw [yN9]; exact ⟨rfl, rfl, rfl, rfl, rfl, rfl⟩) wN9
            refine Rn.aload_n dX12_walkerLine_139 rfl ?_
            refine Rn.callV0 dX12_walkerLine_140 vX12_228 (rc149 hRN9) (by decide) rfl (rtok (M := N9) (i := nx f n (nx f n (nx f n (nx f n (nx f n i))))) zN9 hRN9) (by decide) ⟨(Nat.le_of_ble_eq_true rfl), (Nat.le_of_ble_eq_true rfl), (Nat.le_of_ble_eq_true rfl)⟩ (fun h => by cases h) (fun v1 ly1 N10 ⟨q1, q2, tN10, zN10⟩ => ?_)
            rw [q1, q2]
            have rN10 : rlF M N10 := rN9.tr (rlF.tok tN10)
            have oN10 : ∀ a, a ≠ 149 → a ≠ 152 → a ≠ 153 → a ≠ 154 → a ≠ 155 → a ≠ 156 → N10.1 a = M.1 a := fun a a0 a152 a153 a154 a155 a156 => (tN10.2.1 a a0).trans (oN9 a a0 a152 a153 a154 a155 a156)
            have cN10_152 : N10.1 152 = upd (M.1 152) (6 + p.ct 0) (nvF f n (nx f n i)) := (tN10.2.1 152 (by decide)).trans cN9_152
            have cN10_153 : N10.1 153 = upd (M.1 153) (6 + p.ct 0) (nvF f n (nx f n (nx f n i))) := (tN10.2.1 153 (by decide)).trans cN9_153
            have cN10_154 : N10.1 154 = upd (M.1 154) (6 + p.ct 0) (nvF f n (nx f n (nx f n (nx f n i)))) := (tN10.2.1 154 (by decide)).trans cN9_154
            have cN10_155 : N10.1 155 = upd (M.1 155) (6 + p.ct 0) (nvF f n (nx f n (nx f n (nx f n (nx f n i))))) := (tN10.2.1 155 (by decide)).trans cN9_155
            have cN10_156 : N10.1 156 = upd (M.1 156) (6 + p.ct 0) 0 := (tN10.2.1 156 (by decide)).trans cN9_156
            have xN10 : N10.1 149 21 = N9.1 149 21 ∧ N10.1 149 22 = N9.1 149 22 ∧ (N10.1 149 33 = N9.1 149 33 ∧ N10.1 149 30 = N9.1 149 30) ∧ N10.1 149 34 = N9.1 149 34 := ⟨tN10.2.2 21 (by omega), tN10.2.2 22 (by omega), ⟨tN10.2.2 33 (by omega), tN10.2.2 30 (by omega)⟩, tN10.2.2 34 (by omega)⟩
            have XN10 := (⟨xN10.1.trans XN9.1, xN10.2.1.trans XN9.2.1, ⟨xN10.2.2.1.1.trans XN9.2.2.1.1, xN10.2.2.1.2.trans XN9.2.2.1.2⟩, xN10.2.2.2.trans XN9.2.2.2⟩ : N10.1 149 21 = M.1 149 21 ∧ N10.1 149 22 = M.1 149 22 ∧ (N10.1 149 33 = M.1 149 33 ∧ N10.1 149 30 = M.1 149 30) ∧ N10.1 149 34 = M.1 149 34)
            have hRN10 : RW ly N10.2.2 := by rw [rN10.1]; exact hR
            refine Rn.aload_n dX12_walkerLine_143 rfl ?_
            refine Rn.getR dX12_walkerLine_144 fX12_30 rfl (rc149 hRN10) (show N10.2.2 149 8 = some 156 from (rpt8 hRN10)) ?_
            refine Rn.iload_n dX12_walkerLine_147 rfl ?_
            refine Rn.ialdN (k0 := (6 + p.ct 0)) dX12_walkerLine_148 (rc156 hRN10) (by omega) (by decide) ?_
            refine Rn.topI (y := 0) ((congrFun cN10_156 _).trans pk_us) ?_
            refine Rn.if_ne dX12_walkerLine_149 (fun h9 => (by first | exact absurd h9 (by decide) | exact absurd (by decide) h9)) (fun h9 => ?_)
            refine Rn.aload_n dX12_walkerLine_152 rfl ?_
            refine Rn.getR dX12_walkerLine_153 fX12_33 rfl (rc149 hRN10) (show N10.2.2 149 9 = some 157 from (rpt9 hRN10)) ?_
            refine Rn.iload_n dX12_walkerLine_156 rfl ?_
            refine Rn.aload_n dX12_walkerLine_157 rfl ?_
            refine Rn.iconstv (v := 0) dX12_walkerLine_158 ic_0 ?_
            refine Rn.aload_n dX12_walkerLine_159 rfl ?_
            refine Rn.iconstv (v := 0) dX12_walkerLine_160 ic_0 ?_
            refine Rn.callV1 dX12_walkerLine_161 vX12_245 (rc149 hRN10) (by decide) rfl (tX12_fresher (M := N10) (k := 0) (by decide) hRN10) (by omega) ⟨(Nat.le_of_ble_eq_true rfl), (Nat.le_of_ble_eq_true rfl), (Nat.le_of_ble_eq_true rfl)⟩ (fun h => by cases h) (fun v1 ly1 M1 ⟨q1, q2, q3⟩ => ?_)
            rw [q1, q2, q3]
            refine Rn.topI (y := p.D 0 0) (show N10.1 151 (13 + 0) = p.D 0 0 from (congrFun (oN10 151 (by decide) (by decide) (by decide) (by decide) (by decide) (by decide)) 13).trans hD00) ?_
            refine Rn.iconstv (v := 1) dX12_walkerLine_164 ic_1 ?_
            refine Rn.isub dX12_walkerLine_165 ?_
            refine Rn.callV2 dX12_walkerLine_166 vX12_262 (rc149 hRN10) (by decide) rfl (rnum (M := N10) (i := nx f n (nx f n (nx f n (nx f n (nx f n (nx f n i)))))) zN10 hRN10) (by decide) ⟨(Nat.le_of_ble_eq_true rfl), (Nat.le_of_ble_eq_true rfl), (Nat.le_of_ble_eq_true rfl)⟩ (fun h => by cases h) (fun v1 ly1 N11 ⟨q2, hh⟩ => ?_)
            rw [q2]
            rcases hh with ⟨zN11a, q1, bN11, tN11, zN11⟩ | ⟨zN11a, q1, gN11, hfa⟩
            · skip
              rw [q1]
              have rN11 : rlF M N11 := rN10.tr (rlF.tok tN11)
              have oN11 : ∀ a, a ≠ 149 → a ≠ 152 → a ≠ 153 → a ≠ 154 → a ≠ 155 → a ≠ 156 → N11.1 a = M.1 a := fun a a0 a152 a153 a154 a155 a156 => (tN11.2.1 a a0).trans (oN10 a a0 a152 a153 a154 a155 a156)
              have cN11_152 : N11.1 152 = upd (M.1 152) (6 + p.ct 0) (nvF f n (nx f n i)) := (tN11.2.1 152 (by decide)).trans cN10_152
              have cN11_153 : N11.1 153 = upd (M.1 153) (6 + p.ct 0) (nvF f n (nx f n (nx f n i))) := (tN11.2.1 153 (by decide)).trans cN10_153
              have cN11_154 : N11.1 154 = upd (M.1 154) (6 + p.ct 0) (nvF f n (nx f n (nx f n (nx f n i)))) := (tN11.2.1 154 (by decide)).trans cN10_154
              have cN11_155 : N11.1 155 = upd (M.1 155) (6 + p.ct 0) (nvF f n (nx f n (nx f n (nx f n (nx f n i))))) := (tN11.2.1 155 (by decide)).trans cN10_155
              have cN11_156 : N11.1 156 = upd (M.1 156) (6 + p.ct 0) 0 := (tN11.2.1 156 (by decide)).trans cN10_156
              have xN11 : N11.1 149 21 = N10.1 149 21 ∧ N11.1 149 22 = N10.1 149 22 ∧ (N11.1 149 33 = N10.1 149 33 ∧ N11.1 149 30 = N10.1 149 30) ∧ N11.1 149 34 = N10.1 149 34 := ⟨tN11.2.2 21 (by omega), tN11.2.2 22 (by omega), ⟨tN11.2.2 33 (by omega), tN11.2.2 30 (by omega)⟩, tN11.2.2 34 (by omega)⟩
              have XN11 := (⟨xN11.1.trans XN10.1, xN11.2.1.trans XN10.2.1, ⟨xN11.2.2.1.1.trans XN10.2.2.1.1, xN11.2.2.1.2.trans XN10.2.2.1.2⟩, xN11.2.2.2.trans XN10.2.2.2⟩ : N11.1 149 21 = M.1 149 21 ∧ N11.1 149 22 = M.1 149 22 ∧ (N11.1 149 33 = M.1 149 33 ∧ N11.1 149 30 = M.1 149 30) ∧ N11.1 149 34 = M.1 149 34)
              have hRN11 : RW ly N11.2.2 := by rw [rN11.1]; exact hR
              refine Rn.iastN (k0 := (6 + p.ct 0)) dX12_walkerLine_169 (rc157 hRN11) (by omega) (by decide) ?_
              obtain ⟨N12, eN12⟩ : ∃ N9, N9 = sI N11 157 (upd (N11.1 157) (6 + p.ct 0) (nvF f n (nx f n (nx f n (nx f n (nx f n (nx f n (nx f n i)))))))) := ⟨_, rfl⟩
              rw [← eN12]
              have fN12 : rlF N11 N12 := by rw [eN12]; exact rlF.r (by decide) ⟨by decide, by decide, by show 6 ≤ _; omega⟩
              have rN12 : rlF M N12 := rN11.tr fN12
              have oN12 : ∀ a, a ≠ 149 → a ≠ 152 → a ≠ 153 → a ≠ 154 → a ≠ 155 → a ≠ 156 → a ≠ 157 → N12.1 a = M.1 a := fun a a0 a152 a153 a154 a155 a156 a157 => by rw [eN12, sI_ne a157]; exact oN11 a a0 a152 a153 a154 a155 a156
              have cN12_152 : N12.1 152 = upd (M.1 152) (6 + p.ct 0) (nvF f n (nx f n i)) := by rw [eN12, sI_ne (by decide)]; exact cN11_152
              have cN12_153 : N12.1 153 = upd (M.1 153) (6 + p.ct 0) (nvF f n (nx f n (nx f n i))) := by rw [eN12, sI_ne (by decide)]; exact cN11_153
              have cN12_154 : N12.1 154 = upd (M.1 154) (6 + p.ct 0) (nvF f n (nx f n (nx f n (nx f n i)))) := by rw [eN12, sI_ne (by decide)]; exact cN11_154
              have cN12_155 : N12.1 155 = upd (M.1 155) (6 + p.ct 0) (nvF f n (nx f n (nx f n (nx f n (nx f n i))))) := by rw [eN12, sI_ne (by decide)]; exact cN11_155
              have cN12_156 : N12.1 156 = upd (M.1 156) (6 + p.ct 0) 0 := by rw [eN12, sI_ne (by decide)]; exact cN11_156
              have cN12_157 : N12.1 157 = upd (M.1 157) (6 + p.ct 0) (nvF f n (nx f n (nx f n (nx f n (nx f n (nx f n (nx f n i))))))) := by rw [eN12, sI_at]; exact congrArg (fun r9 => upd r9 _ _) (oN11 157 (by decide) (by decide) (by decide) (by decide) (by decide) (by decide))
              have yN12 : N12.1 149 = N11.1 149 := by rw [eN12]; exact sI_ne (by decide)
              have xN12 : N12.1 149 21 = N11.1 149 21 ∧ N12.1 149 22 = N11.1 149 22 ∧ (N12.1 149 33 = N11.1 149 33 ∧ N12.1 149 30 = N11.1 149 30) ∧ N12.1 149 34 = N11.1 149 34 := by rw [yN12]; exact ⟨rfl, rfl, ⟨rfl, rfl⟩, rfl⟩
              have wN12 : N12.1 150 = N11.1 150 := by rw [eN12]; exact sI_ne (by decide)
              clear eN12
              have XN12 := (⟨xN12.1.trans XN11.1, xN12.2.1.trans XN11.2.1, ⟨xN12.2.2.1.1.trans XN11.2.2.1.1, xN12.2.2.1.2.trans XN11.2.2.1.2⟩, xN12.2.2.2.trans XN11.2.2.2⟩ : N12.1 149 21 = M.1 149 21 ∧ N12.1 149 22 = M.1 149 22 ∧ (N12.1 149 33 = M.1 149 33 ∧ N12.1 149 30 = M.1 149 30) ∧ N12.1 149 34 = M.1 149 34)
              have hRN12 : RW ly N12.2.2 := by rw [rN12.1]; exact hR
              have zN12 : RDz N12 f n (nx f n (nx f n (nx f n (nx f n (nx f n (nx f n (nx f n i))))))) := zN11.of (by rw [yN12]; exact ⟨rfl, rfl, rfl, rfl, rfl, rfl⟩) wN12
              refine Rn.aload_n dX12_walkerLine_170 rfl ?_
              refine Rn.iconstv (v := 1) dX12_walkerLine_171 ic_1 ?_
              refine Rn.putZ dX12_walkerLine_172 fX12_258 rfl rfl rfl (by decide) (rc149 hRN12) ?_
              obtain ⟨N13, eN13⟩ : ∃ N9, N9 = sI N12 149 (upd (N12.1 149) 22 1) := ⟨_, rfl⟩
              rw [← eN13]
              have rN13 : rlF M N13 := by rw [eN13]; exact rN12.tr (rlF.f (fun j hj => pk_un (by omega)))
              have oN13 : ∀ a, a ≠ 149 → a ≠ 152 → a ≠ 153 → a ≠ 154 → a ≠ 155 → a ≠ 156 → a ≠ 157 → N13.1 a = M.1 a := fun a a0 a152 a153 a154 a155 a156 a157 => by rw [eN13, sI_ne a0]; exact oN12 a a0 a152 a153 a154 a155 a156 a157
              have cN13_152 : N13.1 152 = upd (M.1 152) (6 + p.ct 0) (nvF f n (nx f n i)) := by rw [eN13, sI_ne (by decide)]; exact cN12_152
              have cN13_153 : N13.1 153 = upd (M.1 153) (6 + p.ct 0) (nvF f n (nx f n (nx f n i))) := by rw [eN13, sI_ne (by decide)]; exact cN12_153
              have cN13_154 : N13.1 154 = upd (M.1 154) (6 + p.ct 0) (nvF f n (nx f n (nx f n (nx f n i)))) := by rw [eN13, sI_ne (by decide)]; exact cN12_154
              have cN13_155 : N13.1 155 = upd (M.1 155) (6 + p.ct 0) (nvF f n (nx f n (nx f n (nx f n (nx f n i))))) := by rw [eN13, sI_ne (by decide)]; exact cN12_155
              have cN13_156 : N13.1 156 = upd (M.1 156) (6 + p.ct 0) 0 := by rw [eN13, sI_ne (by decide)]; exact cN12_156
              have cN13_157 : N13.1 157 = upd (M.1 157) (6 + p.ct 0) (nvF f n (nx f n (nx f n (nx f n (nx f n (nx f n (nx f n i))))))) := by rw [eN13, sI_ne (by decide)]; exact cN12_157
              have XN13 : N13.1 149 21 = M.1 149 21 ∧ N13.1 149 22 = 1 ∧ (N13.1 149 33 = M.1 149 33 ∧ N13.1 149 30 = M.1 149 30) ∧ N13.1 149 34 = M.1 149 34 := by rw [eN13]; exact ⟨XN12.1, rfl, XN12.2.2.1, XN12.2.2.2⟩
              have zN13 : RDz N13 f n (nx f n (nx f n (nx f n (nx f n (nx f n (nx f n (nx f n i))))))) := zN12.of (by rw [eN13]; exact ⟨rfl, rfl, rfl, rfl, rfl, rfl⟩) (by rw [eN13]; rfl)
              clear eN13
              have hRN13 : RW ly N13.2.2 := by rw [rN13.1]; exact hR
              refine Rn.aload_n dX12_walkerLine_175 rfl ?_
              refine Rn.bipushv (v := 6) dX12_walkerLine_176 bp_6 ?_
              refine Rn.aload_n dX12_walkerLine_178 rfl ?_
              refine Rn.bipushv (v := 6) dX12_walkerLine_179 bp_6 ?_
              refine Rn.callV1 dX12_walkerLine_181 vX12_245 (rc149 hRN13) (by decide) rfl (tX12_fresher (M := N13) (k := 6) (by decide) hRN13) (by omega) ⟨(Nat.le_of_ble_eq_true rfl), (Nat.le_of_ble_eq_true rfl), (Nat.le_of_ble_eq_true rfl)⟩ (fun h => by cases h) (fun v1 ly1 M1 ⟨q1, q2, q3⟩ => ?_)
              rw [q1, q2, q3]
              refine Rn.topI (y := nI (p.ct 0)) (show N13.1 151 (13 + 6) = nI (p.ct 0) from (congrFun (oN13 151 (by decide) (by decide) (by decide) (by decide) (by decide) (by decide) (by decide)) 19).trans h150_) ?_
              refine Rn.iconstv (v := 1) dX12_walkerLine_184 ic_1 ?_
              refine Rn.iadd dX12_walkerLine_185 ?_
              refine Rn.topI (y := nI (p.ct 0 + 1)) (nI_add (p.ct 0) 1) ?_
              refine Rn.callV2 dX12_walkerLine_186 vX12_265 (rc149 hRN13) (by decide) rfl (tX12_reads (M := N13) (k := 6) (x := nI (p.ct 0 + 1)) (by decide) hRN13) (by omega) ⟨(Nat.le_of_ble_eq_true rfl), (Nat.le_of_ble_eq_true rfl), (Nat.le_of_ble_eq_true rfl)⟩ (fun h => by cases h) (fun v1 ly1 M1 ⟨q1, q2, q3⟩ => ?_)
              rw [q1, q2, q3]
              obtain ⟨N14, eN14⟩ : ∃ N9, N9 = sI N13 151 (upd (N13.1 151) (13 + 6) (nI (p.ct 0 + 1))) := ⟨_, rfl⟩
              rw [← eN14]
              have fN14 : rlF N13 N14 := by rw [eN14]; exact rlF.r (by decide) ⟨by decide, by decide, by show 13 ≤ _; omega⟩
              have rN14 : rlF M N14 := rN13.tr fN14
              have oN14 : ∀ a, a ≠ 149 → a ≠ 152 → a ≠ 153 → a ≠ 154 → a ≠ 155 → a ≠ 156 → a ≠ 157 → a ≠ 151 → N14.1 a = M.1 a := fun a a0 a152 a153 a154 a155 a156 a157 a151 => by rw [eN14, sI_ne a151]; exact oN13 a a0 a152 a153 a154 a155 a156 a157
              have cN14_152 : N14.1 152 = upd (M.1 152) (6 + p.ct 0) (nvF f n (nx f n i)) := by rw [eN14, sI_ne (by decide)]; exact cN13_152
              have cN14_153 : N14.1 153 = upd (M.1 153) (6 + p.ct 0) (nvF f n (nx f n (nx f n i))) := by rw [eN14, sI_ne (by decide)]; exact cN13_153
              have cN14_154 : N14.1 154 = upd (M.1 154) (6 + p.ct 0) (nvF f n (nx f n (nx f n (nx f n i)))) := by rw [eN14, sI_ne (by decide)]; exact cN13_154
              have cN14_155 : N14.1 155 = upd (M.1 155) (6 + p.ct 0) (nvF f n (nx f n (nx f n (nx f n (nx f n i))))) := by rw [eN14, sI_ne (by decide)]; exact cN13_155
              have cN14_156 : N14.1 156 = upd (M.1 156) (6 + p.ct 0) 0 := by rw [eN14, sI_ne (by decide)]; exact cN13_156
              have cN14_157 : N14.1 157 = upd (M.1 157) (6 + p.ct 0) (nvF f n (nx f n (nx f n (nx f n (nx f n (nx f n (nx f n i))))))) := by rw [eN14, sI_ne (by decide)]; exact cN13_157
              have cN14_151 : N14.1 151 = upd (M.1 151) (13 + 6) (nI (p.ct 0 + 1)) := by rw [eN14, sI_at]; exact congrArg (fun r9 => upd r9 _ _) (oN13 151 (by decide) (by decide) (by decide) (by decide) (by decide) (by decide) (by decide))
              have yN14 : N14.1 149 = N13.1 149 := by rw [eN14]; exact sI_ne (by decide)
              have xN14 : N14.1 149 21 = N13.1 149 21 ∧ N14.1 149 22 = N13.1 149 22 ∧ (N14.1 149 33 = N13.1 149 33 ∧ N14.1 149 30 = N13.1 149 30) ∧ N14.1 149 34 = N13.1 149 34 := by rw [yN14]; exact ⟨rfl, rfl, ⟨rfl, rfl⟩, rfl⟩
              have wN14 : N14.1 150 = N13.1 150 := by rw [eN14]; exact sI_ne (by decide)
              clear eN14
              have XN14 := (⟨xN14.1.trans XN13.1, xN14.2.1.trans XN13.2.1, ⟨xN14.2.2.1.1.trans XN13.2.2.1.1, xN14.2.2.1.2.trans XN13.2.2.1.2⟩, xN14.2.2.2.trans XN13.2.2.2⟩ : N14.1 149 21 = M.1 149 21 ∧ N14.1 149 22 = 1 ∧ (N14.1 149 33 = M.1 149 33 ∧ N14.1 149 30 = M.1 149 30) ∧ N14.1 149 34 = M.1 149 34)
              have hRN14 : RW ly N14.2.2 := by rw [rN14.1]; exact hR
              have zN14 : RDz N14 f n (nx f n (nx f n (nx f n (nx f n (nx f n (nx f n (nx f n i))))))) := zN13.of (by rw [yN14]; exact ⟨rfl, rfl, rfl, rfl, rfl, rfl⟩) wN14
              have hres : lnW (kdF f n) (nvF f n) (nx f n) p i = .inl (addW p (nvF f n (nx f n i)) (nvF f n (nx f n (nx f n i))) (nvF f n (nx f n (nx f n (nx f n i)))) (nvF f n (nx f n (nx f n (nx f n (nx f n i))))) 0 (nvF f n (nx f n (nx f n (nx f n (nx f n (nx f n (nx f n i))))))) true, nx f n (nx f n (nx f n (nx f n (nx f n (nx f n (nx f n i))))))) := (if_neg hne).trans ((qK_0 zN1a).trans ((qK_0 zN3a).trans ((qK_0 zN5a).trans ((qK_0 zN7a).trans ((if_pos h13).trans (qK_0 zN11a))))))
              have hrow : ∀ r, 1 ≤ r → r ≤ 13 → knD r = 0 → (∀ j, j ≠ rOf 0 + p.ct 0 → N14.1 (rCl r) j = M.1 (rCl r) j) ∧ ((r = 9 → (addW p (nvF f n (nx f n i)) (nvF f n (nx f n (nx f n i))) (nvF f n (nx f n (nx f n (nx f n i)))) (nvF f n (nx f n (nx f n (nx f n (nx f n i))))) 0 (nvF f n (nx f n (nx f n (nx f n (nx f n (nx f n (nx f n i))))))) true).1 8 (p.ct 0) = 0) → N14.1 (rCl r) (rOf 0 + p.ct 0) = (addW p (nvF f n (nx f n i)) (nvF f n (nx f n (nx f n i))) (nvF f n (nx f n (nx f n (nx f n i)))) (nvF f n (nx f n (nx f n (nx f n (nx f n i))))) 0 (nvF f n (nx f n (nx f n (nx f n (nx f n (nx f n (nx f n i))))))) true).1 r (p.ct 0)) := by
                intro r r1 r2 hk9
                match r, r1, r2 with
                | 1, _, _ => exact ⟨fun j hj => (congrFun cN14_152 j).trans (pk_un hj), fun _ => (congrFun cN14_152 _).trans (pk_us.trans (show _ = (addW p (nvF f n (nx f n i)) (nvF f n (nx f n (nx f n i))) (nvF f n (nx f n (nx f n (nx f n i)))) (nvF f n (nx f n (nx f n (nx f n (nx f n i))))) 0 (nvF f n (nx f n (nx f n (nx f n (nx f n (nx f n (nx f n i))))))) true).1 1 (p.ct 0) from pk_us.symm))⟩
                | 2, _, _ => exact absurd hk9 (by decide)
                | 3, _, _ => exact absurd hk9 (by decide)
                | 4, _, _ => exact absurd hk9 (by decide)
                | 5, _, _ => exact ⟨fun j hj => (congrFun cN14_153 j).trans (pk_un hj), fun _ => (congrFun cN14_153 _).trans (pk_us.trans (show _ = (addW p (nvF f n (nx f n i)) (nvF f n (nx f n (nx f n i))) (nvF f n (nx f n (nx f n (nx f n i)))) (nvF f n (nx f n (nx f n (nx f n (nx f n i))))) 0 (nvF f n (nx f n (nx f n (nx f n (nx f n (nx f n (nx f n i))))))) true).1 5 (p.ct 0) from pk_us.symm))⟩
                | 6, _, _ => exact ⟨fun j hj => (congrFun cN14_154 j).trans (pk_un hj), fun _ => (congrFun cN14_154 _).trans (pk_us.trans (show _ = (addW p (nvF f n (nx f n i)) (nvF f n (nx f n (nx f n i))) (nvF f n (nx f n (nx f n (nx f n i)))) (nvF f n (nx f n (nx f n (nx f n (nx f n i))))) 0 (nvF f n (nx f n (nx f n (nx f n (nx f n (nx f n (nx f n i))))))) true).1 6 (p.ct 0) from pk_us.symm))⟩
                | 7, _, _ => exact ⟨fun j hj => (congrFun cN14_155 j).trans (pk_un hj), fun _ => (congrFun cN14_155 _).trans (pk_us.trans (show _ = (addW p (nvF f n (nx f n i)) (nvF f n (nx f n (nx f n i))) (nvF f n (nx f n (nx f n (nx f n i)))) (nvF f n (nx f n (nx f n (nx f n (nx f n i))))) 0 (nvF f n (nx f n (nx f n (nx f n (nx f n (nx f n (nx f n i))))))) true).1 7 (p.ct 0) from pk_us.symm))⟩
                | 8, _, _ => exact ⟨fun j hj => (congrFun cN14_156 j).trans (pk_un hj), fun _ => (congrFun cN14_156 _).trans (pk_us.trans (show _ = (addW p (nvF f n (nx f n i)) (nvF f n (nx f n (nx f n i))) (nvF f n (nx f n (nx f n (nx f n i)))) (nvF f n (nx f n (nx f n (nx f n (nx f n i))))) 0 (nvF f n (nx f n (nx f n (nx f n (nx f n (nx f n (nx f n i))))))) true).1 8 (p.ct 0) from pk_us.symm))⟩
                | 9, _, _ => exact ⟨fun j hj => (congrFun cN14_157 j).trans (pk_un hj), fun _ => (congrFun cN14_157 _).trans (pk_us.trans (show _ = (addW p (nvF f n (nx f n i)) (nvF f n (nx f n (nx f n i))) (nvF f n (nx f n (nx f n (nx f n i)))) (nvF f n (nx f n (nx f n (nx f n (nx f n i))))) 0 (nvF f n (nx f n (nx f n (nx f n (nx f n (nx f n (nx f n i))))))) true).1 9 (p.ct 0) from pk_us.symm))⟩
                | 10, _, _ => exact absurd hk9 (by decide)
                | 11, _, _ => exact absurd hk9 (by decide)
                | 12, _, _ => exact absurd hk9 (by decide)
                | 13, _, _ => exact absurd hk9 (by decide)
              have hrow2 : ∀ r, 1 ≤ r → r ≤ 13 → knD r ≠ 0 → N14.1 (rCl r) = M.1 (rCl r) := by
                intro r r1 r2 hk9
                match r, r1, r2 with
                | 1, _, _ => exact absurd rfl hk9
                | 2, _, _ => exact oN14 158 (by decide) (by decide) (by decide) (by decide) (by decide) (by decide) (by decide) (by decide)
                | 3, _, _ => exact oN14 161 (by decide) (by decide) (by decide) (by decide) (by decide) (by decide) (by decide) (by decide)
                | 4, _, _ => exact oN14 164 (by decide) (by decide) (by decide) (by decide) (by decide) (by decide) (by decide) (by decide)
                | 5, _, _ => exact absurd rfl hk9
                | 6, _, _ => exact absurd rfl hk9
                | 7, _, _ => exact absurd rfl hk9
                | 8, _, _ => exact absurd rfl hk9
                | 9, _, _ => exact absurd rfl hk9
                | 10, _, _ => exact oN14 159 (by decide) (by decide) (by decide) (by decide) (by decide) (by decide) (by decide) (by decide)
                | 11, _, _ => exact oN14 160 (by decide) (by decide) (by decide) (by decide) (by decide) (by decide) (by decide) (by decide)
                | 12, _, _ => exact oN14 162 (by decide) (by decide) (by decide) (by decide) (by decide) (by decide) (by decide) (by decide)
                | 13, _, _ => exact oN14 163 (by decide) (by decide) (by decide) (by decide) (by decide) (by decide) (by decide) (by decide)
              have hD2 : ∀ r j, 1 ≤ r → r ≤ 13 → (knD r ≠ 0 ∨ j < p.ct 0) → (addW p (nvF f n (nx f n i)) (nvF f n (nx f n (nx f n i))) (nvF f n (nx f n (nx f n (nx f n i)))) (nvF f n (nx f n (nx f n (nx f n (nx f n i))))) 0 (nvF f n (nx f n (nx f n (nx f n (nx f n (nx f n (nx f n i))))))) true).1 r j = p.D r j := fun r j _ _ h9 => (set2_k (a := 9) rfl h9).trans ((set2_k (a := 8) rfl h9).trans ((set2_k (a := 7) rfl h9).trans ((set2_k (a := 6) rfl h9).trans ((set2_k (a := 5) rfl h9).trans ((set2_k (a := 1) rfl h9).trans (rfl))))))
              have hPN : RPl N14 (addW p (nvF f n (nx f n i)) (nvF f n (nx f n (nx f n i))) (nvF f n (nx f n (nx f n (nx f n i)))) (nvF f n (nx f n (nx f n (nx f n (nx f n i))))) 0 (nvF f n (nx f n (nx f n (nx f n (nx f n (nx f n (nx f n i))))))) true) := RPl.add (k := 0) hP (by decide) rfl cN14_151 hrow hrow2 hD2 ⟨oN14 165 (by decide) (by decide) (by decide) (by decide) (by decide) (by decide) (by decide) (by decide), oN14 166 (by decide) (by decide) (by decide) (by decide) (by decide) (by decide) (by decide) (by decide), oN14 167 (by decide) (by decide) (by decide) (by decide) (by decide) (by decide) (by decide) (by decide), oN14 168 (by decide) (by decide) (by decide) (by decide) (by decide) (by decide) (by decide) (by decide)⟩
              exact Rn.vret dX12_walkerLine_189 rfl ⟨rfl, rfl, rN14, Or.inl ⟨_, _, hres, zN14.1, zN14.2.1, zN14.2.2, ⟨XN14.2.2.1.1.trans h33.1, XN14.2.2.1.2.trans h33.2⟩, XN14.2.2.2.trans h34, by rw [XN14.1]; exact hbw, XN14.2.1, hPN, ⟨h6, hct.2.1, hct.2.2.1, hct.2.2.2.1, hct.2.2.2.2.1, hct.2.2.2.2.2⟩⟩⟩
            · skip
              rw [q1]
              have rN11 : rlF M N11 := rN10.tr gN11
              have hRN11 : RW ly N11.2.2 := by rw [rN11.1]; exact hR
              have hf9 : ¬ N11.1 149 29 = 0 := by rw [hfa.1]; exact hfa.2.1
              refine Rn.iastN (k0 := (6 + p.ct 0)) dX12_walkerLine_169 (rc157 hRN11) (by omega) (by decide) ?_
              refine Rn.aload_n dX12_walkerLine_170 rfl ?_
              refine Rn.iconstv (v := 1) dX12_walkerLine_171 ic_1 ?_
              refine Rn.putZ dX12_walkerLine_172 fX12_258 rfl rfl rfl (by decide) (rc149 hRN11) ?_
              refine Rn.aload_n dX12_walkerLine_175 rfl ?_
              refine Rn.bipushv (v := 6) dX12_walkerLine_176 bp_6 ?_
              refine Rn.aload_n dX12_walkerLine_178 rfl ?_
              refine Rn.bipushv (v := 6) dX12_walkerLine_179 bp_6 ?_
              show Rn G l mX12_walkerLine (9, 0, 0, false) 181 [some (.ref 149), some (.int (nI (6 + p.ct 0)))] [.int 6, .ref 149, .int 6, .ref 149] ly (sI (sI N11 157 (upd (N11.1 157) (6 + p.ct 0) 0)) 149 (upd (N11.1 149) 22 1)) (rsP ly M f n (lnW (kdF f n) (nvF f n) (nx f n) p i))
              obtain ⟨F15, eF15⟩ : ∃ N9, N9 = sI (sI N11 157 (upd (N11.1 157) (6 + p.ct 0) 0)) 149 (upd (N11.1 149) 22 1) := ⟨_, rfl⟩
              rw [← eF15]
              have rF15 : rlF M F15 := by rw [eF15]; exact ((rN11).tr (rlF.r (by decide) ⟨by decide, by decide, by show 6 ≤ _; omega⟩)).tr (rlF.f (fun j hj => (pk_un (by omega)).trans (rfl)))
              have gF15 : F15.1 149 29 = N11.1 149 29 ∧ F15.1 149 30 = N11.1 149 30 := by rw [eF15]; exact ⟨rfl, rfl⟩
              clear eF15
              have hfaF15 : faR f n F15 _ _ := ⟨gF15.1.trans hfa.1, hfa.2.1, gF15.2.trans hfa.2.2⟩
              have hf9 : ¬ F15.1 149 29 = 0 := by rw [hfaF15.1]; exact hfaF15.2.1
              have hRF15 : RW ly F15.2.2 := by rw [rF15.1]; exact hR
              refine Rn.callV1 dX12_walkerLine_181 vX12_245 (rc149 hRF15) (by decide) rfl (tX12_fresher (M := F15) (k := 6) (by decide) hRF15) (by omega) ⟨(Nat.le_of_ble_eq_true rfl), (Nat.le_of_ble_eq_true rfl), (Nat.le_of_ble_eq_true rfl)⟩ (fun h => by cases h) (fun v1 ly1 M1 ⟨q1, q2, q3⟩ => ?_)
              rw [q1, q2, q3]
              refine Rn.iconstv (v := 1) dX12_walkerLine_184 ic_1 ?_
              refine Rn.iadd dX12_walkerLine_185 ?_
              refine Rn.callV2 dX12_walkerLine_186 vX12_265 (rc149 hRF15) (by decide) rfl (tX12_reads (M := F15) (k := 6) (x := (F15.1 151 (13 + 6)) + 1) (by omega) hRF15) (by omega) ⟨(Nat.le_of_ble_eq_true rfl), (Nat.le_of_ble_eq_true rfl), (Nat.le_of_ble_eq_true rfl)⟩ (fun h => by cases h) (fun v1 ly1 M1 ⟨q1, q2, q3⟩ => ?_)
              rw [q1, q2, q3]
              exact Rn.vret dX12_walkerLine_189 rfl ⟨rfl, rfl, (rF15).tr (rlF.r (by decide) ⟨by decide, by decide, by show 13 ≤ _; omega⟩), Or.inr ⟨_, _, (if_neg hne).trans ((qK_0 zN1a).trans ((qK_0 zN3a).trans ((qK_0 zN5a).trans ((qK_0 zN7a).trans ((if_pos h13).trans (qK_n zN11a)))))), hfaF15⟩⟩
          · skip
            by_cases h11 : kdF f n (nx f n (nx f n (nx f n (nx f n (nx f n i))))) = 11
            · skip
              have hsv := (htc.1.w (w := 11) (by decide)).mpr (htc.2.1.trans h11)
              refine Rn.aload_n dX12_walkerLine_68 rfl ?_
              refine Rn.getI dX12_walkerLine_69 fX12_188 rfl (rc149 hRN8) ?_
              refine Rn.topI (y := 0) (hsv.1) ?_
              refine Rn.if_ne dX12_walkerLine_72 (fun h9 => (by first | exact absurd h9 (by decide) | exact absurd (by decide) h9)) (fun h9 => ?_)
              refine Rn.aload_n dX12_walkerLine_75 rfl ?_
              refine Rn.getI dX12_walkerLine_76 fX12_198 rfl (rc149 hRN8) ?_
              refine Rn.topI (y := 11) (hsv.2) ?_
              refine Rn.bipushv (v := 11) dX12_walkerLine_79 bp_11 ?_
              refine Rn.icmp_lt dX12_walkerLine_81 (fun h9 => (by first | exact absurd h9 (by decide) | exact absurd (by decide) h9)) (fun h9 => ?_)
              refine Rn.aload_n dX12_walkerLine_84 rfl ?_
              refine Rn.getI dX12_walkerLine_85 fX12_198 rfl (rc149 hRN8) ?_
              refine Rn.topI (y := 11) (hsv.2) ?_
              refine Rn.bipushv (v := 13) dX12_walkerLine_88 bp_13 ?_
              refine Rn.icmp_le dX12_walkerLine_90 (fun h9 => ?_) (fun h9 => (by first | exact absurd h9 (by decide) | exact absurd (by decide) h9))
              refine Rn.aload_n dX12_walkerLine_98 rfl ?_
              refine Rn.getI dX12_walkerLine_99 fX12_222 rfl (rc149 hRN8) ?_
              refine Rn.topI (y := 0) (zN8.2.2) ?_
              refine Rn.if_eq dX12_walkerLine_102 (fun h9 => ?_) (fun h9 => (by first | exact absurd h9 (by decide) | exact absurd (by decide) h9))
              refine Rn.aload_n dX12_walkerLine_106 rfl ?_
              refine Rn.getR dX12_walkerLine_107 fX12_30 rfl (rc149 hRN8) (show N8.2.2 149 8 = some 156 from (rpt8 hRN8)) ?_
              refine Rn.iload_n dX12_walkerLine_110 rfl ?_
              refine Rn.aload_n dX12_walkerLine_111 rfl ?_
              refine Rn.getI dX12_walkerLine_112 fX12_198 rfl (rc149 hRN8) ?_
              refine Rn.topI (y := 11) (hsv.2) ?_
              refine Rn.bipushv (v := 11) dX12_walkerLine_115 bp_11 ?_
              refine Rn.icmp_ne dX12_walkerLine_117 (fun h9 => (by first | exact absurd h9 (by decide) | exact absurd (by decide) h9)) (fun h9 => ?_)
              refine Rn.iconstv (v := 1) dX12_walkerLine_120 ic_1 ?_
              refine Rn.goto dX12_walkerLine_121 ?_
              refine Rn.iastN (k0 := (6 + p.ct 0)) dX12_walkerLine_138 (rc156 hRN8) (by omega) (by decide) ?_
              obtain ⟨N16, eN16⟩ : ∃ N9, N9 = sI N8 156 (upd (N8.1 156) (6 + p.ct 0) 1) := ⟨_, rfl⟩
              rw [← eN16]
              have fN16 : rlF N8 N16 := by rw [eN16]; exact rlF.r (by decide) ⟨by decide, by decide, by show 6 ≤ _; omega⟩
              have rN16 : rlF M N16 := rN8.tr fN16
              have oN16 : ∀ a, a ≠ 149 → a ≠ 152 → a ≠ 153 → a ≠ 154 → a ≠ 155 → a ≠ 156 → N16.1 a = M.1 a := fun a a0 a152 a153 a154 a155 a156 => by rw [eN16, sI_ne a156]; exact oN8 a a0 a152 a153 a154 a155
              have cN16_152 : N16.1 152 = upd (M.1 152) (6 + p.ct 0) (nvF f n (nx f n i)) := by rw [eN16, sI_ne (by decide)]; exact cN8_152
              have cN16_153 : N16.1 153 = upd (M.1 153) (6 + p.ct 0) (nvF f n (nx f n (nx f n i))) := by rw [eN16, sI_ne (by decide)]; exact cN8_153
              have cN16_154 : N16.1 154 = upd (M.1 154) (6 + p.ct 0) (nvF f n (nx f n (nx f n (nx f n i)))) := by rw [eN16, sI_ne (by decide)]; exact cN8_154
              have cN16_155 : N16.1 155 = upd (M.1 155) (6 + p.ct 0) (nvF f n (nx f n (nx f n (nx f n (nx f n i))))) := by rw [eN16, sI_ne (by decide)]; exact cN8_155
              have cN16_156 : N16.1 156 = upd (M.1 156) (6 + p.ct 0) 1 := by rw [eN16, sI_at]; exact congrArg (fun r9 => upd r9 _ _) (oN8 156 (by decide) (by decide) (by decide) (by decide) (by decide))
              have yN16 : N16.1 149 = N8.1 149 := by rw [eN16]; exact sI_ne (by decide)
              have xN16 : N16.1 149 21 = N8.1 149 21 ∧ N16.1 149 22 = N8.1 149 22 ∧ (N16.1 149 33 = N8.1 149 33 ∧ N16.1 149 30 = N8.1 149 30) ∧ N16.1 149 34 = N8.1 149 34 := by rw [yN16]; exact ⟨rfl, rfl, ⟨rfl, rfl⟩, rfl⟩
              have wN16 : N16.1 150 = N8.1 150 := by rw [eN16]; exact sI_ne (by decide)
              clear eN16
              have XN16 := (⟨xN16.1.trans XN8.1, xN16.2.1.trans XN8.2.1, ⟨xN16.2.2.1.1.trans XN8.2.2.1.1, xN16.2.2.1.2.trans XN8.2.2.1.2⟩, xN16.2.2.2.trans XN8.2.2.2⟩ : N16.1 149 21 = M.1 149 21 ∧ N16.1 149 22 = M.1 149 22 ∧ (N16.1 149 33 = M.1 149 33 ∧ N16.1 149 30 = M.1 149 30) ∧ N16.1 149 34 = M.1 149 34)
              have hRN16 : RW ly N16.2.2 := by rw [rN16.1]; exact hR
              have zN16 : RDz N16 f n (nx f n (nx f n (nx f n (nx f n (nx f n i))))) := zN8.of (by rw [yN16]; exact ⟨rfl, rfl, rfl, rfl, rfl, rfl⟩) wN16
              refine Rn.aload_n dX12_walkerLine_139 rfl ?_
              refine Rn.callV0 dX12_walkerLine_140 vX12_228 (rc149 hRN16) (by decide) rfl (rtok (M := N16) (i := nx f n (nx f n (nx f n (nx f n (nx f n i))))) zN16 hRN16) (by decide) ⟨(Nat.le_of_ble_eq_true rfl), (Nat.le_of_ble_eq_true rfl), (Nat.le_of_ble_eq_true rfl)⟩ (fun h => by cases h) (fun v1 ly1 N17 ⟨q1, q2, tN17, zN17⟩ => ?_)
              rw [q1, q2]
              have rN17 : rlF M N17 := rN16.tr (rlF.tok tN17)
              have oN17 : ∀ a, a ≠ 149 → a ≠ 152 → a ≠ 153 → a ≠ 154 → a ≠ 155 → a ≠ 156 → N17.1 a = M.1 a := fun a a0 a152 a153 a154 a155 a156 => (tN17.2.1 a a0).trans (oN16 a a0 a152 a153 a154 a155 a156)
              have cN17_152 : N17.1 152 = upd (M.1 152) (6 + p.ct 0) (nvF f n (nx f n i)) := (tN17.2.1 152 (by decide)).trans cN16_152
              have cN17_153 : N17.1 153 = upd (M.1 153) (6 + p.ct 0) (nvF f n (nx f n (nx f n i))) := (tN17.2.1 153 (by decide)).trans cN16_153
              have cN17_154 : N17.1 154 = upd (M.1 154) (6 + p.ct 0) (nvF f n (nx f n (nx f n (nx f n i)))) := (tN17.2.1 154 (by decide)).trans cN16_154
              have cN17_155 : N17.1 155 = upd (M.1 155) (6 + p.ct 0) (nvF f n (nx f n (nx f n (nx f n (nx f n i))))) := (tN17.2.1 155 (by decide)).trans cN16_155
              have cN17_156 : N17.1 156 = upd (M.1 156) (6 + p.ct 0) 1 := (tN17.2.1 156 (by decide)).trans cN16_156
              have xN17 : N17.1 149 21 = N16.1 149 21 ∧ N17.1 149 22 = N16.1 149 22 ∧ (N17.1 149 33 = N16.1 149 33 ∧ N17.1 149 30 = N16.1 149 30) ∧ N17.1 149 34 = N16.1 149 34 := ⟨tN17.2.2 21 (by omega), tN17.2.2 22 (by omega), ⟨tN17.2.2 33 (by omega), tN17.2.2 30 (by omega)⟩, tN17.2.2 34 (by omega)⟩
              have XN17 := (⟨xN17.1.trans XN16.1, xN17.2.1.trans XN16.2.1, ⟨xN17.2.2.1.1.trans XN16.2.2.1.1, xN17.2.2.1.2.trans XN16.2.2.1.2⟩, xN17.2.2.2.trans XN16.2.2.2⟩ : N17.1 149 21 = M.1 149 21 ∧ N17.1 149 22 = M.1 149 22 ∧ (N17.1 149 33 = M.1 149 33 ∧ N17.1 149 30 = M.1 149 30) ∧ N17.1 149 34 = M.1 149 34)
              have hRN17 : RW ly N17.2.2 := by rw [rN17.1]; exact hR
              refine Rn.aload_n dX12_walkerLine_143 rfl ?_
              refine Rn.getR dX12_walkerLine_144 fX12_30 rfl (rc149 hRN17) (show N17.2.2 149 8 = some 156 from (rpt8 hRN17)) ?_
              refine Rn.iload_n dX12_walkerLine_147 rfl ?_
              refine Rn.ialdN (k0 := (6 + p.ct 0)) dX12_walkerLine_148 (rc156 hRN17) (by omega) (by decide) ?_
              refine Rn.topI (y := 1) ((congrFun cN17_156 _).trans pk_us) ?_
              refine Rn.if_ne dX12_walkerLine_149 (fun h9 => ?_) (fun h9 => (by first | exact absurd h9 (by decide) | exact absurd (by decide) h9))
              refine Rn.aload_n dX12_walkerLine_175 rfl ?_
              refine Rn.bipushv (v := 6) dX12_walkerLine_176 bp_6 ?_
              refine Rn.aload_n dX12_walkerLine_178 rfl ?_
              refine Rn.bipushv (v := 6) dX12_walkerLine_179 bp_6 ?_
              refine Rn.callV1 dX12_walkerLine_181 vX12_245 (rc149 hRN17) (by decide) rfl (tX12_fresher (M := N17) (k := 6) (by decide) hRN17) (by omega) ⟨(Nat.le_of_ble_eq_true rfl), (Nat.le_of_ble_eq_true rfl), (Nat.le_of_ble_eq_true rfl)⟩ (fun h => by cases h) (fun v1 ly1 M1 ⟨q1, q2, q3⟩ => ?_)
              rw [q1, q2, q3]
              refine Rn.topI (y := nI (p.ct 0)) (show N17.1 151 (13 + 6) = nI (p.ct 0) from (congrFun (oN17 151 (by decide) (by decide) (by decide) (by decide) (by decide) (by decide)) 19).trans h150_) ?_
              refine Rn.iconstv (v := 1) dX12_walkerLine_184 ic_1 ?_
              refine Rn.iadd dX12_walkerLine_185 ?_
              refine Rn.topI (y := nI (p.ct 0 + 1)) (nI_add (p.ct 0) 1) ?_
              refine Rn.callV2 dX12_walkerLine_186 vX12_265 (rc149 hRN17) (by decide) rfl (tX12_reads (M := N17) (k := 6) (x := nI (p.ct 0 + 1)) (by decide) hRN17) (by omega) ⟨(Nat.le_of_ble_eq_true rfl), (Nat.le_of_ble_eq_true rfl), (Nat.le_of_ble_eq_true rfl)⟩ (fun h => by cases h) (fun v1 ly1 M1 ⟨q1, q2, q3⟩ => ?_)
              rw [q1, q2, q3]
              obtain ⟨N18, eN18⟩ : ∃ N9, N9 = sI N17 151 (upd (N17.1 151) (13 + 6) (nI (p.ct 0 + 1))) := ⟨_, rfl⟩
              rw [← eN18]
              have fN18 : rlF N17 N18 := by rw [eN18]; exact rlF.r (by decide) ⟨by decide, by decide, by show 13 ≤ _; omega⟩
              have rN18 : rlF M N18 := rN17.tr fN18
              have oN18 : ∀ a, a ≠ 149 → a ≠ 152 → a ≠ 153 → a ≠ 154 → a ≠ 155 → a ≠ 156 → a ≠ 151 → N18.1 a = M.1 a := fun a a0 a152 a153 a154 a155 a156 a151 => by rw [eN18, sI_ne a151]; exact oN17 a a0 a152 a153 a154 a155 a156
              have cN18_152 : N18.1 152 = upd (M.1 152) (6 + p.ct 0) (nvF f n (nx f n i)) := by rw [eN18, sI_ne (by decide)]; exact cN17_152
              have cN18_153 : N18.1 153 = upd (M.1 153) (6 + p.ct 0) (nvF f n (nx f n (nx f n i))) := by rw [eN18, sI_ne (by decide)]; exact cN17_153
              have cN18_154 : N18.1 154 = upd (M.1 154) (6 + p.ct 0) (nvF f n (nx f n (nx f n (nx f n i)))) := by rw [eN18, sI_ne (by decide)]; exact cN17_154
              have cN18_155 : N18.1 155 = upd (M.1 155) (6 + p.ct 0) (nvF f n (nx f n (nx f n (nx f n (nx f n i))))) := by rw [eN18, sI_ne (by decide)]; exact cN17_155
              have cN18_156 : N18.1 156 = upd (M.1 156) (6 + p.ct 0) 1 := by rw [eN18, sI_ne (by decide)]; exact cN17_156
              have cN18_151 : N18.1 151 = upd (M.1 151) (13 + 6) (nI (p.ct 0 + 1)) := by rw [eN18, sI_at]; exact congrArg (fun r9 => upd r9 _ _) (oN17 151 (by decide) (by decide) (by decide) (by decide) (by decide) (by decide))
              have yN18 : N18.1 149 = N17.1 149 := by rw [eN18]; exact sI_ne (by decide)
              have xN18 : N18.1 149 21 = N17.1 149 21 ∧ N18.1 149 22 = N17.1 149 22 ∧ (N18.1 149 33 = N17.1 149 33 ∧ N18.1 149 30 = N17.1 149 30) ∧ N18.1 149 34 = N17.1 149 34 := by rw [yN18]; exact ⟨rfl, rfl, ⟨rfl, rfl⟩, rfl⟩
              have wN18 : N18.1 150 = N17.1 150 := by rw [eN18]; exact sI_ne (by decide)
              clear eN18
              have XN18 := (⟨xN18.1.trans XN17.1, xN18.2.1.trans XN17.2.1, ⟨xN18.2.2.1.1.trans XN17.2.2.1.1, xN18.2.2.1.2.trans XN17.2.2.1.2⟩, xN18.2.2.2.trans XN17.2.2.2⟩ : N18.1 149 21 = M.1 149 21 ∧ N18.1 149 22 = M.1 149 22 ∧ (N18.1 149 33 = M.1 149 33 ∧ N18.1 149 30 = M.1 149 30) ∧ N18.1 149 34 = M.1 149 34)
              have hRN18 : RW ly N18.2.2 := by rw [rN18.1]; exact hR
              have zN18 : RDz N18 f n (nx f n (nx f n (nx f n (nx f n (nx f n (nx f n i)))))) := zN17.of (by rw [yN18]; exact ⟨rfl, rfl, rfl, rfl, rfl, rfl⟩) wN18
              have hwy : (if kdF f n (nx f n (nx f n (nx f n (nx f n (nx f n i))))) = 12 then -1 else 1) = (1 : Int32) := if_neg (by rw [h11]; decide)
              have hres : lnW (kdF f n) (nvF f n) (nx f n) p i = .inl (addW p (nvF f n (nx f n i)) (nvF f n (nx f n (nx f n i))) (nvF f n (nx f n (nx f n (nx f n i)))) (nvF f n (nx f n (nx f n (nx f n (nx f n i))))) 1 0 p.hc, nx f n (nx f n (nx f n (nx f n (nx f n (nx f n i)))))) := by rw [← hwy]; exact (if_neg hne).trans ((qK_0 zN1a).trans ((qK_0 zN3a).trans ((qK_0 zN5a).trans ((qK_0 zN7a).trans ((if_neg h13).trans (if_pos (Or.inl h11)))))))
              have hrow : ∀ r, 1 ≤ r → r ≤ 13 → knD r = 0 → (∀ j, j ≠ rOf 0 + p.ct 0 → N18.1 (rCl r) j = M.1 (rCl r) j) ∧ ((r = 9 → (addW p (nvF f n (nx f n i)) (nvF f n (nx f n (nx f n i))) (nvF f n (nx f n (nx f n (nx f n i)))) (nvF f n (nx f n (nx f n (nx f n (nx f n i))))) 1 0 p.hc).1 8 (p.ct 0) = 0) → N18.1 (rCl r) (rOf 0 + p.ct 0) = (addW p (nvF f n (nx f n i)) (nvF f n (nx f n (nx f n i))) (nvF f n (nx f n (nx f n (nx f n i)))) (nvF f n (nx f n (nx f n (nx f n (nx f n i))))) 1 0 p.hc).1 r (p.ct 0)) := by
                intro r r1 r2 hk9
                match r, r1, r2 with
                | 1, _, _ => exact ⟨fun j hj => (congrFun cN18_152 j).trans (pk_un hj), fun _ => (congrFun cN18_152 _).trans (pk_us.trans (show _ = (addW p (nvF f n (nx f n i)) (nvF f n (nx f n (nx f n i))) (nvF f n (nx f n (nx f n (nx f n i)))) (nvF f n (nx f n (nx f n (nx f n (nx f n i))))) 1 0 p.hc).1 1 (p.ct 0) from pk_us.symm))⟩
                | 2, _, _ => exact absurd hk9 (by decide)
                | 3, _, _ => exact absurd hk9 (by decide)
                | 4, _, _ => exact absurd hk9 (by decide)
                | 5, _, _ => exact ⟨fun j hj => (congrFun cN18_153 j).trans (pk_un hj), fun _ => (congrFun cN18_153 _).trans (pk_us.trans (show _ = (addW p (nvF f n (nx f n i)) (nvF f n (nx f n (nx f n i))) (nvF f n (nx f n (nx f n (nx f n i)))) (nvF f n (nx f n (nx f n (nx f n (nx f n i))))) 1 0 p.hc).1 5 (p.ct 0) from pk_us.symm))⟩
                | 6, _, _ => exact ⟨fun j hj => (congrFun cN18_154 j).trans (pk_un hj), fun _ => (congrFun cN18_154 _).trans (pk_us.trans (show _ = (addW p (nvF f n (nx f n i)) (nvF f n (nx f n (nx f n i))) (nvF f n (nx f n (nx f n (nx f n i)))) (nvF f n (nx f n (nx f n (nx f n (nx f n i))))) 1 0 p.hc).1 6 (p.ct 0) from pk_us.symm))⟩
                | 7, _, _ => exact ⟨fun j hj => (congrFun cN18_155 j).trans (pk_un hj), fun _ => (congrFun cN18_155 _).trans (pk_us.trans (show _ = (addW p (nvF f n (nx f n i)) (nvF f n (nx f n (nx f n i))) (nvF f n (nx f n (nx f n (nx f n i)))) (nvF f n (nx f n (nx f n (nx f n (nx f n i))))) 1 0 p.hc).1 7 (p.ct 0) from pk_us.symm))⟩
                | 8, _, _ => exact ⟨fun j hj => (congrFun cN18_156 j).trans (pk_un hj), fun _ => (congrFun cN18_156 _).trans (pk_us.trans (show _ = (addW p (nvF f n (nx f n i)) (nvF f n (nx f n (nx f n i))) (nvF f n (nx f n (nx f n (nx f n i)))) (nvF f n (nx f n (nx f n (nx f n (nx f n i))))) 1 0 p.hc).1 8 (p.ct 0) from pk_us.symm))⟩
                | 9, _, _ => exact ⟨fun j _ => congrFun (oN18 157 (by decide) (by decide) (by decide) (by decide) (by decide) (by decide) (by decide)) j, fun g => absurd ((show (addW p (nvF f n (nx f n i)) (nvF f n (nx f n (nx f n i))) (nvF f n (nx f n (nx f n (nx f n i)))) (nvF f n (nx f n (nx f n (nx f n (nx f n i))))) 1 0 p.hc).1 8 (p.ct 0) = 1 from pk_us).symm.trans (g rfl)) (by decide)⟩
                | 10, _, _ => exact absurd hk9 (by decide)
                | 11, _, _ => exact absurd hk9 (by decide)
                | 12, _, _ => exact absurd hk9 (by decide)
                | 13, _, _ => exact absurd hk9 (by decide)
              have hrow2 : ∀ r, 1 ≤ r → r ≤ 13 → knD r ≠ 0 → N18.1 (rCl r) = M.1 (rCl r) := by
                intro r r1 r2 hk9
                match r, r1, r2 with
                | 1, _, _ => exact absurd rfl hk9
                | 2, _, _ => exact oN18 158 (by decide) (by decide) (by decide) (by decide) (by decide) (by decide) (by decide)
                | 3, _, _ => exact oN18 161 (by decide) (by decide) (by decide) (by decide) (by decide) (by decide) (by decide)
                | 4, _, _ => exact oN18 164 (by decide) (by decide) (by decide) (by decide) (by decide) (by decide) (by decide)
                | 5, _, _ => exact absurd rfl hk9
                | 6, _, _ => exact absurd rfl hk9
                | 7, _, _ => exact absurd rfl hk9
                | 8, _, _ => exact absurd rfl hk9
                | 9, _, _ => exact absurd rfl hk9
                | 10, _, _ => exact oN18 159 (by decide) (by decide) (by decide) (by decide) (by decide) (by decide) (by decide)
                | 11, _, _ => exact oN18 160 (by decide) (by decide) (by decide) (by decide) (by decide) (by decide) (by decide)
                | 12, _, _ => exact oN18 162 (by decide) (by decide) (by decide) (by decide) (by decide) (by decide) (by decide)
                | 13, _, _ => exact oN18 163 (by decide) (by decide) (by decide) (by decide) (by decide) (by decide) (by decide)
              have hD2 : ∀ r j, 1 ≤ r → r ≤ 13 → (knD r ≠ 0 ∨ j < p.ct 0) → (addW p (nvF f n (nx f n i)) (nvF f n (nx f n (nx f n i))) (nvF f n (nx f n (nx f n (nx f n i)))) (nvF f n (nx f n (nx f n (nx f n (nx f n i))))) 1 0 p.hc).1 r j = p.D r j := fun r j _ _ h9 => (set2_k (a := 9) rfl h9).trans ((set2_k (a := 8) rfl h9).trans ((set2_k (a := 7) rfl h9).trans ((set2_k (a := 6) rfl h9).trans ((set2_k (a := 5) rfl h9).trans ((set2_k (a := 1) rfl h9).trans (rfl))))))
              have hPN : RPl N18 (addW p (nvF f n (nx f n i)) (nvF f n (nx f n (nx f n i))) (nvF f n (nx f n (nx f n (nx f n i)))) (nvF f n (nx f n (nx f n (nx f n (nx f n i))))) 1 0 p.hc) := RPl.add (k := 0) hP (by decide) rfl cN18_151 hrow hrow2 hD2 ⟨oN18 165 (by decide) (by decide) (by decide) (by decide) (by decide) (by decide) (by decide), oN18 166 (by decide) (by decide) (by decide) (by decide) (by decide) (by decide) (by decide), oN18 167 (by decide) (by decide) (by decide) (by decide) (by decide) (by decide) (by decide), oN18 168 (by decide) (by decide) (by decide) (by decide) (by decide) (by decide) (by decide)⟩
              exact Rn.vret dX12_walkerLine_189 rfl ⟨rfl, rfl, rN18, Or.inl ⟨_, _, hres, zN18.1, zN18.2.1, zN18.2.2, ⟨XN18.2.2.1.1.trans h33.1, XN18.2.2.1.2.trans h33.2⟩, XN18.2.2.2.trans h34, by rw [XN18.1]; exact hbw, XN18.2.1.trans h22, hPN, ⟨h6, hct.2.1, hct.2.2.1, hct.2.2.2.1, hct.2.2.2.2.1, hct.2.2.2.2.2⟩⟩⟩
            · skip
              by_cases h12 : kdF f n (nx f n (nx f n (nx f n (nx f n (nx f n i))))) = 12
              · skip
                have hsv := (htc.1.w (w := 12) (by decide)).mpr (htc.2.1.trans h12)
                refine Rn.aload_n dX12_walkerLine_68 rfl ?_
                refine Rn.getI dX12_walkerLine_69 fX12_188 rfl (rc149 hRN8) ?_
                refine Rn.topI (y := 0) (hsv.1) ?_
                refine Rn.if_ne dX12_walkerLine_72 (fun h9 => (by first | exact absurd h9 (by decide) | exact absurd (by decide) h9)) (fun h9 => ?_)
                refine Rn.aload_n dX12_walkerLine_75 rfl ?_
                refine Rn.getI dX12_walkerLine_76 fX12_198 rfl (rc149 hRN8) ?_
                refine Rn.topI (y := 12) (hsv.2) ?_
                refine Rn.bipushv (v := 11) dX12_walkerLine_79 bp_11 ?_
                refine Rn.icmp_lt dX12_walkerLine_81 (fun h9 => (by first | exact absurd h9 (by decide) | exact absurd (by decide) h9)) (fun h9 => ?_)
                refine Rn.aload_n dX12_walkerLine_84 rfl ?_
                refine Rn.getI dX12_walkerLine_85 fX12_198 rfl (rc149 hRN8) ?_
                refine Rn.topI (y := 12) (hsv.2) ?_
                refine Rn.bipushv (v := 13) dX12_walkerLine_88 bp_13 ?_
                refine Rn.icmp_le dX12_walkerLine_90 (fun h9 => ?_) (fun h9 => (by first | exact absurd h9 (by decide) | exact absurd (by decide) h9))
                refine Rn.aload_n dX12_walkerLine_98 rfl ?_
                refine Rn.getI dX12_walkerLine_99 fX12_222 rfl (rc149 hRN8) ?_
                refine Rn.topI (y := 0) (zN8.2.2) ?_
                refine Rn.if_eq dX12_walkerLine_102 (fun h9 => ?_) (fun h9 => (by first | exact absurd h9 (by decide) | exact absurd (by decide) h9))
                refine Rn.aload_n dX12_walkerLine_106 rfl ?_
                refine Rn.getR dX12_walkerLine_107 fX12_30 rfl (rc149 hRN8) (show N8.2.2 149 8 = some 156 from (rpt8 hRN8)) ?_
                refine Rn.iload_n dX12_walkerLine_110 rfl ?_
                refine Rn.aload_n dX12_walkerLine_111 rfl ?_
                refine Rn.getI dX12_walkerLine_112 fX12_198 rfl (rc149 hRN8) ?_
                refine Rn.topI (y := 12) (hsv.2) ?_
                refine Rn.bipushv (v := 11) dX12_walkerLine_115 bp_11 ?_
                refine Rn.icmp_ne dX12_walkerLine_117 (fun h9 => ?_) (fun h9 => (by first | exact absurd h9 (by decide) | exact absurd (by decide) h9))
                refine Rn.aload_n dX12_walkerLine_124 rfl ?_
                refine Rn.getI dX12_walkerLine_125 fX12_198 rfl (rc149 hRN8) ?_
                refine Rn.topI (y := 12) (hsv.2) ?_
                refine Rn.bipushv (v := 12) dX12_walkerLine_128 bp_12 ?_
                refine Rn.icmp_ne dX12_walkerLine_130 (fun h9 => (by first | exact absurd h9 (by decide) | exact absurd (by decide) h9)) (fun h9 => ?_)
                refine Rn.iconstv (v := -1) dX12_walkerLine_133 ic_m1 ?_
                refine Rn.goto dX12_walkerLine_134 ?_
                refine Rn.iastN (k0 := (6 + p.ct 0)) dX12_walkerLine_138 (rc156 hRN8) (by omega) (by decide) ?_
                obtain ⟨N19, eN19⟩ : ∃ N9, N9 = sI N8 156 (upd (N8.1 156) (6 + p.ct 0) (-1)) := ⟨_, rfl⟩
                rw [← eN19]
                have fN19 : rlF N8 N19 := by rw [eN19]; exact rlF.r (by decide) ⟨by decide, by decide, by show 6 ≤ _; omega⟩
                have rN19 : rlF M N19 := rN8.tr fN19
                have oN19 : ∀ a, a ≠ 149 → a ≠ 152 → a ≠ 153 → a ≠ 154 → a ≠ 155 → a ≠ 156 → N19.1 a = M.1 a := fun a a0 a152 a153 a154 a155 a156 => by rw [eN19, sI_ne a156]; exact oN8 a a0 a152 a153 a154 a155
                have cN19_152 : N19.1 152 = upd (M.1 152) (6 + p.ct 0) (nvF f n (nx f n i)) := by rw [eN19, sI_ne (by decide)]; exact cN8_152
                have cN19_153 : N19.1 153 = upd (M.1 153) (6 + p.ct 0) (nvF f n (nx f n (nx f n i))) := by rw [eN19, sI_ne (by decide)]; exact cN8_153
                have cN19_154 : N19.1 154 = upd (M.1 154) (6 + p.ct 0) (nvF f n (nx f n (nx f n (nx f n i)))) := by rw [eN19, sI_ne (by decide)]; exact cN8_154
                have cN19_155 : N19.1 155 = upd (M.1 155) (6 + p.ct 0) (nvF f n (nx f n (nx f n (nx f n (nx f n i))))) := by rw [eN19, sI_ne (by decide)]; exact cN8_155
                have cN19_156 : N19.1 156 = upd (M.1 156) (6 + p.ct 0) (-1) := by rw [eN19, sI_at]; exact congrArg (fun r9 => upd r9 _ _) (oN8 156 (by decide) (by decide) (by decide) (by decide) (by decide))
                have yN19 : N19.1 149 = N8.1 149 := by rw [eN19]; exact sI_ne (by decide)
                have xN19 : N19.1 149 21 = N8.1 149 21 ∧ N19.1 149 22 = N8.1 149 22 ∧ (N19.1 149 33 = N8.1 149 33 ∧ N19.1 149 30 = N8.1 149 30) ∧ N19.1 149 34 = N8.1 149 34 := by rw [yN19]; exact ⟨rfl, rfl, ⟨rfl, rfl⟩, rfl⟩
                have wN19 : N19.1 150 = N8.1 150 := by rw [eN19]; exact sI_ne (by decide)
                clear eN19
                have XN19 := (⟨xN19.1.trans XN8.1, xN19.2.1.trans XN8.2.1, ⟨xN19.2.2.1.1.trans XN8.2.2.1.1, xN19.2.2.1.2.trans XN8.2.2.1.2⟩, xN19.2.2.2.trans XN8.2.2.2⟩ : N19.1 149 21 = M.1 149 21 ∧ N19.1 149 22 = M.1 149 22 ∧ (N19.1 149 33 = M.1 149 33 ∧ N19.1 149 30 = M.1 149 30) ∧ N19.1 149 34 = M.1 149 34)
                have hRN19 : RW ly N19.2.2 := by rw [rN19.1]; exact hR
                have zN19 : RDz N19 f n (nx f n (nx f n (nx f n (nx f n (nx f n i))))) := zN8.of (by rw [yN19]; exact ⟨rfl, rfl, rfl, rfl, rfl, rfl⟩) wN19
                refine Rn.aload_n dX12_walkerLine_139 rfl ?_
                refine Rn.callV0 dX12_walkerLine_140 vX12_228 (rc149 hRN19) (by decide) rfl (rtok (M := N19) (i := nx f n (nx f n (nx f n (nx f n (nx f n i))))) zN19 hRN19) (by decide) ⟨(Nat.le_of_ble_eq_true rfl), (Nat.le_of_ble_eq_true rfl), (Nat.le_of_ble_eq_true rfl)⟩ (fun h => by cases h) (fun v1 ly1 N20 ⟨q1, q2, tN20, zN20⟩ => ?_)
                rw [q1, q2]
                have rN20 : rlF M N20 := rN19.tr (rlF.tok tN20)
                have oN20 : ∀ a, a ≠ 149 → a ≠ 152 → a ≠ 153 → a ≠ 154 → a ≠ 155 → a ≠ 156 → N20.1 a = M.1 a := fun a a0 a152 a153 a154 a155 a156 => (tN20.2.1 a a0).trans (oN19 a a0 a152 a153 a154 a155 a156)
                have cN20_152 : N20.1 152 = upd (M.1 152) (6 + p.ct 0) (nvF f n (nx f n i)) := (tN20.2.1 152 (by decide)).trans cN19_152
                have cN20_153 : N20.1 153 = upd (M.1 153) (6 + p.ct 0) (nvF f n (nx f n (nx f n i))) := (tN20.2.1 153 (by decide)).trans cN19_153
                have cN20_154 : N20.1 154 = upd (M.1 154) (6 + p.ct 0) (nvF f n (nx f n (nx f n (nx f n i)))) := (tN20.2.1 154 (by decide)).trans cN19_154
                have cN20_155 : N20.1 155 = upd (M.1 155) (6 + p.ct 0) (nvF f n (nx f n (nx f n (nx f n (nx f n i))))) := (tN20.2.1 155 (by decide)).trans cN19_155
                have cN20_156 : N20.1 156 = upd (M.1 156) (6 + p.ct 0) (-1) := (tN20.2.1 156 (by decide)).trans cN19_156
                have xN20 : N20.1 149 21 = N19.1 149 21 ∧ N20.1 149 22 = N19.1 149 22 ∧ (N20.1 149 33 = N19.1 149 33 ∧ N20.1 149 30 = N19.1 149 30) ∧ N20.1 149 34 = N19.1 149 34 := ⟨tN20.2.2 21 (by omega), tN20.2.2 22 (by omega), ⟨tN20.2.2 33 (by omega), tN20.2.2 30 (by omega)⟩, tN20.2.2 34 (by omega)⟩
                have XN20 := (⟨xN20.1.trans XN19.1, xN20.2.1.trans XN19.2.1, ⟨xN20.2.2.1.1.trans XN19.2.2.1.1, xN20.2.2.1.2.trans XN19.2.2.1.2⟩, xN20.2.2.2.trans XN19.2.2.2⟩ : N20.1 149 21 = M.1 149 21 ∧ N20.1 149 22 = M.1 149 22 ∧ (N20.1 149 33 = M.1 149 33 ∧ N20.1 149 30 = M.1 149 30) ∧ N20.1 149 34 = M.1 149 34)
                have hRN20 : RW ly N20.2.2 := by rw [rN20.1]; exact hR
                refine Rn.aload_n dX12_walkerLine_143 rfl ?_
                refine Rn.getR dX12_walkerLine_144 fX12_30 rfl (rc149 hRN20) (show N20.2.2 149 8 = some 156 from (rpt8 hRN20)) ?_
                refine Rn.iload_n dX12_walkerLine_147 rfl ?_
                refine Rn.ialdN (k0 := (6 + p.ct 0)) dX12_walkerLine_148 (rc156 hRN20) (by omega) (by decide) ?_
                refine Rn.topI (y := (-1)) ((congrFun cN20_156 _).trans pk_us) ?_
                refine Rn.if_ne dX12_walkerLine_149 (fun h9 => ?_) (fun h9 => (by first | exact absurd h9 (by decide) | exact absurd (by decide) h9))
                refine Rn.aload_n dX12_walkerLine_175 rfl ?_
                refine Rn.bipushv (v := 6) dX12_walkerLine_176 bp_6 ?_
                refine Rn.aload_n dX12_walkerLine_178 rfl ?_
                refine Rn.bipushv (v := 6) dX12_walkerLine_179 bp_6 ?_
                refine Rn.callV1 dX12_walkerLine_181 vX12_245 (rc149 hRN20) (by decide) rfl (tX12_fresher (M := N20) (k := 6) (by decide) hRN20) (by omega) ⟨(Nat.le_of_ble_eq_true rfl), (Nat.le_of_ble_eq_true rfl), (Nat.le_of_ble_eq_true rfl)⟩ (fun h => by cases h) (fun v1 ly1 M1 ⟨q1, q2, q3⟩ => ?_)
                rw [q1, q2, q3]
                refine Rn.topI (y := nI (p.ct 0)) (show N20.1 151 (13 + 6) = nI (p.ct 0) from (congrFun (oN20 151 (by decide) (by decide) (by decide) (by decide) (by decide) (by decide)) 19).trans h150_) ?_
                refine Rn.iconstv (v := 1) dX12_walkerLine_184 ic_1 ?_
                refine Rn.iadd dX12_walkerLine_185 ?_
                refine Rn.topI (y := nI (p.ct 0 + 1)) (nI_add (p.ct 0) 1) ?_
                refine Rn.callV2 dX12_walkerLine_186 vX12_265 (rc149 hRN20) (by decide) rfl (tX12_reads (M := N20) (k := 6) (x := nI (p.ct 0 + 1)) (by decide) hRN20) (by omega) ⟨(Nat.le_of_ble_eq_true rfl), (Nat.le_of_ble_eq_true rfl), (Nat.le_of_ble_eq_true rfl)⟩ (fun h => by cases h) (fun v1 ly1 M1 ⟨q1, q2, q3⟩ => ?_)
                rw [q1, q2, q3]
                obtain ⟨N21, eN21⟩ : ∃ N9, N9 = sI N20 151 (upd (N20.1 151) (13 + 6) (nI (p.ct 0 + 1))) := ⟨_, rfl⟩
                rw [← eN21]
                have fN21 : rlF N20 N21 := by rw [eN21]; exact rlF.r (by decide) ⟨by decide, by decide, by show 13 ≤ _; omega⟩
                have rN21 : rlF M N21 := rN20.tr fN21
                have oN21 : ∀ a, a ≠ 149 → a ≠ 152 → a ≠ 153 → a ≠ 154 → a ≠ 155 → a ≠ 156 → a ≠ 151 → N21.1 a = M.1 a := fun a a0 a152 a153 a154 a155 a156 a151 => by rw [eN21, sI_ne a151]; exact oN20 a a0 a152 a153 a154 a155 a156
                have cN21_152 : N21.1 152 = upd (M.1 152) (6 + p.ct 0) (nvF f n (nx f n i)) := by rw [eN21, sI_ne (by decide)]; exact cN20_152
                have cN21_153 : N21.1 153 = upd (M.1 153) (6 + p.ct 0) (nvF f n (nx f n (nx f n i))) := by rw [eN21, sI_ne (by decide)]; exact cN20_153
                have cN21_154 : N21.1 154 = upd (M.1 154) (6 + p.ct 0) (nvF f n (nx f n (nx f n (nx f n i)))) := by rw [eN21, sI_ne (by decide)]; exact cN20_154
                have cN21_155 : N21.1 155 = upd (M.1 155) (6 + p.ct 0) (nvF f n (nx f n (nx f n (nx f n (nx f n i))))) := by rw [eN21, sI_ne (by decide)]; exact cN20_155
                have cN21_156 : N21.1 156 = upd (M.1 156) (6 + p.ct 0) (-1) := by rw [eN21, sI_ne (by decide)]; exact cN20_156
                have cN21_151 : N21.1 151 = upd (M.1 151) (13 + 6) (nI (p.ct 0 + 1)) := by rw [eN21, sI_at]; exact congrArg (fun r9 => upd r9 _ _) (oN20 151 (by decide) (by decide) (by decide) (by decide) (by decide) (by decide))
                have yN21 : N21.1 149 = N20.1 149 := by rw [eN21]; exact sI_ne (by decide)
                have xN21 : N21.1 149 21 = N20.1 149 21 ∧ N21.1 149 22 = N20.1 149 22 ∧ (N21.1 149 33 = N20.1 149 33 ∧ N21.1 149 30 = N20.1 149 30) ∧ N21.1 149 34 = N20.1 149 34 := by rw [yN21]; exact ⟨rfl, rfl, ⟨rfl, rfl⟩, rfl⟩
                have wN21 : N21.1 150 = N20.1 150 := by rw [eN21]; exact sI_ne (by decide)
                clear eN21
                have XN21 := (⟨xN21.1.trans XN20.1, xN21.2.1.trans XN20.2.1, ⟨xN21.2.2.1.1.trans XN20.2.2.1.1, xN21.2.2.1.2.trans XN20.2.2.1.2⟩, xN21.2.2.2.trans XN20.2.2.2⟩ : N21.1 149 21 = M.1 149 21 ∧ N21.1 149 22 = M.1 149 22 ∧ (N21.1 149 33 = M.1 149 33 ∧ N21.1 149 30 = M.1 149 30) ∧ N21.1 149 34 = M.1 149 34)
                have hRN21 : RW ly N21.2.2 := by rw [rN21.1]; exact hR
                have zN21 : RDz N21 f n (nx f n (nx f n (nx f n (nx f n (nx f n (nx f n i)))))) := zN20.of (by rw [yN21]; exact ⟨rfl, rfl, rfl, rfl, rfl, rfl⟩) wN21
                have hwy : (if kdF f n (nx f n (nx f n (nx f n (nx f n (nx f n i))))) = 12 then -1 else 1) = ((-1) : Int32) := if_pos h12
                have hres : lnW (kdF f n) (nvF f n) (nx f n) p i = .inl (addW p (nvF f n (nx f n i)) (nvF f n (nx f n (nx f n i))) (nvF f n (nx f n (nx f n (nx f n i)))) (nvF f n (nx f n (nx f n (nx f n (nx f n i))))) (-1) 0 p.hc, nx f n (nx f n (nx f n (nx f n (nx f n (nx f n i)))))) := by rw [← hwy]; exact (if_neg hne).trans ((qK_0 zN1a).trans ((qK_0 zN3a).trans ((qK_0 zN5a).trans ((qK_0 zN7a).trans ((if_neg h13).trans (if_pos (Or.inr h12)))))))
                have hrow : ∀ r, 1 ≤ r → r ≤ 13 → knD r = 0 → (∀ j, j ≠ rOf 0 + p.ct 0 → N21.1 (rCl r) j = M.1 (rCl r) j) ∧ ((r = 9 → (addW p (nvF f n (nx f n i)) (nvF f n (nx f n (nx f n i))) (nvF f n (nx f n (nx f n (nx f n i)))) (nvF f n (nx f n (nx f n (nx f n (nx f n i))))) (-1) 0 p.hc).1 8 (p.ct 0) = 0) → N21.1 (rCl r) (rOf 0 + p.ct 0) = (addW p (nvF f n (nx f n i)) (nvF f n (nx f n (nx f n i))) (nvF f n (nx f n (nx f n (nx f n i)))) (nvF f n (nx f n (nx f n (nx f n (nx f n i))))) (-1) 0 p.hc).1 r (p.ct 0)) := by
                  intro r r1 r2 hk9
                  match r, r1, r2 with
                  | 1, _, _ => exact ⟨fun j hj => (congrFun cN21_152 j).trans (pk_un hj), fun _ => (congrFun cN21_152 _).trans (pk_us.trans (show _ = (addW p (nvF f n (nx f n i)) (nvF f n (nx f n (nx f n i))) (nvF f n (nx f n (nx f n (nx f n i)))) (nvF f n (nx f n (nx f n (nx f n (nx f n i))))) (-1) 0 p.hc).1 1 (p.ct 0) from pk_us.symm))⟩
                  | 2, _, _ => exact absurd hk9 (by decide)
                  | 3, _, _ => exact absurd hk9 (by decide)
                  | 4, _, _ => exact absurd hk9 (by decide)
                  | 5, _, _ => exact ⟨fun j hj => (congrFun cN21_153 j).trans (pk_un hj), fun _ => (congrFun cN21_153 _).trans (pk_us.trans (show _ = (addW p (nvF f n (nx f n i)) (nvF f n (nx f n (nx f n i))) (nvF f n (nx f n (nx f n (nx f n i)))) (nvF f n (nx f n (nx f n (nx f n (nx f n i))))) (-1) 0 p.hc).1 5 (p.ct 0) from pk_us.symm))⟩
                  | 6, _, _ => exact ⟨fun j hj => (congrFun cN21_154 j).trans (pk_un hj), fun _ => (congrFun cN21_154 _).trans (pk_us.trans (show _ = (addW p (nvF f n (nx f n i)) (nvF f n (nx f n (nx f n i))) (nvF f n (nx f n (nx f n (nx f n i)))) (nvF f n (nx f n (nx f n (nx f n (nx f n i))))) (-1) 0 p.hc).1 6 (p.ct 0) from pk_us.symm))⟩
                  | 7, _, _ => exact ⟨fun j hj => (congrFun cN21_155 j).trans (pk_un hj), fun _ => (congrFun cN21_155 _).trans (pk_us.trans (show _ = (addW p (nvF f n (nx f n i)) (nvF f n (nx f n (nx f n i))) (nvF f n (nx f n (nx f n (nx f n i)))) (nvF f n (nx f n (nx f n (nx f n (nx f n i))))) (-1) 0 p.hc).1 7 (p.ct 0) from pk_us.symm))⟩
                  | 8, _, _ => exact ⟨fun j hj => (congrFun cN21_156 j).trans (pk_un hj), fun _ => (congrFun cN21_156 _).trans (pk_us.trans (show _ = (addW p (nvF f n (nx f n i)) (nvF f n (nx f n (nx f n i))) (nvF f n (nx f n (nx f n (nx f n i)))) (nvF f n (nx f n (nx f n (nx f n (nx f n i))))) (-1) 0 p.hc).1 8 (p.ct 0) from pk_us.symm))⟩
                  | 9, _, _ => exact ⟨fun j _ => congrFun (oN21 157 (by decide) (by decide) (by decide) (by decide) (by decide) (by decide) (by decide)) j, fun g => absurd ((show (addW p (nvF f n (nx f n i)) (nvF f n (nx f n (nx f n i))) (nvF f n (nx f n (nx f n (nx f n i)))) (nvF f n (nx f n (nx f n (nx f n (nx f n i))))) (-1) 0 p.hc).1 8 (p.ct 0) = (-1) from pk_us).symm.trans (g rfl)) (by decide)⟩
                  | 10, _, _ => exact absurd hk9 (by decide)
                  | 11, _, _ => exact absurd hk9 (by decide)
                  | 12, _, _ => exact absurd hk9 (by decide)
                  | 13, _, _ => exact absurd hk9 (by decide)
                have hrow2 : ∀ r, 1 ≤ r → r ≤ 13 → knD r ≠ 0 → N21.1 (rCl r) = M.1 (rCl r) := by
                  intro r r1 r2 hk9
                  match r, r1, r2 with
                  | 1, _, _ => exact absurd rfl hk9
                  | 2, _, _ => exact oN21 158 (by decide) (by decide) (by decide) (by decide) (by decide) (by decide) (by decide)
                  | 3, _, _ => exact oN21 161 (by decide) (by decide) (by decide) (by decide) (by decide) (by decide) (by decide)
                  | 4, _, _ => exact oN21 164 (by decide) (by decide) (by decide) (by decide) (by decide) (by decide) (by decide)
                  | 5, _, _ => exact absurd rfl hk9
                  | 6, _, _ => exact absurd rfl hk9
                  | 7, _, _ => exact absurd rfl hk9
                  | 8, _, _ => exact absurd rfl hk9
                  | 9, _, _ => exact absurd rfl hk9
                  | 10, _, _ => exact oN21 159 (by decide) (by decide) (by decide) (by decide) (by decide) (by decide) (by decide)
                  | 11, _, _ => exact oN21 160 (by decide) (by decide) (by decide) (by decide) (by decide) (by decide) (by decide)
                  | 12, _, _ => exact oN21 162 (by decide) (by decide) (by decide) (by decide) (by decide) (by decide) (by decide)
                  | 13, _, _ => exact oN21 163 (by decide) (by decide) (by decide) (by decide) (by decide) (by decide) (by decide)
                have hD2 : ∀ r j, 1 ≤ r → r ≤ 13 → (knD r ≠ 0 ∨ j < p.ct 0) → (addW p (nvF f n (nx f n i)) (nvF f n (nx f n (nx f n i))) (nvF f n (nx f n (nx f n (nx f n i)))) (nvF f n (nx f n (nx f n (nx f n (nx f n i))))) (-1) 0 p.hc).1 r j = p.D r j := fun r j _ _ h9 => (set2_k (a := 9) rfl h9).trans ((set2_k (a := 8) rfl h9).trans ((set2_k (a := 7) rfl h9).trans ((set2_k (a := 6) rfl h9).trans ((set2_k (a := 5) rfl h9).trans ((set2_k (a := 1) rfl h9).trans (rfl))))))
                have hPN : RPl N21 (addW p (nvF f n (nx f n i)) (nvF f n (nx f n (nx f n i))) (nvF f n (nx f n (nx f n (nx f n i)))) (nvF f n (nx f n (nx f n (nx f n (nx f n i))))) (-1) 0 p.hc) := RPl.add (k := 0) hP (by decide) rfl cN21_151 hrow hrow2 hD2 ⟨oN21 165 (by decide) (by decide) (by decide) (by decide) (by decide) (by decide) (by decide), oN21 166 (by decide) (by decide) (by decide) (by decide) (by decide) (by decide) (by decide), oN21 167 (by decide) (by decide) (by decide) (by decide) (by decide) (by decide) (by decide), oN21 168 (by decide) (by decide) (by decide) (by decide) (by decide) (by decide) (by decide)⟩
                exact Rn.vret dX12_walkerLine_189 rfl ⟨rfl, rfl, rN21, Or.inl ⟨_, _, hres, zN21.1, zN21.2.1, zN21.2.2, ⟨XN21.2.2.1.1.trans h33.1, XN21.2.2.1.2.trans h33.2⟩, XN21.2.2.2.trans h34, by rw [XN21.1]; exact hbw, XN21.2.1.trans h22, hPN, ⟨h6, hct.2.1, hct.2.2.1, hct.2.2.2.1, hct.2.2.2.2.1, hct.2.2.2.2.2⟩⟩⟩
              · skip
                have tail : Rn G l mX12_walkerLine (9, 0, 0, false) 93 [some (.ref 149), some (.int (nI (6 + p.ct 0)))] [] ly N8 (rsP ly M f n (lnW (kdF f n) (nvF f n) (nx f n) p i)) := by
                  refine Rn.aload_n dX12_walkerLine_93 rfl ?_
                  refine Rn.iconstv (v := 1) dX12_walkerLine_94 ic_1 ?_
                  refine Rn.callV1 dX12_walkerLine_95 vX12_231 (rc149 hRN8) (by decide) rfl (rdWrong (M := N8) (x := 1) zN8.2.2 hRN8) (by omega) ⟨(Nat.le_of_ble_eq_true rfl), (Nat.le_of_ble_eq_true rfl), (Nat.le_of_ble_eq_true rfl)⟩ (fun h => by cases h) (fun v1 ly1 M1 ⟨q1, q2, q3⟩ => ?_)
                  rw [q1, q2, q3]
                  obtain ⟨N9, e9⟩ : ∃ N0, N0 = wrM N8 1 := ⟨_, rfl⟩
                  rw [← e9]
                  have rN9 : rlF M N9 := by rw [e9]; exact rN8.tr rlF.wr
                  have hfa : faR f n N9 1 (nx f n (nx f n (nx f n (nx f n (nx f n i))))) := by rw [e9]; exact zN8.wr (by decide)
                  clear e9
                  have hRN9 : RW ly N9.2.2 := by rw [rN9.1]; exact hR
                  have hf9 : ¬ N9.1 149 29 = 0 := by rw [hfa.1]; exact hfa.2.1
                  refine Rn.aload_n dX12_walkerLine_98 rfl ?_
                  refine Rn.getI dX12_walkerLine_99 fX12_222 rfl (rc149 hRN9) ?_
                  refine Rn.if_eq dX12_walkerLine_102 (fun h9 => absurd h9 hf9) (fun h9 => ?_)
                  exact Rn.vret dX12_walkerLine_105 rfl ⟨rfl, rfl, rN9, Or.inr ⟨_, _, (if_neg hne).trans ((qK_0 zN1a).trans ((qK_0 zN3a).trans ((qK_0 zN5a).trans ((qK_0 zN7a).trans ((if_neg h13).trans (if_neg (fun g => g.elim h11 h12))))))), hfa⟩⟩
                refine Rn.aload_n dX12_walkerLine_68 rfl ?_
                refine Rn.getI dX12_walkerLine_69 fX12_188 rfl (rc149 hRN8) ?_
                refine Rn.if_ne dX12_walkerLine_72 (fun h27 => ?_) (fun h27 => ?_)
                · skip
                  exact tail
                · skip
                  refine Rn.aload_n dX12_walkerLine_75 rfl ?_
                  refine Rn.getI dX12_walkerLine_76 fX12_198 rfl (rc149 hRN8) ?_
                  refine Rn.bipushv (v := 11) dX12_walkerLine_79 bp_11 ?_
                  refine Rn.icmp_lt dX12_walkerLine_81 (fun h28 => ?_) (fun h28 => ?_)
                  · skip
                    exact tail
                  · skip
                    refine Rn.aload_n dX12_walkerLine_84 rfl ?_
                    refine Rn.getI dX12_walkerLine_85 fX12_198 rfl (rc149 hRN8) ?_
                    refine Rn.bipushv (v := 13) dX12_walkerLine_88 bp_13 ?_
                    refine Rn.icmp_le dX12_walkerLine_90 (fun h29b => ?_) (fun h29b => ?_)
                    · skip
                      obtain ⟨w9, hw9, hv9⟩ : ∃ w9 : Nat, w9 < 25 ∧ N8.1 149 28 = nI w9 := htc.1.r.elim (fun g => g.2.2) (fun g => absurd h27 (g.elim (fun g => by rw [g.1]; decide) (fun g => g.elim (fun g => by rw [g.1]; decide) (fun g => g.elim (fun g => by rw [g.1]; decide) (fun g => g.elim (fun g => by rw [g.1]; decide) (fun g => by rw [g.1]; decide))))))
                      have hkd := (htc.1.w hw9).mp ⟨h27, hv9⟩
                      rw [htc.2.1] at hkd
                      rw [hv9] at h28 h29b
                      have l1 : 11 ≤ w9 := (nI_leI (a := 11) (b := w9) (by decide) (by omega)).mp (Int32.not_lt.mp h28)
                      have l2 : w9 ≤ 13 := (nI_leI (a := w9) (b := 13) (by omega) (by decide)).mp h29b
                      rcases (show w9 = 11 ∨ w9 = 12 ∨ w9 = 13 by omega) with rfl | rfl | rfl
                      · exact absurd hkd h11
                      · exact absurd hkd h12
                      · exact absurd hkd h13
                    · skip
                      exact tail
        · skip
          rw [q1]
          have rN7 : rlF M N7 := rN6.tr gN7
          have hRN7 : RW ly N7.2.2 := by rw [rN7.1]; exact hR
          have hf9 : ¬ N7.1 149 29 = 0 := by rw [hfa.1]; exact hfa.2.1
          refine Rn.iastN (k0 := (6 + p.ct 0)) dX12_walkerLine_60 (rc155 hRN7) (by omega) (by decide) ?_
          refine Rn.aload_n dX12_walkerLine_61 rfl ?_
          refine Rn.getI dX12_walkerLine_62 fX12_222 rfl (rc149 hRN7) ?_
          refine Rn.if_ne dX12_walkerLine_65 (fun h9 => ?_) (fun h9 => absurd h9 hf9)
          refine Rn.aload_n dX12_walkerLine_98 rfl ?_
          refine Rn.getI dX12_walkerLine_99 fX12_222 rfl (rc149 hRN7) ?_
          refine Rn.if_eq dX12_walkerLine_102 (fun h9 => absurd h9 hf9) (fun h9 => ?_)
          exact Rn.vret dX12_walkerLine_105 rfl ⟨rfl, rfl, (rN7).tr (rlF.r (by decide) ⟨by decide, by decide, by show 6 ≤ _; omega⟩), Or.inr ⟨_, _, (if_neg hne).trans ((qK_0 zN1a).trans ((qK_0 zN3a).trans ((qK_0 zN5a).trans (qK_n zN7a)))), hfa⟩⟩
      · skip
        rw [q1]
        have rN5 : rlF M N5 := rN4.tr gN5
        have hRN5 : RW ly N5.2.2 := by rw [rN5.1]; exact hR
        have hf9 : ¬ N5.1 149 29 = 0 := by rw [hfa.1]; exact hfa.2.1
        refine Rn.iastN (k0 := (6 + p.ct 0)) dX12_walkerLine_47 (rc154 hRN5) (by omega) (by decide) ?_
        refine Rn.aload_n dX12_walkerLine_48 rfl ?_
        refine Rn.getR dX12_walkerLine_49 fX12_27 rfl (rc149 hRN5) (show N5.2.2 149 7 = some 155 from (rpt7 hRN5)) ?_
        refine Rn.iload_n dX12_walkerLine_52 rfl ?_
        refine Rn.aload_n dX12_walkerLine_53 rfl ?_
        refine Rn.iconstv (v := 0) dX12_walkerLine_54 ic_0 ?_
        refine Rn.bipushv (v := 60) dX12_walkerLine_55 bp_60 ?_
        show Rn G l mX12_walkerLine (9, 0, 0, false) 57 [some (.ref 149), some (.int (nI (6 + p.ct 0)))] [.int 60, .int 0, .ref 149, .int (nI (6 + p.ct 0)), .ref 155] ly (sI N5 154 (upd (N5.1 154) (6 + p.ct 0) 1)) (rsP ly M f n (lnW (kdF f n) (nvF f n) (nx f n) p i))
        obtain ⟨F22, eF22⟩ : ∃ N9, N9 = sI N5 154 (upd (N5.1 154) (6 + p.ct 0) 1) := ⟨_, rfl⟩
        rw [← eF22]
        have rF22 : rlF M F22 := by rw [eF22]; exact (rN5).tr (rlF.r (by decide) ⟨by decide, by decide, by show 6 ≤ _; omega⟩)
        have gF22 : F22.1 149 29 = N5.1 149 29 ∧ F22.1 149 30 = N5.1 149 30 := by rw [eF22]; exact ⟨rfl, rfl⟩
        clear eF22
        have hfaF22 : faR f n F22 _ _ := ⟨gF22.1.trans hfa.1, hfa.2.1, gF22.2.trans hfa.2.2⟩
        have hf9 : ¬ F22.1 149 29 = 0 := by rw [hfaF22.1]; exact hfaF22.2.1
        have hRF22 : RW ly F22.2.2 := by rw [rF22.1]; exact hR
        refine Rn.callV2 dX12_walkerLine_57 vX12_262 (rc149 hRF22) (by decide) rfl (rnum0 (M := F22) hf9 hRF22) (by omega) ⟨(Nat.le_of_ble_eq_true rfl), (Nat.le_of_ble_eq_true rfl), (Nat.le_of_ble_eq_true rfl)⟩ (fun h => by cases h) (fun v1 ly1 M1 ⟨q1, q2, q3⟩ => ?_)
        rw [q1, q2, q3]
        refine Rn.iastN (k0 := (6 + p.ct 0)) dX12_walkerLine_60 (rc155 hRF22) (by omega) (by decide) ?_
        refine Rn.aload_n dX12_walkerLine_61 rfl ?_
        refine Rn.getI dX12_walkerLine_62 fX12_222 rfl (rc149 hRF22) ?_
        refine Rn.if_ne dX12_walkerLine_65 (fun h9 => ?_) (fun h9 => absurd h9 hf9)
        refine Rn.aload_n dX12_walkerLine_98 rfl ?_
        refine Rn.getI dX12_walkerLine_99 fX12_222 rfl (rc149 hRF22) ?_
        refine Rn.if_eq dX12_walkerLine_102 (fun h9 => absurd h9 hf9) (fun h9 => ?_)
        exact Rn.vret dX12_walkerLine_105 rfl ⟨rfl, rfl, (rF22).tr (rlF.r (by decide) ⟨by decide, by decide, by show 6 ≤ _; omega⟩), Or.inr ⟨_, _, (if_neg hne).trans ((qK_0 zN1a).trans ((qK_0 zN3a).trans (qK_n zN5a))), hfaF22⟩⟩
    · skip
      rw [q1]
      have rN3 : rlF M N3 := rN2.tr gN3
      have hRN3 : RW ly N3.2.2 := by rw [rN3.1]; exact hR
      have hf9 : ¬ N3.1 149 29 = 0 := by rw [hfa.1]; exact hfa.2.1
      refine Rn.iastN (k0 := (6 + p.ct 0)) dX12_walkerLine_34 (rc153 hRN3) (by omega) (by decide) ?_
      refine Rn.aload_n dX12_walkerLine_35 rfl ?_
      refine Rn.getR dX12_walkerLine_36 fX12_24 rfl (rc149 hRN3) (show N3.2.2 149 6 = some 154 from (rpt6 hRN3)) ?_
      refine Rn.iload_n dX12_walkerLine_39 rfl ?_
      refine Rn.aload_n dX12_walkerLine_40 rfl ?_
      refine Rn.iconstv (v := 1) dX12_walkerLine_41 ic_1 ?_
      refine Rn.bipushv (v := 9) dX12_walkerLine_42 bp_9 ?_
      show Rn G l mX12_walkerLine (9, 0, 0, false) 44 [some (.ref 149), some (.int (nI (6 + p.ct 0)))] [.int 9, .int 1, .ref 149, .int (nI (6 + p.ct 0)), .ref 154] ly (sI N3 153 (upd (N3.1 153) (6 + p.ct 0) 1)) (rsP ly M f n (lnW (kdF f n) (nvF f n) (nx f n) p i))
      obtain ⟨F23, eF23⟩ : ∃ N9, N9 = sI N3 153 (upd (N3.1 153) (6 + p.ct 0) 1) := ⟨_, rfl⟩
      rw [← eF23]
      have rF23 : rlF M F23 := by rw [eF23]; exact (rN3).tr (rlF.r (by decide) ⟨by decide, by decide, by show 6 ≤ _; omega⟩)
      have gF23 : F23.1 149 29 = N3.1 149 29 ∧ F23.1 149 30 = N3.1 149 30 := by rw [eF23]; exact ⟨rfl, rfl⟩
      clear eF23
      have hfaF23 : faR f n F23 _ _ := ⟨gF23.1.trans hfa.1, hfa.2.1, gF23.2.trans hfa.2.2⟩
      have hf9 : ¬ F23.1 149 29 = 0 := by rw [hfaF23.1]; exact hfaF23.2.1
      have hRF23 : RW ly F23.2.2 := by rw [rF23.1]; exact hR
      refine Rn.callV2 dX12_walkerLine_44 vX12_262 (rc149 hRF23) (by decide) rfl (rnum0 (M := F23) hf9 hRF23) (by omega) ⟨(Nat.le_of_ble_eq_true rfl), (Nat.le_of_ble_eq_true rfl), (Nat.le_of_ble_eq_true rfl)⟩ (fun h => by cases h) (fun v1 ly1 M1 ⟨q1, q2, q3⟩ => ?_)
      rw [q1, q2, q3]
      refine Rn.iastN (k0 := (6 + p.ct 0)) dX12_walkerLine_47 (rc154 hRF23) (by omega) (by decide) ?_
      refine Rn.aload_n dX12_walkerLine_48 rfl ?_
      refine Rn.getR dX12_walkerLine_49 fX12_27 rfl (rc149 hRF23) (show F23.2.2 149 7 = some 155 from (rpt7 hRF23)) ?_
      refine Rn.iload_n dX12_walkerLine_52 rfl ?_
      refine Rn.aload_n dX12_walkerLine_53 rfl ?_
      refine Rn.iconstv (v := 0) dX12_walkerLine_54 ic_0 ?_
      refine Rn.bipushv (v := 60) dX12_walkerLine_55 bp_60 ?_
      show Rn G l mX12_walkerLine (9, 0, 0, false) 57 [some (.ref 149), some (.int (nI (6 + p.ct 0)))] [.int 60, .int 0, .ref 149, .int (nI (6 + p.ct 0)), .ref 155] ly (sI F23 154 (upd (F23.1 154) (6 + p.ct 0) 1)) (rsP ly M f n (lnW (kdF f n) (nvF f n) (nx f n) p i))
      obtain ⟨F24, eF24⟩ : ∃ N9, N9 = sI F23 154 (upd (F23.1 154) (6 + p.ct 0) 1) := ⟨_, rfl⟩
      rw [← eF24]
      have rF24 : rlF M F24 := by rw [eF24]; exact (rF23).tr (rlF.r (by decide) ⟨by decide, by decide, by show 6 ≤ _; omega⟩)
      have gF24 : F24.1 149 29 = F23.1 149 29 ∧ F24.1 149 30 = F23.1 149 30 := by rw [eF24]; exact ⟨rfl, rfl⟩
      clear eF24
      have hfaF24 : faR f n F24 _ _ := ⟨gF24.1.trans hfaF23.1, hfaF23.2.1, gF24.2.trans hfaF23.2.2⟩
      have hf9 : ¬ F24.1 149 29 = 0 := by rw [hfaF24.1]; exact hfaF24.2.1
      have hRF24 : RW ly F24.2.2 := by rw [rF24.1]; exact hR
      refine Rn.callV2 dX12_walkerLine_57 vX12_262 (rc149 hRF24) (by decide) rfl (rnum0 (M := F24) hf9 hRF24) (by omega) ⟨(Nat.le_of_ble_eq_true rfl), (Nat.le_of_ble_eq_true rfl), (Nat.le_of_ble_eq_true rfl)⟩ (fun h => by cases h) (fun v1 ly1 M1 ⟨q1, q2, q3⟩ => ?_)
      rw [q1, q2, q3]
      refine Rn.iastN (k0 := (6 + p.ct 0)) dX12_walkerLine_60 (rc155 hRF24) (by omega) (by decide) ?_
      refine Rn.aload_n dX12_walkerLine_61 rfl ?_
      refine Rn.getI dX12_walkerLine_62 fX12_222 rfl (rc149 hRF24) ?_
      refine Rn.if_ne dX12_walkerLine_65 (fun h9 => ?_) (fun h9 => absurd h9 hf9)
      refine Rn.aload_n dX12_walkerLine_98 rfl ?_
      refine Rn.getI dX12_walkerLine_99 fX12_222 rfl (rc149 hRF24) ?_
      refine Rn.if_eq dX12_walkerLine_102 (fun h9 => absurd h9 hf9) (fun h9 => ?_)
      exact Rn.vret dX12_walkerLine_105 rfl ⟨rfl, rfl, (rF24).tr (rlF.r (by decide) ⟨by decide, by decide, by show 6 ≤ _; omega⟩), Or.inr ⟨_, _, (if_neg hne).trans ((qK_0 zN1a).trans (qK_n zN3a)), hfaF24⟩⟩
  · skip
    rw [q1]
    have rN1 : rlF M N1 := gN1
    have hRN1 : RW ly N1.2.2 := by rw [rN1.1]; exact hR
    have hf9 : ¬ N1.1 149 29 = 0 := by rw [hfa.1]; exact hfa.2.1
    refine Rn.iastN (k0 := (6 + p.ct 0)) dX12_walkerLine_21 (rc152 hRN1) (by omega) (by decide) ?_
    refine Rn.aload_n dX12_walkerLine_22 rfl ?_
    refine Rn.getR dX12_walkerLine_23 fX12_21 rfl (rc149 hRN1) (show N1.2.2 149 5 = some 153 from (rpt5 hRN1)) ?_
    refine Rn.iload_n dX12_walkerLine_26 rfl ?_
    refine Rn.aload_n dX12_walkerLine_27 rfl ?_
    refine Rn.iconstv (v := 1) dX12_walkerLine_28 ic_1 ?_
    refine Rn.bipushv (v := 30) dX12_walkerLine_29 bp_30 ?_
    show Rn G l mX12_walkerLine (9, 0, 0, false) 31 [some (.ref 149), some (.int (nI (6 + p.ct 0)))] [.int 30, .int 1, .ref 149, .int (nI (6 + p.ct 0)), .ref 153] ly (sI N1 152 (upd (N1.1 152) (6 + p.ct 0) 0)) (rsP ly M f n (lnW (kdF f n) (nvF f n) (nx f n) p i))
    obtain ⟨F25, eF25⟩ : ∃ N9, N9 = sI N1 152 (upd (N1.1 152) (6 + p.ct 0) 0) := ⟨_, rfl⟩
    rw [← eF25]
    have rF25 : rlF M F25 := by rw [eF25]; exact (rN1).tr (rlF.r (by decide) ⟨by decide, by decide, by show 6 ≤ _; omega⟩)
    have gF25 : F25.1 149 29 = N1.1 149 29 ∧ F25.1 149 30 = N1.1 149 30 := by rw [eF25]; exact ⟨rfl, rfl⟩
    clear eF25
    have hfaF25 : faR f n F25 _ _ := ⟨gF25.1.trans hfa.1, hfa.2.1, gF25.2.trans hfa.2.2⟩
    have hf9 : ¬ F25.1 149 29 = 0 := by rw [hfaF25.1]; exact hfaF25.2.1
    have hRF25 : RW ly F25.2.2 := by rw [rF25.1]; exact hR
    refine Rn.callV2 dX12_walkerLine_31 vX12_262 (rc149 hRF25) (by decide) rfl (rnum0 (M := F25) hf9 hRF25) (by omega) ⟨(Nat.le_of_ble_eq_true rfl), (Nat.le_of_ble_eq_true rfl), (Nat.le_of_ble_eq_true rfl)⟩ (fun h => by cases h) (fun v1 ly1 M1 ⟨q1, q2, q3⟩ => ?_)
    rw [q1, q2, q3]
    refine Rn.iastN (k0 := (6 + p.ct 0)) dX12_walkerLine_34 (rc153 hRF25) (by omega) (by decide) ?_
    refine Rn.aload_n dX12_walkerLine_35 rfl ?_
    refine Rn.getR dX12_walkerLine_36 fX12_24 rfl (rc149 hRF25) (show F25.2.2 149 6 = some 154 from (rpt6 hRF25)) ?_
    refine Rn.iload_n dX12_walkerLine_39 rfl ?_
    refine Rn.aload_n dX12_walkerLine_40 rfl ?_
    refine Rn.iconstv (v := 1) dX12_walkerLine_41 ic_1 ?_
    refine Rn.bipushv (v := 9) dX12_walkerLine_42 bp_9 ?_
    show Rn G l mX12_walkerLine (9, 0, 0, false) 44 [some (.ref 149), some (.int (nI (6 + p.ct 0)))] [.int 9, .int 1, .ref 149, .int (nI (6 + p.ct 0)), .ref 154] ly (sI F25 153 (upd (F25.1 153) (6 + p.ct 0) 1)) (rsP ly M f n (lnW (kdF f n) (nvF f n) (nx f n) p i))
    obtain ⟨F26, eF26⟩ : ∃ N9, N9 = sI F25 153 (upd (F25.1 153) (6 + p.ct 0) 1) := ⟨_, rfl⟩
    rw [← eF26]
    have rF26 : rlF M F26 := by rw [eF26]; exact (rF25).tr (rlF.r (by decide) ⟨by decide, by decide, by show 6 ≤ _; omega⟩)
    have gF26 : F26.1 149 29 = F25.1 149 29 ∧ F26.1 149 30 = F25.1 149 30 := by rw [eF26]; exact ⟨rfl, rfl⟩
    clear eF26
    have hfaF26 : faR f n F26 _ _ := ⟨gF26.1.trans hfaF25.1, hfaF25.2.1, gF26.2.trans hfaF25.2.2⟩
    have hf9 : ¬ F26.1 149 29 = 0 := by rw [hfaF26.1]; exact hfaF26.2.1
    have hRF26 : RW ly F26.2.2 := by rw [rF26.1]; exact hR
    refine Rn.callV2 dX12_walkerLine_44 vX12_262 (rc149 hRF26) (by decide) rfl (rnum0 (M := F26) hf9 hRF26) (by omega) ⟨(Nat.le_of_ble_eq_true rfl), (Nat.le_of_ble_eq_true rfl), (Nat.le_of_ble_eq_true rfl)⟩ (fun h => by cases h) (fun v1 ly1 M1 ⟨q1, q2, q3⟩ => ?_)
    rw [q1, q2, q3]
    refine Rn.iastN (k0 := (6 + p.ct 0)) dX12_walkerLine_47 (rc154 hRF26) (by omega) (by decide) ?_
    refine Rn.aload_n dX12_walkerLine_48 rfl ?_
    refine Rn.getR dX12_walkerLine_49 fX12_27 rfl (rc149 hRF26) (show F26.2.2 149 7 = some 155 from (rpt7 hRF26)) ?_
    refine Rn.iload_n dX12_walkerLine_52 rfl ?_
    refine Rn.aload_n dX12_walkerLine_53 rfl ?_
    refine Rn.iconstv (v := 0) dX12_walkerLine_54 ic_0 ?_
    refine Rn.bipushv (v := 60) dX12_walkerLine_55 bp_60 ?_
    show Rn G l mX12_walkerLine (9, 0, 0, false) 57 [some (.ref 149), some (.int (nI (6 + p.ct 0)))] [.int 60, .int 0, .ref 149, .int (nI (6 + p.ct 0)), .ref 155] ly (sI F26 154 (upd (F26.1 154) (6 + p.ct 0) 1)) (rsP ly M f n (lnW (kdF f n) (nvF f n) (nx f n) p i))
    obtain ⟨F27, eF27⟩ : ∃ N9, N9 = sI F26 154 (upd (F26.1 154) (6 + p.ct 0) 1) := ⟨_, rfl⟩
    rw [← eF27]
    have rF27 : rlF M F27 := by rw [eF27]; exact (rF26).tr (rlF.r (by decide) ⟨by decide, by decide, by show 6 ≤ _; omega⟩)
    have gF27 : F27.1 149 29 = F26.1 149 29 ∧ F27.1 149 30 = F26.1 149 30 := by rw [eF27]; exact ⟨rfl, rfl⟩
    clear eF27
    have hfaF27 : faR f n F27 _ _ := ⟨gF27.1.trans hfaF26.1, hfaF26.2.1, gF27.2.trans hfaF26.2.2⟩
    have hf9 : ¬ F27.1 149 29 = 0 := by rw [hfaF27.1]; exact hfaF27.2.1
    have hRF27 : RW ly F27.2.2 := by rw [rF27.1]; exact hR
    refine Rn.callV2 dX12_walkerLine_57 vX12_262 (rc149 hRF27) (by decide) rfl (rnum0 (M := F27) hf9 hRF27) (by omega) ⟨(Nat.le_of_ble_eq_true rfl), (Nat.le_of_ble_eq_true rfl), (Nat.le_of_ble_eq_true rfl)⟩ (fun h => by cases h) (fun v1 ly1 M1 ⟨q1, q2, q3⟩ => ?_)
    rw [q1, q2, q3]
    refine Rn.iastN (k0 := (6 + p.ct 0)) dX12_walkerLine_60 (rc155 hRF27) (by omega) (by decide) ?_
    refine Rn.aload_n dX12_walkerLine_61 rfl ?_
    refine Rn.getI dX12_walkerLine_62 fX12_222 rfl (rc149 hRF27) ?_
    refine Rn.if_ne dX12_walkerLine_65 (fun h9 => ?_) (fun h9 => absurd h9 hf9)
    refine Rn.aload_n dX12_walkerLine_98 rfl ?_
    refine Rn.getI dX12_walkerLine_99 fX12_222 rfl (rc149 hRF27) ?_
    refine Rn.if_eq dX12_walkerLine_102 (fun h9 => absurd h9 hf9) (fun h9 => ?_)
    exact Rn.vret dX12_walkerLine_105 rfl ⟨rfl, rfl, (rF27).tr (rlF.r (by decide) ⟨by decide, by decide, by show 6 ≤ _; omega⟩), Or.inr ⟨_, _, (if_neg hne).trans (qK_n zN1a), hfaF27⟩⟩
