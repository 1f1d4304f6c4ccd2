theorem tX12_keep {G : Gx} {l : Launch} {ly : Ly} {M : Mm}  {n nw t nf : Nat} {p : P4} {h0 c0 : Int32} {W : Wx} {lw : Nat → (Nat → Int32) × Nat} {s : Sc} {fc fk ca : Nat → Int32} (hS : RS M n nw t nf p h0 c0 W lw s fc fk) (hca : cas n nf c0 fc fk ca) {nd : Nat} (hD : M.1 149 51 = nI nd ∧ nd ≤ 20) (hgd : ∀ b, b < 24 → gdB M.1 b) (hR : RW ly M.2.2) {Q : Qt} (hQ : ∀ K : Mm, K.2.2 = M.2.2 → (∀ a, a ≠ 149 → (a < 169 ∨ 183 < a) → K.1 a = M.1 a) → (∀ j, j ≠ 0 → j ≠ 50 → K.1 149 j = M.1 149 j) → K.1 149 50 = 1 → K.1 183 = blk (60 * 1) 60 (sh (60 * 0) (M.1 183)) (M.1 183) → (∀ b, b < 24 → gdB K.1 b) → cpB K.1 2 M.1 0 → (∀ b, b ≠ 2 → cpB K.1 b M.1 b) → Q (some (.int (nI t))) ly K) : Mt G l mX12_keep (3, 0, 0, false) [.ref 149] ly M Q := by
  refine Mt.of (lv := [some (.ref 149)]) rfl ?_
  refine Rn.aload_n dX12_keep_0 rfl ?_
  refine Rn.iconstv (v := 0) dX12_keep_1 ic_0 ?_
  refine Rn.putI dX12_keep_2 fX12_169 rfl rfl rfl (rc149 hR) ?_
  refine Rn.aload_n dX12_keep_5 rfl ?_
  refine Rn.iconstv (v := 2) dX12_keep_6 ic_2 ?_
  refine Rn.iconstv (v := 0) dX12_keep_7 ic_0 ?_
  obtain ⟨⟨nf2, hnf12, hnf⟩, hbl⟩ := hgd 0 (by omega) (by omega)
  refine Rn.callV2 dX12_keep_8 vX12_461 (rc149 hR) (by decide) rfl (tX12_copies (M := sI M 149 (upd (M.1 149) 0 0)) (p := 2) (q := 0) (nf := nf2) (Q := fun v0 ly0 K => v0 = none ∧ ly0 = ly ∧ cbR (sI M 149 (upd (M.1 149) 0 0)) K 2 0 nf2) (by decide) (by decide) (by decide) hnf hnf12 hbl hR (fun K h => ⟨rfl, rfl, h⟩)) (by decide) ⟨(Nat.le_of_ble_eq_true rfl), (Nat.le_of_ble_eq_true rfl), (Nat.le_of_ble_eq_true rfl)⟩ (fun h => by cases h) (fun v1 ly1 N1 ⟨q1, q2, hb⟩ => ?_)
  rw [q1, q2]
  have hF1 := hb.kp
  have hRN1 : RW ly N1.2.2 := by rw [hF1.1]; exact hR
  have e183 : N1.1 183 = M.1 183 := hb.2.1 183 (by omega)
  refine Rn.aload_n dX12_keep_11 rfl ?_
  refine Rn.iconstv (v := 1) dX12_keep_12 ic_1 ?_
  refine Rn.iconstv (v := 0) dX12_keep_13 ic_0 ?_
  refine Rn.callV2 dX12_keep_14 vX12_533 (rc149 hRN1) (by decide) rfl (tX12_copiesLog (M := N1) (p := 1) (q := 0) (Q := fun v0 ly0 K => v0 = none ∧ ly0 = ly ∧ K = sI N1 183 (blk (60 * 1) 60 (sh (60 * 0) (N1.1 183)) (N1.1 183))) (by decide) (by decide) (by decide) hRN1 ⟨rfl, rfl, rfl⟩) (by decide) ⟨(Nat.le_of_ble_eq_true rfl), (Nat.le_of_ble_eq_true rfl), (Nat.le_of_ble_eq_true rfl)⟩ (fun h => by cases h) (fun v1 ly1 N2 ⟨q1, q2, hK⟩ => ?_)
  rw [q1, q2]
  have r2 : N2.2.2 = M.2.2 := by rw [hK]; exact hF1.1
  have hRN2 : RW ly N2.2.2 := by rw [r2]; exact hR
  have eo : ∀ a, a ≠ 183 → N2.1 a = N1.1 a := fun a ha => by rw [hK]; exact sI_ne ha
  have el : N2.1 183 = blk (60 * 1) 60 (sh (60 * 0) (M.1 183)) (M.1 183) := by rw [hK, ← e183]; rfl
  clear hK
  have hcb : ∀ b, cpB N2.1 b N1.1 b := fun b => cpB.eq (fun a ha => eo a (by omega))
  have ht : N2.1 169 0 = nI t := by rw [eo 169 (by omega)]; exact ((hb.ne hnf12 (by decide)).f'.1 169 (by omega)).trans hS.2.1.2.2.2.2.2.2.1.1
  refine Rn.aload_n dX12_keep_17 rfl ?_
  refine Rn.iconstv (v := 1) dX12_keep_18 ic_1 ?_
  refine Rn.putZ dX12_keep_19 fX12_337 rfl rfl rfl (by decide) (rc149 hRN2) ?_
  refine Rn.aload_n dX12_keep_22 rfl ?_
  refine Rn.getR dX12_keep_23 fX12_73 rfl (rc149 hRN2) (show N2.2.2 149 35 = some 169 from (rpt35 hRN2)) ?_
  refine Rn.iconstv (v := 0) dX12_keep_26 ic_0 ?_
  refine Rn.iald dX12_keep_27 (rc169 hRN2) (by unfold vp_in; decide) ?_
  refine Rn.topI (y := N2.1 169 0) (rfl) ?_
  refine Rn.topI (y := nI t) (ht) ?_
  refine Rn.iret (ty := .int) dX12_keep_28 rfl rfl (hQ _ r2 (fun a a1 a2 => (sI_ne a1).trans ((eo a (by omega)).trans ((hF1.2.1 a a1 (by omega)).trans (sI_ne a1)))) (fun j a1 a2 => (pk_un a2).trans ((congrFun (eo 149 (by omega)) j).trans ((congrFun (hb.2.1 149 (by omega)) j).trans (pk_un a1)))) rfl el (fun b hb2 => ?_) ((hcb 2).tr (hb.cp hnf hnf12).f').f (fun b hb2 => ((hcb b).tr (hb.ne hnf12 hb2).f').f))
  by_cases e2 : b = 2
  · subst e2; exact (((hcb 2).tr (hb.cp hnf hnf12).f').f (f := _)).gd (hgd 0 (by omega))
  · exact (((hcb b).tr (hb.ne hnf12 e2).f').f (f := _)).gd (hgd b hb2)
theorem tX12_back {G : Gx} {l : Launch} {ly : Ly} {M : Mm} (hgd : ∀ b, b < 24 → gdB M.1 b) (hR : RW ly M.2.2) {Q : Qt} (hQ : (M.1 149 50 = 0 → ∀ K, qR M K → Q (some (.int (-1))) ly K) ∧ (¬ M.1 149 50 = 0 → ∀ K : Mm, K.2.2 = M.2.2 → (∀ a, a ≠ 149 → (a < 169 ∨ 183 < a) → K.1 a = M.1 a) → (∀ j, j ≠ 0 → j ≠ 51 → K.1 149 j = M.1 149 j) → K.1 149 51 = 0 → K.1 183 = blk (60 * 0) 60 (sh (60 * 1) (M.1 183)) (M.1 183) → (∀ b, b < 24 → gdB K.1 b) → cpB K.1 0 M.1 2 → (∀ b, b ≠ 0 → cpB K.1 b M.1 b) → Q (some (.int (M.1 169 2))) ly K)) : Mt G l mX12_back (3, 0, 0, false) [.ref 149] ly M Q := by
  refine Mt.of (lv := [some (.ref 149)]) rfl ?_
  refine Rn.aload_n dX12_back_0 rfl ?_
  refine Rn.iconstv (v := 0) dX12_back_1 ic_0 ?_
  refine Rn.putI dX12_back_2 fX12_169 rfl rfl rfl (rc149 hR) ?_
  refine Rn.aload_n dX12_back_5 rfl ?_
  refine Rn.getI dX12_back_6 fX12_337 rfl (rc149 hR) ?_
  refine Rn.if_ne dX12_back_9 (fun g0 => ?_) (fun g0 => ?_)
  · skip
    have hA := hQ.2 g0
    refine Rn.aload_n dX12_back_14 rfl ?_
    refine Rn.iconstv (v := 0) dX12_back_15 ic_0 ?_
    refine Rn.iconstv (v := 2) dX12_back_16 ic_2 ?_
    obtain ⟨⟨nf2, hnf12, hnf⟩, hbl⟩ := hgd 2 (by omega) (by omega)
    refine Rn.callV2 dX12_back_17 vX12_461 (rc149 hR) (by decide) rfl (tX12_copies (M := sI M 149 (upd (M.1 149) 0 0)) (p := 0) (q := 2) (nf := nf2) (Q := fun v0 ly0 K => v0 = none ∧ ly0 = ly ∧ cbR (sI M 149 (upd (M.1 149) 0 0)) K 0 2 nf2) (by decide) (by decide) (by decide) hnf hnf12 hbl hR (fun K h => ⟨rfl, rfl, h⟩)) (by decide) ⟨(Nat.le_of_ble_eq_true rfl), (Nat.le_of_ble_eq_true rfl), (Nat.le_of_ble_eq_true rfl)⟩ (fun h => by cases h) (fun v1 ly1 N1 ⟨q1, q2, hb⟩ => ?_)
    rw [q1, q2]
    have hF1 := hb.kp
    have hRN1 : RW ly N1.2.2 := by rw [hF1.1]; exact hR
    have e183 : N1.1 183 = M.1 183 := hb.2.1 183 (by omega)
    refine Rn.aload_n dX12_back_20 rfl ?_
    refine Rn.iconstv (v := 0) dX12_back_21 ic_0 ?_
    refine Rn.iconstv (v := 1) dX12_back_22 ic_1 ?_
    refine Rn.callV2 dX12_back_23 vX12_533 (rc149 hRN1) (by decide) rfl (tX12_copiesLog (M := N1) (p := 0) (q := 1) (Q := fun v0 ly0 K => v0 = none ∧ ly0 = ly ∧ K = sI N1 183 (blk (60 * 0) 60 (sh (60 * 1) (N1.1 183)) (N1.1 183))) (by decide) (by decide) (by decide) hRN1 ⟨rfl, rfl, rfl⟩) (by decide) ⟨(Nat.le_of_ble_eq_true rfl), (Nat.le_of_ble_eq_true rfl), (Nat.le_of_ble_eq_true rfl)⟩ (fun h => by cases h) (fun v1 ly1 N2 ⟨q1, q2, hK⟩ => ?_)
    rw [q1, q2]
    have r2 : N2.2.2 = M.2.2 := by rw [hK]; exact hF1.1
    have hRN2 : RW ly N2.2.2 := by rw [r2]; exact hR
    have eo : ∀ a, a ≠ 183 → N2.1 a = N1.1 a := fun a ha => by rw [hK]; exact sI_ne ha
    have el : N2.1 183 = blk (60 * 0) 60 (sh (60 * 1) (M.1 183)) (M.1 183) := by rw [hK, ← e183]; rfl
    clear hK
    have hcb : ∀ b, cpB N2.1 b N1.1 b := fun b => cpB.eq (fun a ha => eo a (by omega))
    have ht : N2.1 169 0 = M.1 169 2 := by rw [eo 169 (by omega)]; exact (hb.cp hnf hnf12).f'.1 169 (by omega)
    refine Rn.aload_n dX12_back_26 rfl ?_
    refine Rn.iconstv (v := 0) dX12_back_27 ic_0 ?_
    refine Rn.putI dX12_back_28 fX12_340 rfl rfl rfl (rc149 hRN2) ?_
    refine Rn.aload_n dX12_back_31 rfl ?_
    refine Rn.getR dX12_back_32 fX12_73 rfl (rc149 hRN2) (show N2.2.2 149 35 = some 169 from (rpt35 hRN2)) ?_
    refine Rn.iconstv (v := 0) dX12_back_35 ic_0 ?_
    refine Rn.iald dX12_back_36 (rc169 hRN2) (by unfold vp_in; decide) ?_
    refine Rn.topI (y := N2.1 169 0) (rfl) ?_
    refine Rn.topI (y := M.1 169 2) (ht) ?_
    refine Rn.iret (ty := .int) dX12_back_37 rfl rfl (hA _ r2 (fun a a1 a2 => (sI_ne a1).trans ((eo a (by omega)).trans ((hF1.2.1 a a1 (by omega)).trans (sI_ne a1)))) (fun j a1 a2 => (pk_un a2).trans ((congrFun (eo 149 (by omega)) j).trans ((congrFun (hb.2.1 149 (by omega)) j).trans (pk_un a1)))) rfl el (fun b hb2 => ?_) ((hcb 0).tr (hb.cp hnf hnf12).f').f (fun b hb2 => ((hcb b).tr (hb.ne hnf12 hb2).f').f))
    by_cases e2 : b = 0
    · subst e2; exact (((hcb 0).tr (hb.cp hnf hnf12).f').f (f := _)).gd (hgd 2 (by omega))
    · exact (((hcb b).tr (hb.ne hnf12 e2).f').f (f := _)).gd (hgd b hb2)
  · skip
    refine Rn.iconstv (v := -1) dX12_back_12 ic_m1 ?_
    exact Rn.iret (ty := .int) dX12_back_13 rfl rfl (hQ.1 g0 _ qR.rf.f0)
