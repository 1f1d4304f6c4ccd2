theorem tX12_groan {G : Gx} {l : Launch} {ly : Ly} {M : Mm} {ng n : Nat} {x y z v : Int32} (hv01 : v = 0 ∨ v = 1) (hn : M.1 151 0 = nI n ∧ n ≤ 12) (hg : M.1 149 70 = nI ng ∧ ng ≤ 24) (hR : RW ly M.2.2) {Q : Qt} (hQ : (¬ ((0 ≤ x ∧ x ≤ 63) ∧ (∃ j : Nat, j < n ∧ y = nI j) ∧ (0 ≤ z ∧ z ≤ 99999) ∧ ng < 24) → ∀ K, qR M K → Q (some (.int (-1))) ly K) ∧ ((0 ≤ x ∧ x ≤ 63) → (∃ j : Nat, j < n ∧ y = nI j) → (0 ≤ z ∧ z ≤ 99999) → ng < 24 → ∀ K : Mm, K.2.2 = M.2.2 → (∀ a, a ≠ 149 → (a < 190 ∨ 194 < a) → K.1 a = M.1 a) → (∀ j, j ≠ 0 → j ≠ 70 → K.1 149 j = M.1 149 j) → K.1 149 70 = nI (ng + 1) → (K.1 190 = upd (M.1 190) ng x ∧ K.1 191 = upd (M.1 191) ng y ∧ K.1 192 = upd (M.1 192) ng z ∧ K.1 193 = upd (M.1 193) ng v ∧ K.1 194 = upd (M.1 194) ng (-1)) → Q (some (.int (nI ng))) ly K)) : Mt G l mX12_groan (2, 0, 0, false) [.ref 149, .int x, .int y, .int z, .int v] ly M Q := by
  refine Mt.of (lv := [some (.ref 149), some (.int x), some (.int y), some (.int z), some (.int v)]) rfl ?_
  refine Rn.aload_n dX12_groan_0 rfl ?_
  refine Rn.iconstv (v := 0) dX12_groan_1 ic_0 ?_
  refine Rn.putI dX12_groan_2 fX12_169 rfl rfl rfl (rc149 hR) ?_
  refine Rn.iload_n dX12_groan_5 rfl ?_
  refine Rn.if_lt dX12_groan_6 (fun k1 => ?_) (fun k1 => ?_)
  · skip
    refine Rn.iconstv (v := -1) dX12_groan_42 ic_m1 ?_
    exact Rn.iret (ty := .int) dX12_groan_43 rfl rfl (hQ.1 (fun h => absurd k1 (Int32.not_lt.mpr h.1.1)) _ qR.rf.f0)
  · skip
    refine Rn.iload_n dX12_groan_9 rfl ?_
    refine Rn.bipushv (v := 63) dX12_groan_10 bp_63 ?_
    refine Rn.icmp_gt dX12_groan_12 (fun k2 => ?_) (fun k2 => ?_)
    · skip
      refine Rn.iconstv (v := -1) dX12_groan_42 ic_m1 ?_
      exact Rn.iret (ty := .int) dX12_groan_43 rfl rfl (hQ.1 (fun h => absurd k2 (Int32.not_lt.mpr h.1.2)) _ qR.rf.f0)
    · skip
      refine Rn.aload_n dX12_groan_15 rfl ?_
      refine Rn.iload_n dX12_groan_16 rfl ?_
      refine Rn.callV1 dX12_groan_17 vX12_403 (rc149 hR) (by decide) rfl (tX12_isCell (M := sI M 149 (upd (M.1 149) 0 0)) hR) (by decide) ⟨(Nat.le_of_ble_eq_true rfl), (Nat.le_of_ble_eq_true rfl), (Nat.le_of_ble_eq_true rfl)⟩ (fun h => by cases h) (fun v1 ly1 M1 ⟨q1, q2, q3⟩ => ?_)
      rw [q1, q2, q3]
      refine Rn.topI (y := inN y (nI n)) (congrArg (inN y) hn.1) ?_
      refine Rn.if_eq dX12_groan_20 (fun k3 => ?_) (fun k3 => ?_)
      · skip
        refine Rn.iconstv (v := -1) dX12_groan_42 ic_m1 ?_
        exact Rn.iret (ty := .int) dX12_groan_43 rfl rfl (hQ.1 (fun h => (inN_1 (x := y) (k := n) (lt31c hn.2)).elim (fun k => k.2 h.2.1) (fun k => absurd (k.1.symm.trans k3) (by decide))) _ qR.rf.f0)
      · skip
        have hy : (∃ j : Nat, j < n ∧ y = nI j) := (inN_1 (x := y) (k := n) (lt31c hn.2)).elim (fun k => absurd k.1 k3) (fun k => k.2)
        refine Rn.iload_n dX12_groan_23 rfl ?_
        refine Rn.if_lt dX12_groan_24 (fun k4 => ?_) (fun k4 => ?_)
        · skip
          refine Rn.iconstv (v := -1) dX12_groan_42 ic_m1 ?_
          exact Rn.iret (ty := .int) dX12_groan_43 rfl rfl (hQ.1 (fun h => absurd k4 (Int32.not_lt.mpr h.2.2.1.1)) _ qR.rf.f0)
        · skip
          refine Rn.iload_n dX12_groan_27 rfl ?_
          refine Rn.ldc dX12_groan_28 kX12_207 ?_
          refine Rn.icmp_gt dX12_groan_30 (fun k5 => ?_) (fun k5 => ?_)
          · skip
            refine Rn.iconstv (v := -1) dX12_groan_42 ic_m1 ?_
            exact Rn.iret (ty := .int) dX12_groan_43 rfl rfl (hQ.1 (fun h => absurd k5 (Int32.not_lt.mpr h.2.2.1.2)) _ qR.rf.f0)
          · skip
            refine Rn.aload_n dX12_groan_33 rfl ?_
            refine Rn.getI dX12_groan_34 fX12_334 rfl (rc149 hR) ?_
            refine Rn.topI (y := nI ng) (hg.1) ?_
            refine Rn.bipushv (v := 24) dX12_groan_37 bp_24 ?_
            refine Rn.icmp_ne dX12_groan_39 (fun k6 => ?_) (fun k6 => ?_)
            · skip
              have hlt : ng < 24 := Nat.lt_of_le_of_ne hg.2 (fun h => k6 (by rw [h]; rfl))
              refine Rn.aload_n dX12_groan_44 rfl ?_
              refine Rn.getR dX12_groan_45 fX12_147 rfl (rc149 hR) (show M.2.2 149 72 = some 190 from (rpt72 hR)) ?_
              refine Rn.aload_n dX12_groan_48 rfl ?_
              refine Rn.getI dX12_groan_49 fX12_334 rfl (rc149 hR) ?_
              refine Rn.topI (y := nI ng) (hg.1) ?_
              refine Rn.iload_n dX12_groan_52 rfl ?_
              refine Rn.iastN (k0 := ng) dX12_groan_53 (rc190 hR) (by omega) (by decide) ?_
              refine Rn.aload_n dX12_groan_54 rfl ?_
              refine Rn.getR dX12_groan_55 fX12_150 rfl (rc149 hR) (show M.2.2 149 73 = some 191 from (rpt73 hR)) ?_
              refine Rn.aload_n dX12_groan_58 rfl ?_
              refine Rn.getI dX12_groan_59 fX12_334 rfl (rc149 hR) ?_
              refine Rn.topI (y := nI ng) (hg.1) ?_
              refine Rn.iload_n dX12_groan_62 rfl ?_
              refine Rn.iastN (k0 := ng) dX12_groan_63 (rc191 hR) (by omega) (by decide) ?_
              refine Rn.aload_n dX12_groan_64 rfl ?_
              refine Rn.getR dX12_groan_65 fX12_153 rfl (rc149 hR) (show M.2.2 149 74 = some 192 from (rpt74 hR)) ?_
              refine Rn.aload_n dX12_groan_68 rfl ?_
              refine Rn.getI dX12_groan_69 fX12_334 rfl (rc149 hR) ?_
              refine Rn.topI (y := nI ng) (hg.1) ?_
              refine Rn.iload_n dX12_groan_72 rfl ?_
              refine Rn.iastN (k0 := ng) dX12_groan_73 (rc192 hR) (by omega) (by decide) ?_
              refine Rn.aload_n dX12_groan_74 rfl ?_
              refine Rn.getR dX12_groan_75 fX12_156 rfl (rc149 hR) (show M.2.2 149 75 = some 193 from (rpt75 hR)) ?_
              refine Rn.aload_n dX12_groan_78 rfl ?_
              refine Rn.getI dX12_groan_79 fX12_334 rfl (rc149 hR) ?_
              refine Rn.topI (y := nI ng) (hg.1) ?_
              refine Rn.iload dX12_groan_82 rfl ?_
              refine Rn.zastN (k0 := ng) dX12_groan_84 (rc193 hR) (by omega) (by decide) ?_
              refine Rn.aload_n dX12_groan_85 rfl ?_
              refine Rn.getR dX12_groan_86 fX12_159 rfl (rc149 hR) (show M.2.2 149 76 = some 194 from (rpt76 hR)) ?_
              refine Rn.aload_n dX12_groan_89 rfl ?_
              refine Rn.getI dX12_groan_90 fX12_334 rfl (rc149 hR) ?_
              refine Rn.topI (y := nI ng) (hg.1) ?_
              refine Rn.iconstv (v := -1) dX12_groan_93 ic_m1 ?_
              refine Rn.iastN (k0 := ng) dX12_groan_94 (rc194 hR) (by omega) (by decide) ?_
              refine Rn.aload_n dX12_groan_95 rfl ?_
              refine Rn.dup dX12_groan_96 rfl ?_
              refine Rn.getI dX12_groan_97 fX12_334 rfl (rc149 hR) ?_
              refine Rn.topI (y := nI ng) (hg.1) ?_
              refine Rn.iconstv (v := 1) dX12_groan_100 ic_1 ?_
              refine Rn.iadd dX12_groan_101 ?_
              refine Rn.topI (y := nI (ng + 1)) (nI_add ng 1) ?_
              refine Rn.putI dX12_groan_102 fX12_334 rfl rfl rfl (rc149 hR) ?_
              refine Rn.meq (M2 := sI (sI (sI (sI (sI (sI M 149 (upd (upd (M.1 149) 0 0) 70 (nI (ng + 1)))) 190 (upd (M.1 190) ng x)) 191 (upd (M.1 191) ng y)) 192 (upd (M.1 192) ng z)) 193 (upd (M.1 193) ng (vp_nar .boolean v))) 194 (upd (M.1 194) ng (-1))) ((sI_comm (show 194 ≠ 149 by decide)).trans (congrArg (fun m9 => sI m9 194 (upd (M.1 194) ng (-1))) ((sI_comm (show 193 ≠ 149 by decide)).trans (congrArg (fun m9 => sI m9 193 (upd (M.1 193) ng (vp_nar .boolean v))) ((sI_comm (show 192 ≠ 149 by decide)).trans (congrArg (fun m9 => sI m9 192 (upd (M.1 192) ng z)) ((sI_comm (show 191 ≠ 149 by decide)).trans (congrArg (fun m9 => sI m9 191 (upd (M.1 191) ng y)) ((sI_comm (show 190 ≠ 149 by decide)).trans (congrArg (fun m9 => sI m9 190 (upd (M.1 190) ng x)) (sI_sI _ _ _ _))))))))))) ?_
              refine Rn.aload_n dX12_groan_105 rfl ?_
              refine Rn.getI dX12_groan_106 fX12_334 rfl (rc149 hR) ?_
              refine Rn.iconstv (v := 1) dX12_groan_109 ic_1 ?_
              refine Rn.isub dX12_groan_110 ?_
              refine Rn.topI (y := nI ng) (nI_subk ng 1) ?_
              rw [show vp_nar .boolean v = v by rcases hv01 with rfl | rfl <;> rfl]
              refine Rn.iret (ty := .int) dX12_groan_111 rfl rfl (hQ.2 ⟨Int32.not_lt.mp k1, Int32.not_lt.mp k2⟩ hy ⟨Int32.not_lt.mp k4, Int32.not_lt.mp k5⟩ hlt _ rfl (fun a a1 a2 => (sI_ne (by omega)).trans ((sI_ne (by omega)).trans ((sI_ne (by omega)).trans ((sI_ne (by omega)).trans ((sI_ne (by omega)).trans (sI_ne (by omega))))))) (fun j a1 a2 => (pk_un (by omega)).trans (pk_un (by omega))) rfl ⟨rfl, rfl, rfl, rfl, rfl⟩)
            · skip
              refine Rn.iconstv (v := -1) dX12_groan_42 ic_m1 ?_
              exact Rn.iret (ty := .int) dX12_groan_43 rfl rfl (hQ.1 (fun h => absurd ((nI_eq (a := ng) (b := 24) (by omega) (by decide)).mp k6) (by have := h.2.2.2; omega)) _ qR.rf.f0)
theorem tX12_unsay {G : Gx} {l : Launch} {ly : Ly} {M : Mm} {ng : Nat} {x : Int32} (hg : M.1 149 70 = nI ng ∧ ng ≤ 24) (hR : RW ly M.2.2) {Q : Qt} (hQ : ((x < 0 ∨ nI ng ≤ x ∨ ng = 24) → ∀ K, qR M K → Q (some (.int (-1))) ly K) ∧ (¬ x < 0 → ¬ nI ng ≤ x → ng < 24 → ∀ K : Mm, K.2.2 = M.2.2 → (∀ a, a ≠ 149 → a ≠ 194 → K.1 a = M.1 a) → (∀ j, j ≠ 0 → j ≠ 70 → K.1 149 j = M.1 149 j) → K.1 149 70 = nI (ng + 1) → K.1 194 = upd (M.1 194) ng x → Q (some (.int (nI ng))) ly K)) : Mt G l mX12_unsay (0, 0, 0, false) [.ref 149, .int x] ly M Q := by
  refine Mt.of (lv := [some (.ref 149), some (.int x)]) rfl ?_
  refine Rn.aload_n dX12_unsay_0 rfl ?_
  refine Rn.iconstv (v := 0) dX12_unsay_1 ic_0 ?_
  refine Rn.putI dX12_unsay_2 fX12_169 rfl rfl rfl (rc149 hR) ?_
  refine Rn.iload_n dX12_unsay_5 rfl ?_
  refine Rn.if_lt dX12_unsay_6 (fun k1 => ?_) (fun k1 => ?_)
  · skip
    refine Rn.iconstv (v := -1) dX12_unsay_26 ic_m1 ?_
    exact Rn.iret (ty := .int) dX12_unsay_27 rfl rfl (hQ.1 (Or.inl k1) _ qR.rf.f0)
  · skip
    refine Rn.iload_n dX12_unsay_9 rfl ?_
    refine Rn.aload_n dX12_unsay_10 rfl ?_
    refine Rn.getI dX12_unsay_11 fX12_334 rfl (rc149 hR) ?_
    refine Rn.topI (y := nI ng) (hg.1) ?_
    refine Rn.icmp_ge dX12_unsay_14 (fun k2 => ?_) (fun k2 => ?_)
    · skip
      refine Rn.iconstv (v := -1) dX12_unsay_26 ic_m1 ?_
      exact Rn.iret (ty := .int) dX12_unsay_27 rfl rfl (hQ.1 (Or.inr (Or.inl k2)) _ qR.rf.f0)
    · skip
      refine Rn.aload_n dX12_unsay_17 rfl ?_
      refine Rn.getI dX12_unsay_18 fX12_334 rfl (rc149 hR) ?_
      refine Rn.topI (y := nI ng) (hg.1) ?_
      refine Rn.bipushv (v := 24) dX12_unsay_21 bp_24 ?_
      refine Rn.icmp_ne dX12_unsay_23 (fun k3 => ?_) (fun k3 => ?_)
      · skip
        have hlt : ng < 24 := Nat.lt_of_le_of_ne hg.2 (fun h => k3 (by rw [h]; rfl))
        refine Rn.aload_n dX12_unsay_28 rfl ?_
        refine Rn.getR dX12_unsay_29 fX12_159 rfl (rc149 hR) (show M.2.2 149 76 = some 194 from (rpt76 hR)) ?_
        refine Rn.aload_n dX12_unsay_32 rfl ?_
        refine Rn.getI dX12_unsay_33 fX12_334 rfl (rc149 hR) ?_
        refine Rn.topI (y := nI ng) (hg.1) ?_
        refine Rn.iload_n dX12_unsay_36 rfl ?_
        refine Rn.iastN (k0 := ng) dX12_unsay_37 (rc194 hR) (by omega) (by decide) ?_
        refine Rn.aload_n dX12_unsay_38 rfl ?_
        refine Rn.dup dX12_unsay_39 rfl ?_
        refine Rn.getI dX12_unsay_40 fX12_334 rfl (rc149 hR) ?_
        refine Rn.topI (y := nI ng) (hg.1) ?_
        refine Rn.iconstv (v := 1) dX12_unsay_43 ic_1 ?_
        refine Rn.iadd dX12_unsay_44 ?_
        refine Rn.topI (y := nI (ng + 1)) (nI_add ng 1) ?_
        refine Rn.putI dX12_unsay_45 fX12_334 rfl rfl rfl (rc149 hR) ?_
        refine Rn.meq (M2 := sI (sI M 149 (upd (upd (M.1 149) 0 0) 70 (nI (ng + 1)))) 194 (upd (M.1 194) ng x)) ((sI_comm (show 194 ≠ 149 by decide)).trans (congrArg (fun m9 => sI m9 194 (upd (M.1 194) ng x)) (sI_sI _ _ _ _))) ?_
        refine Rn.aload_n dX12_unsay_48 rfl ?_
        refine Rn.getI dX12_unsay_49 fX12_334 rfl (rc149 hR) ?_
        refine Rn.iconstv (v := 1) dX12_unsay_52 ic_1 ?_
        refine Rn.isub dX12_unsay_53 ?_
        refine Rn.topI (y := nI ng) (nI_subk ng 1) ?_
        refine Rn.iret (ty := .int) dX12_unsay_54 rfl rfl (hQ.2 k1 k2 hlt _ rfl (fun a a1 a2 => (sI_ne (by omega)).trans (sI_ne (by omega))) (fun j a1 a2 => (pk_un (by omega)).trans (pk_un (by omega))) rfl rfl)
      · skip
        refine Rn.iconstv (v := -1) dX12_unsay_26 ic_m1 ?_
        exact Rn.iret (ty := .int) dX12_unsay_27 rfl rfl (hQ.1 (Or.inr (Or.inr ((nI_eq (a := ng) (b := 24) (by omega) (by decide)).mp k3))) _ qR.rf.f0)
theorem tX12_known {G : Gx} {l : Launch} {ly : Ly} {M : Mm} {ng : Nat} {x : Int32} (hg : M.1 149 70 = nI ng ∧ ng ≤ 24) (hR : RW ly M.2.2) {Q : Qt} (hQ : ((x < -1 ∨ nI ng < x) → ∀ K, qR M K → Q (some (.int 0)) ly K) ∧ (¬ x < -1 → ¬ nI ng < x → ∀ K : Mm, K.2.2 = M.2.2 → (∀ a, a ≠ 149 → K.1 a = M.1 a) → (∀ j, j ≠ 0 → j ≠ 71 → K.1 149 j = M.1 149 j) → K.1 149 71 = x → Q (some (.int 1)) ly K)) : Mt G l mX12_known (0, 0, 0, false) [.ref 149, .int x] ly M Q := by
  refine Mt.of (lv := [some (.ref 149), some (.int x)]) rfl ?_
  refine Rn.aload_n dX12_known_0 rfl ?_
  refine Rn.iconstv (v := 0) dX12_known_1 ic_0 ?_
  refine Rn.putI dX12_known_2 fX12_169 rfl rfl rfl (rc149 hR) ?_
  refine Rn.iload_n dX12_known_5 rfl ?_
  refine Rn.iconstv (v := -1) dX12_known_6 ic_m1 ?_
  refine Rn.icmp_lt dX12_known_7 (fun k1 => ?_) (fun k1 => ?_)
  · skip
    refine Rn.iconstv (v := 0) dX12_known_18 ic_0 ?_
    exact Rn.iret (ty := .boolean) dX12_known_19 rfl rfl (hQ.1 (Or.inl k1) _ qR.rf.f0)
  · skip
    refine Rn.iload_n dX12_known_10 rfl ?_
    refine Rn.aload_n dX12_known_11 rfl ?_
    refine Rn.getI dX12_known_12 fX12_334 rfl (rc149 hR) ?_
    refine Rn.topI (y := nI ng) (hg.1) ?_
    refine Rn.icmp_le dX12_known_15 (fun k2 => ?_) (fun k2 => ?_)
    · skip
      refine Rn.aload_n dX12_known_20 rfl ?_
      refine Rn.iload_n dX12_known_21 rfl ?_
      refine Rn.putI dX12_known_22 fX12_144 rfl rfl rfl (rc149 hR) ?_
      refine Rn.meq (M2 := sI M 149 (upd (upd (M.1 149) 0 0) 71 x)) (sI_sI _ _ _ _) ?_
      refine Rn.iconstv (v := 1) dX12_known_25 ic_1 ?_
      refine Rn.iret (ty := .boolean) dX12_known_26 rfl rfl (hQ.2 k1 (Int32.not_lt.mpr k2) _ rfl (fun a a1 => sI_ne (by omega)) (fun j a1 a2 => (pk_un (by omega)).trans (pk_un (by omega))) rfl)
    · skip
      refine Rn.iconstv (v := 0) dX12_known_18 ic_0 ?_
      exact Rn.iret (ty := .boolean) dX12_known_19 rfl rfl (hQ.1 (Or.inr (Int32.not_le.mp k2)) _ qR.rf.f0)
theorem tX12_fault {G : Gx} {l : Launch} {ly : Ly} {M : Mm} {x : Int32} (hR : RW ly M.2.2) {Q : Qt} (hQ : ∀ K, qR M K → Q (some (.int (fltX x (M.1 149 31) (M.1 149 32)))) ly K) : Mt G l mX12_fault (0, 0, 0, false) [.ref 149, .int x] ly M Q := by
  refine Mt.of (lv := [some (.ref 149), some (.int x)]) rfl ?_
  unfold fltX at hQ
  refine Rn.aload_n dX12_fault_0 rfl ?_
  refine Rn.iconstv (v := 0) dX12_fault_1 ic_0 ?_
  refine Rn.putI dX12_fault_2 fX12_169 rfl rfl rfl (rc149 hR) ?_
  refine Rn.iload_n dX12_fault_5 rfl ?_
  refine Rn.if_ne dX12_fault_6 (fun k1 => ?_) (fun k1 => ?_)
  · skip
    refine Rn.iload_n dX12_fault_16 rfl ?_
    refine Rn.iconstv (v := 1) dX12_fault_17 ic_1 ?_
    refine Rn.icmp_ne dX12_fault_18 (fun k2 => ?_) (fun k2 => ?_)
    · skip
      rw [if_neg k1, if_neg k2] at hQ
      refine Rn.iconstv (v := -1) dX12_fault_28 ic_m1 ?_
      exact Rn.iret (ty := .int) dX12_fault_29 rfl rfl (hQ _ qR.rf.f0)
    · skip
      rw [if_neg k1, if_pos k2] at hQ
      refine Rn.aload_n dX12_fault_21 rfl ?_
      refine Rn.getI dX12_fault_22 fX12_69 rfl (rc149 hR) ?_
      refine Rn.goto dX12_fault_25 ?_
      exact Rn.iret (ty := .int) dX12_fault_29 rfl rfl (hQ _ qR.rf.f0)
  · skip
    rw [if_pos k1] at hQ
    refine Rn.aload_n dX12_fault_9 rfl ?_
    refine Rn.getI dX12_fault_10 fX12_327 rfl (rc149 hR) ?_
    refine Rn.goto dX12_fault_13 ?_
    exact Rn.iret (ty := .int) dX12_fault_29 rfl rfl (hQ _ qR.rf.f0)
