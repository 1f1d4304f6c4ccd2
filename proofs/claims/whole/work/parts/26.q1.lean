theorem lt31 {n : Nat} (h : n ≤ 6) : n < 2 ^ 31 := by omega
theorem lt31c {n : Nat} (h : n ≤ 12) : n < 2 ^ 31 := by omega
theorem nat_of0 {x b : Int32} {k : Nat} (hb : b = nI k) (hk : k < 2 ^ 31) (h1 : 0 ≤ x) (h2 : x ≤ b) : ∃ j : Nat, j ≤ k ∧ x = nI j := by
  have h0 : ¬ x < 0 := Int32.not_lt.mpr h1
  obtain ⟨j, hj, rfl⟩ := nI_of h0
  refine ⟨j, ?_, rfl⟩
  rw [hb] at h2; exact (nI_leI hj hk).mp h2
theorem tX11_owes {G : Gx} {l : Launch} {ly : Ly} {M : Mm} {pl n nw nu nv nf : Nat} {x y : Int32} (hXS : XS ly M pl n nw nu nv) (hF : M.1 87 0 = nI nf ∧ nf ≤ 8 ∧ ∀ i, i < nf → vp_in (M.1 88 i) 12) {Q : Qt} (hQ : (¬ ((∃ j : Nat, j < nw ∧ x = nI j) ∧ (1 ≤ y ∧ y ≤ 64)) → Q (some (.int (-1))) ly M) ∧ (∀ w N : Nat, w < nw → x = nI w → 1 ≤ N → N ≤ 64 → y = nI N → ∀ M' : Mm, quX M M' → Q (some (.int (mx 0 (hgS (TG M.1 pl n nw (fun k => M.1 (pl + 7 + k)) (pl + 18) nu (pl + 21) nv (M.1 75 4) 0 1 (M.1 90)) (vS M.1 75) n N - hgS (TG M.1 pl n nw (fun k => M.1 (pl + 7 + k)) (pl + 18) nu (pl + 21) nv (M.1 75 4) 0 1 (M.1 90)) (stgS (vS M.1 75) (upd (M.1 86) w 2)) n N)))) ly M')) : Mt G l mX11_owes (8, 0, 0, false) [.ref 0, .int x, .int y] ly M Q := by
  have hXS0 := hXS
  obtain ⟨hX, hpl, hp7, ⟨n0, n1, n2, n3⟩, ⟨hn, hn2, hn12⟩, ⟨hw1, hw2, hw6⟩, ⟨hu1, hu2, hv1, hv2⟩, hgl, hbb⟩ := hXS
  refine Mt.of (lv := [some (.ref 0), some (.int x), some (.int y), none]) rfl ?_
  refine Rn.aload_n dX11_owes_0 rfl ?_
  refine Rn.iload_n dX11_owes_1 rfl ?_
  refine Rn.callV1 dX11_owes_2 vX11_125 (xc0 hX) (by decide) rfl (tX11_isWalker hX hpl hp7) (by decide) ⟨(Nat.le_of_ble_eq_true rfl), (Nat.le_of_ble_eq_true rfl), (Nat.le_of_ble_eq_true rfl)⟩ (fun h => by cases h) (fun v1 ly1 M1 ⟨q1, q2, q3⟩ => ?_)
  rw [q1, q2, q3]
  refine Rn.topI (y := inN x (nI nw)) (by rw [hw1]) ?_
  refine Rn.if_eq dX11_owes_5 (fun g1 => ?_) (fun g1 => ?_)
  · skip
    refine Rn.iconstv (v := -1) dX11_owes_18 ic_m1 ?_
    exact Rn.iret (ty := .int) dX11_owes_19 rfl rfl (hQ.1 (fun h => (inN_1 (x := x) (k := nw) (lt31 hw6)).elim (fun k => k.2 h.1) (fun k => absurd (k.1.symm.trans g1) (by decide))))
  · skip
    obtain ⟨w, hw, rfl⟩ : ∃ j : Nat, j < nw ∧ x = nI j := (inN_1 (x := x) (k := nw) (lt31 hw6)).elim (fun k => absurd k.1 g1) (fun k => k.2)
    refine Rn.iload_n dX11_owes_8 rfl ?_
    refine Rn.iconstv (v := 1) dX11_owes_9 ic_1 ?_
    refine Rn.bipushv (v := 64) dX11_owes_10 bp_64 ?_
    refine Rn.callS3 dX11_owes_12 vX11_295 (tX11_isIn) (by decide) ⟨(Nat.le_of_ble_eq_true rfl), (Nat.le_of_ble_eq_true rfl), (Nat.le_of_ble_eq_true rfl)⟩ (fun h => by cases h) (fun v1 ly1 M1 ⟨q1, q2, q3⟩ => ?_)
    rw [q1, q2, q3]
    refine Rn.if_ne dX11_owes_15 (fun g2 => ?_) (fun g2 => ?_)
    · skip
      obtain ⟨N, hN1, hN2, rfl⟩ : ∃ j : Nat, 1 ≤ j ∧ j ≤ 64 ∧ y = nI j := (inR_1 (x := y) (lo := 1) (hi := 64)).elim (fun k => absurd k.1 g2) (fun k => nat_of (b := 64) (k := 64) rfl (by decide) k.2.1 k.2.2)
      refine Rn.aload_n dX11_owes_20 rfl ?_
      refine Rn.iconstv (v := 1) dX11_owes_21 ic_1 ?_
      refine Rn.callV1 dX11_owes_22 vX11_299 (xc0 hX) (by decide) rfl (trNow (Q := fun v0 ly0 M0 => v0 = none ∧ ly0 = ly ∧ Tr ly M M0 pl n (pl + 7) nw (fun k => M.1 (pl + 7 + k)) (pl + 18) nu (pl + 21) nv (M.1 75 4) 0 1 (M.1 90) nf (M.1 88) (M.1 89) (vS M.1 75) ∧ quT M M0) (Or.inr rfl) hXS0 hF.1 quX.rf (fun K h u => ⟨rfl, rfl, h, u⟩)) (by decide) ⟨(Nat.le_of_ble_eq_true rfl), (Nat.le_of_ble_eq_true rfl), (Nat.le_of_ble_eq_true rfl)⟩ (fun h => by cases h) (fun v1 ly1 N1 ⟨q1, q2, hT1, hU1⟩ => ?_)
      rw [q1, q2]
      have hXN1 := (hT1.1).xw hX
      have hplN1 : N1.2.2 0 3 = some pl := ((hT1.1).2.2 0 3 (by decide)).trans hpl
      have hnN1 : N1.1 pl 0 = nI n := (congrFun ((hT1.1).p0 hp7) 0).trans hn
      have hw1N1 : N1.1 (pl + 1) 0 = nI nw := (congrFun ((hT1.1).pk hp7 (k := 1) (by decide)) 0).trans hw1
      refine Rn.aload_n dX11_owes_25 rfl ?_
      refine Rn.getR dX11_owes_26 fX11_43 rfl (xc0 hXN1) (show N1.2.2 0 6 = some 92 from (xp0_6 hXN1)) ?_
      refine Rn.iload_n dX11_owes_29 rfl ?_
      refine Rn.ldcw dX11_owes_30 kX11_269 ?_
      refine Rn.callV2 dX11_owes_33 vX11_303 (xc92 hXN1) (by decide) rfl (trHighAll (Q := fun v0 ly0 M0 => v0 = some (.int (hgS (TG M.1 pl n nw (fun k => M.1 (pl + 7 + k)) (pl + 18) nu (pl + 21) nv (M.1 75 4) 0 1 (M.1 90)) (vS M.1 75) n N)) ∧ ly0 = ly ∧ quX M M0 ∧ quT N1 M0) (by omega) hXS0.ok hT1 (fun K h u => ⟨rfl, rfl, h, u⟩)) (by decide) ⟨(Nat.le_of_ble_eq_true rfl), (Nat.le_of_ble_eq_true rfl), (Nat.le_of_ble_eq_true rfl)⟩ (fun h => by cases h) (fun v1 ly1 N2 ⟨q1, q2, hq2, hU2⟩ => ?_)
      rw [q1, q2]
      have hXN2 := (hq2).xw hX
      have hplN2 : N2.2.2 0 3 = some pl := ((hq2).2.2 0 3 (by decide)).trans hpl
      have hnN2 : N2.1 pl 0 = nI n := (congrFun ((hq2).p0 hp7) 0).trans hn
      have hw1N2 : N2.1 (pl + 1) 0 = nI nw := (congrFun ((hq2).pk hp7 (k := 1) (by decide)) 0).trans hw1
      refine Rn.istore_n (lv' := [some (.ref 0), some (.int (nI w)), some (.int (nI N)), some (.int (hgS (TG M.1 pl n nw (fun k => M.1 (pl + 7 + k)) (pl + 18) nu (pl + 21) nv (M.1 75 4) 0 1 (M.1 90)) (vS M.1 75) n N))]) dX11_owes_36 (by decide) rfl ?_
      refine Rn.aload_n dX11_owes_37 rfl ?_
      refine Rn.iconstv (v := 1) dX11_owes_38 ic_1 ?_
      refine Rn.callV1 dX11_owes_39 vX11_299 (xc0 hXN2) (by decide) rfl (trNow (Q := fun v0 ly0 M0 => v0 = none ∧ ly0 = ly ∧ Tr ly M M0 pl n (pl + 7) nw (fun k => M.1 (pl + 7 + k)) (pl + 18) nu (pl + 21) nv (M.1 75 4) 0 1 (M.1 90) nf (M.1 88) (M.1 89) (vS M.1 75) ∧ quT N2 M0) (Or.inr rfl) hXS0 hF.1 hq2 (fun K h u => ⟨rfl, rfl, h, u⟩)) (by decide) ⟨(Nat.le_of_ble_eq_true rfl), (Nat.le_of_ble_eq_true rfl), (Nat.le_of_ble_eq_true rfl)⟩ (fun h => by cases h) (fun v1 ly1 N3 ⟨q1, q2, hT3, hU3⟩ => ?_)
      rw [q1, q2]
      have hXN3 := (hT3.1).xw hX
      have hplN3 : N3.2.2 0 3 = some pl := ((hT3.1).2.2 0 3 (by decide)).trans hpl
      have hnN3 : N3.1 pl 0 = nI n := (congrFun ((hT3.1).p0 hp7) 0).trans hn
      have hw1N3 : N3.1 (pl + 1) 0 = nI nw := (congrFun ((hT3.1).pk hp7 (k := 1) (by decide)) 0).trans hw1
      refine Rn.aload_n dX11_owes_42 rfl ?_
      refine Rn.getR dX11_owes_43 fX11_43 rfl (xc0 hXN3) (show N3.2.2 0 6 = some 92 from (xp0_6 hXN3)) ?_
      refine Rn.getR dX11_owes_46 fX11_136 rfl (xc92 hXN3) (show N3.2.2 92 10 = some 103 from (xp92_10 hXN3)) ?_
      refine Rn.iload_n dX11_owes_49 rfl ?_
      refine Rn.iconstv (v := 2) dX11_owes_50 ic_2 ?_
      refine Rn.iastN (k0 := w) dX11_owes_51 (xc103 hXN3) (by omega) (by decide) ?_
      refine Rn.iconstv (v := 0) dX11_owes_52 ic_0 ?_
      refine Rn.iload_n dX11_owes_53 rfl ?_
      refine Rn.aload_n dX11_owes_54 rfl ?_
      refine Rn.getR dX11_owes_55 fX11_43 rfl (xc0 hXN3) (show N3.2.2 0 6 = some 92 from (xp0_6 hXN3)) ?_
      refine Rn.iload_n dX11_owes_58 rfl ?_
      refine Rn.ldcw dX11_owes_59 kX11_269 ?_
      have hT4m : Tr ly M (sI N3 103 (upd (N3.1 103) w 2)) pl n (pl + 7) nw (fun k => M.1 (pl + 7 + k)) (pl + 18) nu (pl + 21) nv (M.1 75 4) 0 1 (M.1 90) nf (M.1 88) (M.1 89) (stgS (vS M.1 75) (upd (M.1 86) w 2)) := Tr.s_sg hXS0.ok hT3 (upd (N3.1 103) w 2) (hT3.2.2.2.2.2.2.2.2.2.2.1.2.2.1.up (k := w) (x := 2) (y := 2) rfl)
      revert hT4m
      generalize (sI N3 103 (upd (N3.1 103) w 2)) = N4
      intro hT4m
      have hT4 : Tr ly M N4 pl n (pl + 7) nw (fun k => M.1 (pl + 7 + k)) (pl + 18) nu (pl + 21) nv (M.1 75 4) 0 1 (M.1 90) nf (M.1 88) (M.1 89) (stgS (vS M.1 75) (upd (M.1 86) w 2)) := hT4m
      have hXN4 := (hT4.1).xw hX
      have hplN4 : N4.2.2 0 3 = some pl := ((hT4.1).2.2 0 3 (by decide)).trans hpl
      have hnN4 : N4.1 pl 0 = nI n := (congrFun ((hT4.1).p0 hp7) 0).trans hn
      have hw1N4 : N4.1 (pl + 1) 0 = nI nw := (congrFun ((hT4.1).pk hp7 (k := 1) (by decide)) 0).trans hw1
      refine Rn.callV2 dX11_owes_62 vX11_303 (xc92 hXN4) (by decide) rfl (trHighAll (Q := fun v0 ly0 M0 => v0 = some (.int (hgS (TG M.1 pl n nw (fun k => M.1 (pl + 7 + k)) (pl + 18) nu (pl + 21) nv (M.1 75 4) 0 1 (M.1 90)) (stgS (vS M.1 75) (upd (M.1 86) w 2)) n N)) ∧ ly0 = ly ∧ quX M M0 ∧ quT N4 M0) (by omega) hXS0.ok hT4 (fun K h u => ⟨rfl, rfl, h, u⟩)) (by decide) ⟨(Nat.le_of_ble_eq_true rfl), (Nat.le_of_ble_eq_true rfl), (Nat.le_of_ble_eq_true rfl)⟩ (fun h => by cases h) (fun v1 ly1 N5 ⟨q1, q2, hq5, hU5⟩ => ?_)
      rw [q1, q2]
      have hXN5 := (hq5).xw hX
      have hplN5 : N5.2.2 0 3 = some pl := ((hq5).2.2 0 3 (by decide)).trans hpl
      have hnN5 : N5.1 pl 0 = nI n := (congrFun ((hq5).p0 hp7) 0).trans hn
      have hw1N5 : N5.1 (pl + 1) 0 = nI nw := (congrFun ((hq5).pk hp7 (k := 1) (by decide)) 0).trans hw1
      refine Rn.isub dX11_owes_65 ?_
      refine Rn.mmax dX11_owes_66 jX11_342 jw_mmax ⟨(Nat.le_of_ble_eq_true rfl), (Nat.le_of_ble_eq_true rfl)⟩ ?_
      exact Rn.iret (ty := .int) dX11_owes_69 rfl rfl (hQ.2 w N hw rfl hN1 hN2 rfl N5 hq5)
    · skip
      refine Rn.iconstv (v := -1) dX11_owes_18 ic_m1 ?_
      exact Rn.iret (ty := .int) dX11_owes_19 rfl rfl (hQ.1 (fun h => inR_1.elim (fun k => k.2 h.2) (fun k => absurd (k.1.symm.trans g2) (by decide))))
theorem hos_q {M K : Mm} (h : quX M K) {pl n nw nu nv N : Nat} (hp7 : pl = 7 ∨ pl = 41) {x : Int32} : hgS (TX K.1 pl n nw nu nv (K.1 75 4) 0 1 (K.1 90)) (zsc (K.1 75 15) (lvO x (fun _ => 0) 6)) n N = hgS (TG M.1 pl n nw (fun k => M.1 (pl + 7 + k)) (pl + 18) nu (pl + 21) nv (M.1 75 4) 0 1 (M.1 90)) (zsc (M.1 75 15) (lvO x (fun _ => 0) 6)) n N := by
  show _ = hgS (TX M.1 pl n nw nu nv (M.1 75 4) 0 1 (M.1 90)) (zsc (M.1 75 15) (lvO x (fun _ => 0) 6)) n N
  unfold TX
  rw [h.at (k := 75) (by omega), h.at (k := 90) (by omega), h.p0 hp7, h.pk hp7 (k := 8) (by decide), h.pk hp7 (k := 9) (by decide), h.pk hp7 (k := 10) (by decide), h.pk hp7 (k := 11) (by decide), h.pk hp7 (k := 12) (by decide), h.pk hp7 (k := 19) (by decide), h.pk hp7 (k := 22) (by decide)]
theorem tX11_cancel {G : Gx} {l : Launch} {ly : Ly} {M : Mm} {pl n nw nu nv : Nat} {x y z : Int32} (hXS : XS ly M pl n nw nu nv) {Q : Qt} (hQ : (¬ ((∃ j : Nat, j < nw ∧ x = nI j) ∧ (∃ j : Nat, j < nw ∧ y = nI j) ∧ ¬ x = y ∧ (1 ≤ z ∧ z ≤ 64)) → Q (some (.int (-2147483648))) ly M) ∧ (∀ a b N : Nat, a < nw → x = nI a → b < nw → y = nI b → ¬ a = b → 1 ≤ N → N ≤ 64 → z = nI N → ∀ M' : Mm, quX M M' → Q (some (.int (hgS (TG M.1 pl n nw (fun k => M.1 (pl + 7 + k)) (pl + 18) nu (pl + 21) nv (M.1 75 4) 0 1 (M.1 90)) (zsc (M.1 75 15) (lvO (1 <<< (nI a &&& 31)) (fun _ => 0) 6)) n N + hgS (TG M.1 pl n nw (fun k => M.1 (pl + 7 + k)) (pl + 18) nu (pl + 21) nv (M.1 75 4) 0 1 (M.1 90)) (zsc (M.1 75 15) (lvO (1 <<< (nI b &&& 31)) (fun _ => 0) 6)) n N - hgS (TG M.1 pl n nw (fun k => M.1 (pl + 7 + k)) (pl + 18) nu (pl + 21) nv (M.1 75 4) 0 1 (M.1 90)) (zsc (M.1 75 15) (lvO ((1 <<< (nI a &&& 31)) ||| (1 <<< (nI b &&& 31))) (fun _ => 0) 6)) n N))) ly M')) : Mt G l mX11_cancel (8, 0, 0, false) [.ref 0, .int x, .int y, .int z] ly M Q := by
  have hXS0 := hXS
  obtain ⟨hX, hpl, hp7, ⟨n0, n1, n2, n3⟩, ⟨hn, hn2, hn12⟩, ⟨hw1, hw2, hw6⟩, ⟨hu1, hu2, hv1, hv2⟩, hgl, hbb⟩ := hXS
  refine Mt.of (lv := [some (.ref 0), some (.int x), some (.int y), some (.int z), none, none]) rfl ?_
  refine Rn.aload_n dX11_cancel_0 rfl ?_
  refine Rn.iload_n dX11_cancel_1 rfl ?_
  refine Rn.callV1 dX11_cancel_2 vX11_125 (xc0 hX) (by decide) rfl (tX11_isWalker hX hpl hp7) (by decide) ⟨(Nat.le_of_ble_eq_true rfl), (Nat.le_of_ble_eq_true rfl), (Nat.le_of_ble_eq_true rfl)⟩ (fun h => by cases h) (fun v1 ly1 M1 ⟨q1, q2, q3⟩ => ?_)
  rw [q1, q2, q3]
  refine Rn.topI (y := inN x (nI nw)) (by rw [hw1]) ?_
  refine Rn.if_eq dX11_cancel_5 (fun g1 => ?_) (fun g1 => ?_)
  · skip
    refine Rn.ldc dX11_cancel_31 kX11_164 ?_
    exact Rn.iret (ty := .int) dX11_cancel_33 rfl rfl (hQ.1 (fun h => (inN_1 (x := x) (k := nw) (lt31 hw6)).elim (fun k => k.2 h.1) (fun k => absurd (k.1.symm.trans g1) (by decide))))
  · skip
    obtain ⟨a, ha, rfl⟩ : ∃ j : Nat, j < nw ∧ x = nI j := (inN_1 (x := x) (k := nw) (lt31 hw6)).elim (fun k => absurd k.1 g1) (fun k => k.2)
    refine Rn.aload_n dX11_cancel_8 rfl ?_
    refine Rn.iload_n dX11_cancel_9 rfl ?_
    refine Rn.callV1 dX11_cancel_10 vX11_125 (xc0 hX) (by decide) rfl (tX11_isWalker hX hpl hp7) (by decide) ⟨(Nat.le_of_ble_eq_true rfl), (Nat.le_of_ble_eq_true rfl), (Nat.le_of_ble_eq_true rfl)⟩ (fun h => by cases h) (fun v1 ly1 M1 ⟨q1, q2, q3⟩ => ?_)
    rw [q1, q2, q3]
    refine Rn.topI (y := inN y (nI nw)) (by rw [hw1]) ?_
    refine Rn.if_eq dX11_cancel_13 (fun g2 => ?_) (fun g2 => ?_)
    · skip
      refine Rn.ldc dX11_cancel_31 kX11_164 ?_
      exact Rn.iret (ty := .int) dX11_cancel_33 rfl rfl (hQ.1 (fun h => (inN_1 (x := y) (k := nw) (lt31 hw6)).elim (fun k => k.2 h.2.1) (fun k => absurd (k.1.symm.trans g2) (by decide))))
    · skip
      obtain ⟨b, hb, rfl⟩ : ∃ j : Nat, j < nw ∧ y = nI j := (inN_1 (x := y) (k := nw) (lt31 hw6)).elim (fun k => absurd k.1 g2) (fun k => k.2)
      refine Rn.iload_n dX11_cancel_16 rfl ?_
      refine Rn.iload_n dX11_cancel_17 rfl ?_
      refine Rn.icmp_eq dX11_cancel_18 (fun ge => ?_) (fun ge => ?_)
      · skip
        refine Rn.ldc dX11_cancel_31 kX11_164 ?_
        exact Rn.iret (ty := .int) dX11_cancel_33 rfl rfl (hQ.1 (fun h => h.2.2.1 ge))
      · skip
        refine Rn.iload_n dX11_cancel_21 rfl ?_
        refine Rn.iconstv (v := 1) dX11_cancel_22 ic_1 ?_
        refine Rn.bipushv (v := 64) dX11_cancel_23 bp_64 ?_
        refine Rn.callS3 dX11_cancel_25 vX11_295 (tX11_isIn) (by decide) ⟨(Nat.le_of_ble_eq_true rfl), (Nat.le_of_ble_eq_true rfl), (Nat.le_of_ble_eq_true rfl)⟩ (fun h => by cases h) (fun v1 ly1 M1 ⟨q1, q2, q3⟩ => ?_)
        rw [q1, q2, q3]
        refine Rn.if_ne dX11_cancel_28 (fun g3 => ?_) (fun g3 => ?_)
        · skip
          obtain ⟨N, hN1, hN2, rfl⟩ : ∃ j : Nat, 1 ≤ j ∧ j ≤ 64 ∧ z = nI j := (inR_1 (x := z) (lo := 1) (hi := 64)).elim (fun k => absurd k.1 g3) (fun k => nat_of (b := 64) (k := 64) rfl (by decide) k.2.1 k.2.2)
          refine Rn.iconstv (v := 1) dX11_cancel_34 ic_1 ?_
          refine Rn.iload_n dX11_cancel_35 rfl ?_
          refine Rn.ishl dX11_cancel_36 ?_
          refine Rn.istore (lv' := [some (.ref 0), some (.int (nI a)), some (.int (nI b)), some (.int (nI N)), some (.int (1 <<< ((nI a) &&& 31))), none]) dX11_cancel_37 (by decide) rfl ?_
          refine Rn.iconstv (v := 1) dX11_cancel_39 ic_1 ?_
          refine Rn.iload_n dX11_cancel_40 rfl ?_
          refine Rn.ishl dX11_cancel_41 ?_
          refine Rn.istore (lv' := [some (.ref 0), some (.int (nI a)), some (.int (nI b)), some (.int (nI N)), some (.int (1 <<< ((nI a) &&& 31))), some (.int (1 <<< ((nI b) &&& 31)))]) dX11_cancel_42 (by decide) rfl ?_
          refine Rn.aload_n dX11_cancel_44 rfl ?_
          refine Rn.iload dX11_cancel_45 rfl ?_
          refine Rn.iload_n dX11_cancel_47 rfl ?_
          refine Rn.callV2 dX11_cancel_48 vX11_336 (xc0 hX) (by decide) rfl (tX11_highOfSet (Q := fun v0 ly0 M0 => v0 = some (.int (hgS (TG M.1 pl n nw (fun k => M.1 (pl + 7 + k)) (pl + 18) nu (pl + 21) nv (M.1 75 4) 0 1 (M.1 90)) (zsc (M.1 75 15) (lvO (1 <<< (nI a &&& 31)) (fun _ => 0) 6)) n N)) ∧ ly0 = ly ∧ quX M M0) (N := N) (by omega) (quX.rf (M := M).xs hXS0) (fun K h _ => ⟨by rw [← hos_q (quX.rf (M := M)) hp7], rfl, (quX.rf (M := M)).tr2 h⟩)) (by decide) ⟨(Nat.le_of_ble_eq_true rfl), (Nat.le_of_ble_eq_true rfl), (Nat.le_of_ble_eq_true rfl)⟩ (fun h => by cases h) (fun v1 ly1 N1 ⟨q1, q2, hq1⟩ => ?_)
          rw [q1, q2]
          have hXN1 := (hq1).xw hX
          have hplN1 : N1.2.2 0 3 = some pl := ((hq1).2.2 0 3 (by decide)).trans hpl
          have hnN1 : N1.1 pl 0 = nI n := (congrFun ((hq1).p0 hp7) 0).trans hn
          have hw1N1 : N1.1 (pl + 1) 0 = nI nw := (congrFun ((hq1).pk hp7 (k := 1) (by decide)) 0).trans hw1
          refine Rn.aload_n dX11_cancel_51 rfl ?_
          refine Rn.iload dX11_cancel_52 rfl ?_
          refine Rn.iload_n dX11_cancel_54 rfl ?_
          refine Rn.callV2 dX11_cancel_55 vX11_336 (xc0 hXN1) (by decide) rfl (tX11_highOfSet (Q := fun v0 ly0 M0 => v0 = some (.int (hgS (TG M.1 pl n nw (fun k => M.1 (pl + 7 + k)) (pl + 18) nu (pl + 21) nv (M.1 75 4) 0 1 (M.1 90)) (zsc (M.1 75 15) (lvO (1 <<< (nI b &&& 31)) (fun _ => 0) 6)) n N)) ∧ ly0 = ly ∧ quX M M0) (N := N) (by omega) (hq1.xs hXS0) (fun K h _ => ⟨by rw [← hos_q hq1 hp7], rfl, hq1.tr2 h⟩)) (by decide) ⟨(Nat.le_of_ble_eq_true rfl), (Nat.le_of_ble_eq_true rfl), (Nat.le_of_ble_eq_true rfl)⟩ (fun h => by cases h) (fun v1 ly1 N2 ⟨q1, q2, hq2⟩ => ?_)
          rw [q1, q2]
          have hXN2 := (hq2).xw hX
          have hplN2 : N2.2.2 0 3 = some pl := ((hq2).2.2 0 3 (by decide)).trans hpl
          have hnN2 : N2.1 pl 0 = nI n := (congrFun ((hq2).p0 hp7) 0).trans hn
          have hw1N2 : N2.1 (pl + 1) 0 = nI nw := (congrFun ((hq2).pk hp7 (k := 1) (by decide)) 0).trans hw1
          refine Rn.iadd dX11_cancel_58 ?_
          refine Rn.aload_n dX11_cancel_59 rfl ?_
          refine Rn.iload dX11_cancel_60 rfl ?_
          refine Rn.iload dX11_cancel_62 rfl ?_
          refine Rn.ior dX11_cancel_64 ?_
          refine Rn.iload_n dX11_cancel_65 rfl ?_
          refine Rn.callV2 dX11_cancel_66 vX11_336 (xc0 hXN2) (by decide) rfl (tX11_highOfSet (Q := fun v0 ly0 M0 => v0 = some (.int (hgS (TG M.1 pl n nw (fun k => M.1 (pl + 7 + k)) (pl + 18) nu (pl + 21) nv (M.1 75 4) 0 1 (M.1 90)) (zsc (M.1 75 15) (lvO ((1 <<< (nI a &&& 31)) ||| (1 <<< (nI b &&& 31))) (fun _ => 0) 6)) n N)) ∧ ly0 = ly ∧ quX M M0) (N := N) (by omega) (hq2.xs hXS0) (fun K h _ => ⟨by rw [← hos_q hq2 hp7], rfl, hq2.tr2 h⟩)) (by decide) ⟨(Nat.le_of_ble_eq_true rfl), (Nat.le_of_ble_eq_true rfl), (Nat.le_of_ble_eq_true rfl)⟩ (fun h => by cases h) (fun v1 ly1 N3 ⟨q1, q2, hq3⟩ => ?_)
          rw [q1, q2]
          have hXN3 := (hq3).xw hX
          have hplN3 : N3.2.2 0 3 = some pl := ((hq3).2.2 0 3 (by decide)).trans hpl
          have hnN3 : N3.1 pl 0 = nI n := (congrFun ((hq3).p0 hp7) 0).trans hn
          have hw1N3 : N3.1 (pl + 1) 0 = nI nw := (congrFun ((hq3).pk hp7 (k := 1) (by decide)) 0).trans hw1
          refine Rn.isub dX11_cancel_69 ?_
          exact Rn.iret (ty := .int) dX11_cancel_70 rfl rfl (hQ.2 a b N ha rfl hb rfl (fun e => ge (by rw [e])) hN1 hN2 rfl N3 hq3)
        · skip
          refine Rn.ldc dX11_cancel_31 kX11_164 ?_
          exact Rn.iret (ty := .int) dX11_cancel_33 rfl rfl (hQ.1 (fun h => inR_1.elim (fun k => k.2 h.2.2.2) (fun k => absurd (k.1.symm.trans g3) (by decide))))
/-- the first time from k on at which the cell c is out as much as wk -/
def crk (T : Sc → Sc) (s : Sc) (c : Nat) (wk : Int32) : Nat → Nat → Int32
  | 0, _ => -2
  | f + 1, k => if wk ≤ ab ((itF (fun _ => T) k s).1 c) then nI k else crk T s c wk f (k + 1)
theorem tX11_creaks {G : Gx} {l : Launch} {ly : Ly} {M : Mm} {pl n nw nu nv nf : Nat} {ns : Nat} {x : Int32} (hs1 : M.1 (pl + 1) 2 = nI ns) (hs4 : ns ≤ 4) (hsc : ∀ i, i < ns → vp_in (M.1 (pl + 16) i) 12) (hXS : XS ly M pl n nw nu nv) (hF : M.1 87 0 = nI nf ∧ nf ≤ 8 ∧ ∀ i, i < nf → vp_in (M.1 88 i) 12) {Q : Qt} (hQ : (¬ (∃ j : Nat, j < ns ∧ x = nI j) → Q (some (.int (-1))) ly M) ∧ (∀ i : Nat, i < ns → x = nI i → ∀ M' : Mm, quX M M' → Q (some (.int (crk (TG M.1 pl n nw (fun k => M.1 (pl + 7 + k)) (pl + 18) nu (pl + 21) nv (M.1 75 4) 0 1 (M.1 90)) (vS M.1 75) (M.1 (pl + 16) i).toNatClampNeg (M.1 (pl + 17) i) 64 1))) ly M')) : Mt G l mX11_creaks (7, 0, 0, false) [.ref 0, .int x] ly M Q := by
  have hXS0 := hXS
  obtain ⟨hX, hpl, hp7, ⟨n0, n1, n2, n3⟩, ⟨hn, hn2, hn12⟩, ⟨hw1, hw2, hw6⟩, ⟨hu1, hu2, hv1, hv2⟩, hgl, hbb⟩ := hXS
  refine Mt.of (lv := [some (.ref 0), some (.int x), none, none]) rfl ?_
  refine Rn.iload_n dX11_creaks_0 rfl ?_
  refine Rn.if_lt dX11_creaks_1 (fun g1 => ?_) (fun g1 => ?_)
  · skip
    refine Rn.iconstv (v := -1) dX11_creaks_17 ic_m1 ?_
    exact Rn.iret (ty := .int) dX11_creaks_18 rfl rfl (hQ.1 (fun ⟨j, hj, e⟩ => by subst e; exact nI_pos (by omega) g1))
  · skip
    refine Rn.iload_n dX11_creaks_4 rfl ?_
    refine Rn.aload_n dX11_creaks_5 rfl ?_
    refine Rn.getR dX11_creaks_6 fX11_27 rfl (xc0 hX) (show M.2.2 0 3 = some pl from hpl) ?_
    refine Rn.getR dX11_creaks_9 fX11_212 rfl (pc0 hX hp7) (show M.2.2 pl 9 = some (pl + 1) from (pp0_9 hX hp7)) ?_
    refine Rn.iconstv (v := 2) dX11_creaks_12 ic_2 ?_
    refine Rn.iald dX11_creaks_13 (pc1 hX hp7) (by unfold vp_in; decide) ?_
    refine Rn.topI (y := M.1 (pl + 1) 2) (rfl) ?_
    refine Rn.topI (y := nI ns) (hs1) ?_
    refine Rn.icmp_lt dX11_creaks_14 (fun g2 => ?_) (fun g2 => ?_)
    · skip
      obtain ⟨i, hi, rfl⟩ : ∃ j : Nat, j < ns ∧ x = nI j := by
        rcases pk_ix x (n := ns) (by omega) with h | h | h
        · exact absurd h g1
        · exact absurd g2 (Int32.not_lt.mpr h)
        · exact h
      refine Rn.aload_n dX11_creaks_19 rfl ?_
      refine Rn.getR dX11_creaks_20 fX11_27 rfl (xc0 hX) (show M.2.2 0 3 = some pl from hpl) ?_
      refine Rn.getR dX11_creaks_23 fX11_306 rfl (pc0 hX hp7) (show M.2.2 pl 13 = some (pl + 16) from (pp0_13 hX hp7)) ?_
      refine Rn.iload_n dX11_creaks_26 rfl ?_
      refine Rn.ialdN (k0 := i) dX11_creaks_27 (pc16 hX hp7) (by omega) (by decide) ?_
      refine Rn.istore_n (lv' := [some (.ref 0), some (.int (nI i)), some (.int (M.1 (pl + 16) i)), none]) dX11_creaks_28 (by decide) rfl ?_
      refine Rn.aload_n dX11_creaks_29 rfl ?_
      refine Rn.iconstv (v := 1) dX11_creaks_30 ic_1 ?_
      refine Rn.callV1 dX11_creaks_31 vX11_299 (xc0 hX) (by decide) rfl (trNow (Q := fun v0 ly0 M0 => v0 = none ∧ ly0 = ly ∧ Tr ly M M0 pl n (pl + 7) nw (fun k => M.1 (pl + 7 + k)) (pl + 18) nu (pl + 21) nv (M.1 75 4) 0 1 (M.1 90) nf (M.1 88) (M.1 89) (vS M.1 75) ∧ quT M M0) (Or.inr rfl) hXS0 hF.1 quX.rf (fun K h u => ⟨rfl, rfl, h, u⟩)) (by decide) ⟨(Nat.le_of_ble_eq_true rfl), (Nat.le_of_ble_eq_true rfl), (Nat.le_of_ble_eq_true rfl)⟩ (fun h => by cases h) (fun v1 ly1 N1 ⟨q1, q2, hT1, hU1⟩ => ?_)
      rw [q1, q2]
      have hXN1 := (hT1.1).xw hX
      have hplN1 : N1.2.2 0 3 = some pl := ((hT1.1).2.2 0 3 (by decide)).trans hpl
      have hnN1 : N1.1 pl 0 = nI n := (congrFun ((hT1.1).p0 hp7) 0).trans hn
      have hw1N1 : N1.1 (pl + 1) 0 = nI nw := (congrFun ((hT1.1).pk hp7 (k := 1) (by decide)) 0).trans hw1
      obtain ⟨c, hc12, hc⟩ := vp_in_of (hsc i hi) (by decide)
      rw [hc]
      have hQ2 : ∀ M' : Mm, quX M M' → Q (some (.int (crk (TG M.1 pl n nw (fun k => M.1 (pl + 7 + k)) (pl + 18) nu (pl + 21) nv (M.1 75 4) 0 1 (M.1 90)) (vS M.1 75) c (M.1 (pl + 17) i) 64 1))) ly M' := fun M' hq => by have h := hQ.2 i hi rfl M' hq; rw [hc, nI_clamp (by omega)] at h; exact h
      refine Rn.iconstv (v := 1) dX11_creaks_34 ic_1 ?_
      refine Rn.istore_n (lv' := [some (.ref 0), some (.int (nI i)), some (.int (nI c)), some (.int 1)]) dX11_creaks_35 (by decide) rfl ?_
      show Rn G l mX11_creaks (7, 0, 0, false) 36 [some (.ref 0), some (.int (nI i)), some (.int (nI c)), some (.int 1)] [] ly N1 Q
      have loop : ∀ (f k : Nat) (N : Mm), f + k = 65 → 1 ≤ k → Tr ly M N pl n (pl + 7) nw (fun k => M.1 (pl + 7 + k)) (pl + 18) nu (pl + 21) nv (M.1 75 4) 0 1 (M.1 90) nf (M.1 88) (M.1 89) (itF (fun _ => TG M.1 pl n nw (fun k => M.1 (pl + 7 + k)) (pl + 18) nu (pl + 21) nv (M.1 75 4) 0 1 (M.1 90)) (k - 1) (vS M.1 75)) → (∀ M' : Mm, quX M M' → Q (some (.int (crk (TG M.1 pl n nw (fun k => M.1 (pl + 7 + k)) (pl + 18) nu (pl + 21) nv (M.1 75 4) 0 1 (M.1 90)) (vS M.1 75) c (M.1 (pl + 17) i) f k))) ly M') → Rn G l mX11_creaks (7, 0, 0, false) 36 [some (.ref 0), some (.int (nI i)), some (.int (nI c)), some (.int (nI k))] [] ly N Q := by
        intro f
        induction f with
        | zero =>
          intro k N hk hk1 hT hR
          have hXN := (hT.1).xw hX
          have hplN : N.2.2 0 3 = some pl := ((hT.1).2.2 0 3 (by decide)).trans hpl
          have hnN : N.1 pl 0 = nI n := (congrFun ((hT.1).p0 hp7) 0).trans hn
          have hw1N : N.1 (pl + 1) 0 = nI nw := (congrFun ((hT.1).pk hp7 (k := 1) (by decide)) 0).trans hw1
          obtain rfl : k = 65 := by omega
          refine Rn.iload_n dX11_creaks_36 rfl ?_
          refine Rn.bipushv (v := 64) dX11_creaks_37 bp_64 ?_
          refine Rn.icmp_gt dX11_creaks_39 (fun hc => ?_) (fun hc => ?_)
          · skip
            refine Rn.bipushv (v := -2) dX11_creaks_84 bp_m2 ?_
            exact Rn.iret (ty := .int) dX11_creaks_86 rfl rfl (hR N hT.1)
          · skip
            exact absurd (show (64 : Int32) < nI 65 by decide) hc
        | succ f ih =>
          intro k N hk hk1 hT hR
          have hXN := (hT.1).xw hX
          have hplN : N.2.2 0 3 = some pl := ((hT.1).2.2 0 3 (by decide)).trans hpl
          have hnN : N.1 pl 0 = nI n := (congrFun ((hT.1).p0 hp7) 0).trans hn
          have hw1N : N.1 (pl + 1) 0 = nI nw := (congrFun ((hT.1).pk hp7 (k := 1) (by decide)) 0).trans hw1
          refine Rn.iload_n dX11_creaks_36 rfl ?_
          refine Rn.bipushv (v := 64) dX11_creaks_37 bp_64 ?_
          refine Rn.icmp_gt dX11_creaks_39 (fun hc => ?_) (fun hc => ?_)
          · skip
            exact absurd hc (Int32.not_lt.mpr ((nI_leI (a := k) (b := 64) (by omega) (by decide)).mpr (by omega)))
          · skip
            refine Rn.aload_n dX11_creaks_42 rfl ?_
            refine Rn.getR dX11_creaks_43 fX11_43 rfl (xc0 hXN) (show N.2.2 0 6 = some 92 from (xp0_6 hXN)) ?_
            refine Rn.callV0 dX11_creaks_46 vX11_251 (xc92 hXN) (by decide) rfl (trPass (Q := fun v0 ly0 M0 => v0 = none ∧ ly0 = ly ∧ Tr ly M M0 pl n (pl + 7) nw (fun k => M.1 (pl + 7 + k)) (pl + 18) nu (pl + 21) nv (M.1 75 4) 0 1 (M.1 90) nf (M.1 88) (M.1 89) (TG M.1 pl n nw (fun k => M.1 (pl + 7 + k)) (pl + 18) nu (pl + 21) nv (M.1 75 4) 0 1 (M.1 90) (itF (fun _ => TG M.1 pl n nw (fun k => M.1 (pl + 7 + k)) (pl + 18) nu (pl + 21) nv (M.1 75 4) 0 1 (M.1 90)) (k - 1) (vS M.1 75))) ∧ quT N M0) hXS0.ok hT (fun K h u => ⟨rfl, rfl, h, u⟩)) (by decide) ⟨(Nat.le_of_ble_eq_true rfl), (Nat.le_of_ble_eq_true rfl), (Nat.le_of_ble_eq_true rfl)⟩ (fun h => by cases h) (fun v1 ly1 N3 ⟨q1, q2, hT3, hU3⟩ => ?_)
            rw [q1, q2]
            have hXN3 := (hT3.1).xw hX
            have hplN3 : N3.2.2 0 3 = some pl := ((hT3.1).2.2 0 3 (by decide)).trans hpl
            have hnN3 : N3.1 pl 0 = nI n := (congrFun ((hT3.1).p0 hp7) 0).trans hn
            have hw1N3 : N3.1 (pl + 1) 0 = nI nw := (congrFun ((hT3.1).pk hp7 (k := 1) (by decide)) 0).trans hw1
            have hT4 : Tr ly M N3 pl n (pl + 7) nw (fun k => M.1 (pl + 7 + k)) (pl + 18) nu (pl + 21) nv (M.1 75 4) 0 1 (M.1 90) nf (M.1 88) (M.1 89) (itF (fun _ => TG M.1 pl n nw (fun k => M.1 (pl + 7 + k)) (pl + 18) nu (pl + 21) nv (M.1 75 4) 0 1 (M.1 90)) k (vS M.1 75)) := by
              obtain ⟨k1, rfl⟩ : ∃ k1, k = k1 + 1 := ⟨k - 1, by omega⟩
              exact hT3
            refine Rn.aload_n dX11_creaks_49 rfl ?_
            refine Rn.getR dX11_creaks_50 fX11_43 rfl (xc0 hXN3) (show N3.2.2 0 6 = some 92 from (xp0_6 hXN3)) ?_
            refine Rn.getR dX11_creaks_53 fX11_165 rfl (xc92 hXN3) (show N3.2.2 92 5 = some 93 from (xp92_5 hXN3)) ?_
            refine Rn.getR dX11_creaks_56 fX11_169 rfl (xc93 hXN3) (show N3.2.2 93 0 = some 94 from (xp93_0 hXN3)) ?_
            refine Rn.iload_n dX11_creaks_59 rfl ?_
            refine Rn.ialdN (k0 := c) dX11_creaks_60 (xc94 hXN3) (by omega) (by decide) ?_
            refine Rn.topI (y := (itF (fun _ => TG M.1 pl n nw (fun k => M.1 (pl + 7 + k)) (pl + 18) nu (pl + 21) nv (M.1 75 4) 0 1 (M.1 90)) k (vS M.1 75)).1 c) (hT4.2.2.2.2.2.2.1 c hc12) ?_
            refine Rn.mabs dX11_creaks_61 jX11_309 jw_mabs ⟨(Nat.le_of_ble_eq_true rfl), (Nat.le_of_ble_eq_true rfl)⟩ ?_
            refine Rn.aload_n dX11_creaks_64 rfl ?_
            refine Rn.getR dX11_creaks_65 fX11_27 rfl (xc0 hXN3) (show N3.2.2 0 3 = some pl from hplN3) ?_
            refine Rn.getR dX11_creaks_68 fX11_312 rfl (pc0 hXN3 hp7) (show N3.2.2 pl 14 = some (pl + 17) from (pp0_14 hXN3 hp7)) ?_
            refine Rn.iload_n dX11_creaks_71 rfl ?_
            refine Rn.ialdN (k0 := i) dX11_creaks_72 (pc17 hXN3 hp7) (by omega) (by decide) ?_
            refine Rn.topI (y := M.1 (pl + 17) i) (congrFun (hT4.1.pk hp7 (k := 17) (by decide)) i) ?_
            refine Rn.icmp_lt dX11_creaks_73 (fun hd => ?_) (fun hd => ?_)
            · skip
              refine Rn.iincN (lv' := [some (.ref 0), some (.int (nI i)), some (.int (nI c)), some (.int (nI (k + 1)))]) dX11_creaks_78 rfl (by decide) rfl ?_
              refine Rn.goto dX11_creaks_81 ?_
              exact ih (k + 1) N3 (by omega) (by omega) hT4 (fun M' hq => by have h := hR M' hq; unfold crk at h; rw [if_neg (Int32.not_le.mpr hd)] at h; exact h)
            · skip
              refine Rn.iload_n dX11_creaks_76 rfl ?_
              exact Rn.iret (ty := .int) dX11_creaks_77 rfl rfl (by have h := hR N3 hT3.1; unfold crk at h; rw [if_pos (Int32.not_lt.mp hd)] at h; exact h)
      exact loop 64 1 N1 rfl (by decide) hT1 hQ2
    · skip
      refine Rn.iconstv (v := -1) dX11_creaks_17 ic_m1 ?_
      exact Rn.iret (ty := .int) dX11_creaks_18 rfl rfl (hQ.1 (fun ⟨j, hj, e⟩ => by subst e; exact g2 (nI_lt hj (by omega))))
