theorem rvHighBy {G : Gx} {l : Launch} {ly : Ly} {M N : Mm} {n nw t nf : Nat} {p : P4} {h0 c0 : Int32} {W : Wx} {lw : Nat → (Nat → Int32) × Nat} {s : Sc} {fc fk : Nat → Int32} {ca : Nat → Int32} {z : Int32} {K0 : Nat} (hK : K0 ≤ 1000) (hm : md N (-1) 0) (hS : RS M n nw t nf p h0 c0 W lw s fc fk) (hca : cas n nf c0 fc fk ca) (hq : qR M N) (hR : RW ly M.2.2) {Q : Qt} (hQ : ∀ K : Mm, qR M K → md K (-1) 0 → Q (some (.int (hgS (TR n nw p h0 0 ca W (fun m => valL m (lw 0).1 (lw 0).2) (fun m => valL m (lw 1).1 (lw 1).2)) (zsc 0 (lvO z (fun _ => 0) 6)) n K0))) ly K) : Mt G l mX12_highBy (9, 0, 0, false) [.ref 149, .int z, .int (nI K0)] ly N Q := by
  refine Mt.of (lv := [some (.ref 149), some (.int z), some (.int (nI K0))]) rfl ?_
  have hRN : RW ly N.2.2 := by rw [hq.1]; exact hR
  refine Rn.aload_n dX12_highBy_0 rfl ?_
  refine Rn.iload_n dX12_highBy_1 rfl ?_
  refine Rn.callV1 dX12_highBy_2 vX12_496 (rc149 hRN) (by decide) rfl (rvWith (M := M) (N := N) (x := (-1)) (z := z) (kp := 0) (Q := fun v0 ly0 K => v0 = none ∧ ly0 = ly ∧ Rt M K nw 0 nf (-1) 0 (zsc 0 (lvO z (fun _ => 0) 6)) fc fk ∧ K.1 171 1 = 0 ∧ K.1 195 = N.1 195) hm hS hq hR (fun K a c d => ⟨rfl, rfl, a, c, d⟩)) (by decide) ⟨(Nat.le_of_ble_eq_true rfl), (Nat.le_of_ble_eq_true rfl), (Nat.le_of_ble_eq_true rfl)⟩ (fun h => by cases h) (fun v1 ly1 N1 ⟨q1, q2, hT1, hb1, hz1⟩ => ?_)
  rw [q1, q2]
  have hRN1 : RW ly N1.2.2 := by rw [hT1.1.1]; exact hR
  refine Rn.aload_n dX12_highBy_5 rfl ?_
  refine Rn.iload_n dX12_highBy_6 rfl ?_
  refine Rn.callV1 dX12_highBy_7 vX12_477 (rc149 hRN1) (by decide) rfl (rvHigh (M := M) (N := N1) (ca := ca) (s2 := zsc 0 (lvO z (fun _ => 0) 6)) (K0 := K0) (kp := 0) (Q := fun v0 ly0 K => v0 = some (.int (hgS (TR n nw p h0 0 ca W (fun m => valL m (lw 0).1 (lw 0).2) (fun m => valL m (lw 1).1 (lw 1).2)) (zsc 0 (lvO z (fun _ => 0) 6)) n K0)) ∧ ly0 = ly ∧ qR M K ∧ md K (-1) 0) hS hT1 (by decide) (by decide) (by decide) (by decide) hca (by omega) hK hRN1 (fun K a c => ⟨rfl, rfl, a, c⟩)) (by decide) ⟨(Nat.le_of_ble_eq_true rfl), (Nat.le_of_ble_eq_true rfl), (Nat.le_of_ble_eq_true rfl)⟩ (fun h => by cases h) (fun v1 ly1 N2 ⟨q1, q2, hq2, hm2⟩ => ?_)
  rw [q1, q2]
  have hRN2 : RW ly N2.2.2 := by rw [hq2.1]; exact hR
  exact Rn.iret (ty := .int) dX12_highBy_10 rfl rfl (hQ N2 hq2 hm2)
theorem tX12_high {G : Gx} {l : Launch} {ly : Ly} {M : Mm} {x : Int32} {n nw t nf : Nat} {p : P4} {h0 c0 : Int32} {W : Wx} {lw : Nat → (Nat → Int32) × Nat} {s : Sc} {fc fk ca : Nat → Int32} (hS : RS M n nw t nf p h0 c0 W lw s fc fk) (hca : cas n nf c0 fc fk ca)  (hR : RW ly M.2.2) {Q : Qt} (hQ : (¬ (1 ≤ x ∧ x ≤ 64) → ∀ K, qR M K → Q (some (.int (-1))) ly K) ∧ (∀ N : Nat, 1 ≤ N → N ≤ 64 → x = nI N → ∀ K, qR M K → Q (some (.int (hgS (TR n nw p h0 0 ca W (fun m => valL m (lw 0).1 (lw 0).2) (fun m => valL m (lw 1).1 (lw 1).2)) s n N))) ly K)) : Mt G l mX12_high (10, 0, 0, false) [.ref 149, .int x] ly M Q := by
  refine Mt.of (lv := [some (.ref 149), some (.int x)]) rfl ?_
  refine Rn.aload_n dX12_high_0 rfl ?_
  refine Rn.iconstv (v := 0) dX12_high_1 ic_0 ?_
  refine Rn.putI dX12_high_2 fX12_169 rfl rfl rfl (rc149 hR) ?_
  refine Rn.iload_n dX12_high_5 rfl ?_
  refine Rn.bipushv (v := 64) dX12_high_6 bp_64 ?_
  refine Rn.callS2 dX12_high_8 vX12_480 (tX12_isLong) (by decide) ⟨(Nat.le_of_ble_eq_true rfl), (Nat.le_of_ble_eq_true rfl), (Nat.le_of_ble_eq_true rfl)⟩ (fun h => by cases h) (fun v1 ly1 M1 ⟨q1, q2, q3⟩ => ?_)
  rw [q1, q2, q3]
  refine Rn.if_ne dX12_high_11 (fun g1 => ?_) (fun g1 => ?_)
  · skip
    obtain ⟨N, hN1, hN2, rfl⟩ : ∃ j : Nat, 1 ≤ j ∧ j ≤ 64 ∧ x = nI j := (inR_1 (x := x) (lo := 1) (hi := 64)).elim (fun k => absurd k.1 g1) (fun k => nat_of (b := 64) (k := 64) rfl (by decide) k.2.1 k.2.2)
    refine Rn.aload_n dX12_high_16 rfl ?_
    refine Rn.callV0 dX12_high_17 vX12_447 (rc149 hR) (by decide) rfl (tX12_plain (M := sI M 149 (upd (M.1 149) 0 0)) hR) (by decide) ⟨(Nat.le_of_ble_eq_true rfl), (Nat.le_of_ble_eq_true rfl), (Nat.le_of_ble_eq_true rfl)⟩ (fun h => by cases h) (fun v1 ly1 M1 ⟨q1, q2, q3⟩ => ?_)
    rw [q1, q2, q3]
    have hm0m : md (sI (sI M 149 (upd (M.1 149) 0 0)) 149 (upd (upd (upd (upd (upd ((sI M 149 (upd (M.1 149) 0 0)).1 149) 55 (-1)) 56 0) 57 (-1)) 61 0) 62 0)) (-1) 0 := ⟨rfl, rfl, rfl, rfl⟩
    have hq0m : qR M (sI (sI M 149 (upd (M.1 149) 0 0)) 149 (upd (upd (upd (upd (upd ((sI M 149 (upd (M.1 149) 0 0)).1 149) 55 (-1)) 56 0) 57 (-1)) 61 0) 62 0)) := qR.plain ((qR.rf (M := M)).f0)
    revert hm0m hq0m
    generalize (sI (sI M 149 (upd (M.1 149) 0 0)) 149 (upd (upd (upd (upd (upd ((sI M 149 (upd (M.1 149) 0 0)).1 149) 55 (-1)) 56 0) 57 (-1)) 61 0) 62 0)) = N0
    intro hm0 hq0
    have hRN0 : RW ly N0.2.2 := by rw [hq0.1]; exact hR
    refine Rn.aload_n dX12_high_20 rfl ?_
    refine Rn.iload_n dX12_high_21 rfl ?_
    refine Rn.callV1 dX12_high_22 vX12_484 (rc149 hRN0) (by decide) rfl (tX12_highNow (M := M) (N := N0) (ca := ca) (K0 := N) (Q := fun v0 ly0 K => v0 = some (.int (hgS (TR n nw p h0 0 ca W (fun m => valL m (lw 0).1 (lw 0).2) (fun m => valL m (lw 1).1 (lw 1).2)) s n N)) ∧ ly0 = ly ∧ qR M K ∧ md K (-1) 0) (by omega) hm0 hS hca hq0 hR (fun K a c => ⟨rfl, rfl, a, c⟩)) (by decide) ⟨(Nat.le_of_ble_eq_true rfl), (Nat.le_of_ble_eq_true rfl), (Nat.le_of_ble_eq_true rfl)⟩ (fun h => by cases h) (fun v1 ly1 N1 ⟨q1, q2, hq1, hm1⟩ => ?_)
    rw [q1, q2]
    have hRN1 : RW ly N1.2.2 := by rw [hq1.1]; exact hR
    exact Rn.iret (ty := .int) dX12_high_25 rfl rfl (hQ.2 N hN1 hN2 rfl N1 hq1)
  · skip
    refine Rn.iconstv (v := -1) dX12_high_14 ic_m1 ?_
    exact Rn.iret (ty := .int) dX12_high_15 rfl rfl (hQ.1 (fun h => inR_1.elim (fun k => k.2 h) (fun k => absurd (k.1.symm.trans g1) (by decide))) _ qR.rf.f0)
theorem tX12_owes {G : Gx} {l : Launch} {ly : Ly} {M : Mm} {x y : Int32} {n nw t nf : Nat} {p : P4} {h0 c0 : Int32} {W : Wx} {lw : Nat → (Nat → Int32) × Nat} {s : Sc} {fc fk ca : Nat → Int32} (hS : RS M n nw t nf p h0 c0 W lw s fc fk) (hca : cas n nf c0 fc fk ca)  (hR : RW ly M.2.2) {Q : Qt} (hQ : (¬ ((∃ j : Nat, j < nw ∧ x = nI j) ∧ (1 ≤ y ∧ y ≤ 64)) → ∀ K, qR M K → Q (some (.int (-1))) ly K) ∧ (∀ w N : Nat, w < nw → x = nI w → 1 ≤ N → N ≤ 64 → y = nI N → ∀ K, qR M K → Q (some (.int (mx 0 (hgS (TR n nw p h0 0 ca W (fun m => valL m (lw 0).1 (lw 0).2) (fun m => valL m (lw 1).1 (lw 1).2)) s n N - hgS (TR n nw p h0 0 ca W (fun m => valL m (lw 0).1 (lw 0).2) (fun m => valL m (lw 1).1 (lw 1).2)) (stgS s (upd s.2.2.2.2.1.2.2.1 w 2)) n N)))) ly K)) : Mt G l mX12_owes (10, 0, 0, false) [.ref 149, .int x, .int y] ly M Q := by
  refine Mt.of (lv := [some (.ref 149), some (.int x), some (.int y), none]) rfl ?_
  refine Rn.aload_n dX12_owes_0 rfl ?_
  refine Rn.iconstv (v := 0) dX12_owes_1 ic_0 ?_
  refine Rn.putI dX12_owes_2 fX12_169 rfl rfl rfl (rc149 hR) ?_
  refine Rn.aload_n dX12_owes_5 rfl ?_
  refine Rn.iload_n dX12_owes_6 rfl ?_
  refine Rn.callV1 dX12_owes_7 vX12_443 (rc149 hR) (by decide) rfl (tX12_isWalker (M := sI M 149 (upd (M.1 149) 0 0)) hR) (by decide) ⟨(Nat.le_of_ble_eq_true rfl), (Nat.le_of_ble_eq_true rfl), (Nat.le_of_ble_eq_true rfl)⟩ (fun h => by cases h) (fun v1 ly1 M1 ⟨q1, q2, q3⟩ => ?_)
  rw [q1, q2, q3]
  refine Rn.topI (y := inN x (nI nw)) (congrArg (inN x) hS.nw) ?_
  refine Rn.if_eq dX12_owes_10 (fun g1 => ?_) (fun g1 => ?_)
  · skip
    refine Rn.iconstv (v := -1) dX12_owes_22 ic_m1 ?_
    exact Rn.iret (ty := .int) dX12_owes_23 rfl rfl (hQ.1 (fun h => (inN_1 (x := x) (k := nw) (lt31 hS.w6)).elim (fun k => k.2 h.1) (fun k => absurd (k.1.symm.trans g1) (by decide))) _ qR.rf.f0)
  · skip
    obtain ⟨w, hw, rfl⟩ : ∃ j : Nat, j < nw ∧ x = nI j := (inN_1 (x := x) (k := nw) (lt31 hS.w6)).elim (fun k => absurd k.1 g1) (fun k => k.2)
    refine Rn.iload_n dX12_owes_13 rfl ?_
    refine Rn.bipushv (v := 64) dX12_owes_14 bp_64 ?_
    refine Rn.callS2 dX12_owes_16 vX12_480 (tX12_isLong) (by decide) ⟨(Nat.le_of_ble_eq_true rfl), (Nat.le_of_ble_eq_true rfl), (Nat.le_of_ble_eq_true rfl)⟩ (fun h => by cases h) (fun v1 ly1 M1 ⟨q1, q2, q3⟩ => ?_)
    rw [q1, q2, q3]
    refine Rn.if_ne dX12_owes_19 (fun g2 => ?_) (fun g2 => ?_)
    · skip
      obtain ⟨N, hN1, hN2, rfl⟩ : ∃ j : Nat, 1 ≤ j ∧ j ≤ 64 ∧ y = nI j := (inR_1 (x := y) (lo := 1) (hi := 64)).elim (fun k => absurd k.1 g2) (fun k => nat_of (b := 64) (k := 64) rfl (by decide) k.2.1 k.2.2)
      refine Rn.aload_n dX12_owes_24 rfl ?_
      refine Rn.callV0 dX12_owes_25 vX12_447 (rc149 hR) (by decide) rfl (tX12_plain (M := sI M 149 (upd (M.1 149) 0 0)) hR) (by decide) ⟨(Nat.le_of_ble_eq_true rfl), (Nat.le_of_ble_eq_true rfl), (Nat.le_of_ble_eq_true rfl)⟩ (fun h => by cases h) (fun v1 ly1 M1 ⟨q1, q2, q3⟩ => ?_)
      rw [q1, q2, q3]
      have hm0m : md (sI (sI M 149 (upd (M.1 149) 0 0)) 149 (upd (upd (upd (upd (upd ((sI M 149 (upd (M.1 149) 0 0)).1 149) 55 (-1)) 56 0) 57 (-1)) 61 0) 62 0)) (-1) 0 := ⟨rfl, rfl, rfl, rfl⟩
      have hq0m : qR M (sI (sI M 149 (upd (M.1 149) 0 0)) 149 (upd (upd (upd (upd (upd ((sI M 149 (upd (M.1 149) 0 0)).1 149) 55 (-1)) 56 0) 57 (-1)) 61 0) 62 0)) := qR.plain ((qR.rf (M := M)).f0)
      revert hm0m hq0m
      generalize (sI (sI M 149 (upd (M.1 149) 0 0)) 149 (upd (upd (upd (upd (upd ((sI M 149 (upd (M.1 149) 0 0)).1 149) 55 (-1)) 56 0) 57 (-1)) 61 0) 62 0)) = N0
      intro hm0 hq0
      have hRN0 : RW ly N0.2.2 := by rw [hq0.1]; exact hR
      refine Rn.aload_n dX12_owes_28 rfl ?_
      refine Rn.iload_n dX12_owes_29 rfl ?_
      refine Rn.callV1 dX12_owes_30 vX12_484 (rc149 hRN0) (by decide) rfl (tX12_highNow (M := M) (N := N0) (ca := ca) (K0 := N) (Q := fun v0 ly0 K => v0 = some (.int (hgS (TR n nw p h0 0 ca W (fun m => valL m (lw 0).1 (lw 0).2) (fun m => valL m (lw 1).1 (lw 1).2)) s n N)) ∧ ly0 = ly ∧ qR M K ∧ md K (-1) 0) (by omega) hm0 hS hca hq0 hR (fun K a c => ⟨rfl, rfl, a, c⟩)) (by decide) ⟨(Nat.le_of_ble_eq_true rfl), (Nat.le_of_ble_eq_true rfl), (Nat.le_of_ble_eq_true rfl)⟩ (fun h => by cases h) (fun v1 ly1 N1 ⟨q1, q2, hq1, hm1⟩ => ?_)
      rw [q1, q2]
      have hRN1 : RW ly N1.2.2 := by rw [hq1.1]; exact hR
      refine Rn.istore_n (lv' := [some (.ref 149), some (.int (nI w)), some (.int (nI N)), some (.int (hgS (TR n nw p h0 0 ca W (fun m => valL m (lw 0).1 (lw 0).2) (fun m => valL m (lw 1).1 (lw 1).2)) s n N))]) dX12_owes_33 (by decide) rfl ?_
      refine Rn.aload_n dX12_owes_34 rfl ?_
      refine Rn.iconstv (v := 1) dX12_owes_35 ic_1 ?_
      refine Rn.iconstv (v := 0) dX12_owes_36 ic_0 ?_
      refine Rn.callV2 dX12_owes_37 vX12_461 (rc149 hRN1) (by decide) rfl (rvNow (M := M) (N := N1) (x := (-1)) (kp := 0) (Q := fun v0 ly0 K => v0 = none ∧ ly0 = ly ∧ Rt M K nw t nf (-1) 0 s fc fk ∧ K.1 171 1 = M.1 171 0) hS hq1 hm1 hRN1 (fun K a c => ⟨rfl, rfl, a, c⟩)) (by decide) ⟨(Nat.le_of_ble_eq_true rfl), (Nat.le_of_ble_eq_true rfl), (Nat.le_of_ble_eq_true rfl)⟩ (fun h => by cases h) (fun v1 ly1 N2 ⟨q1, q2, hT2, hb2⟩ => ?_)
      rw [q1, q2]
      have hRN2 : RW ly N2.2.2 := by rw [hT2.1.1]; exact hR
      refine Rn.aload_n dX12_owes_40 rfl ?_
      refine Rn.iconstv (v := 1) dX12_owes_41 ic_1 ?_
      refine Rn.iload_n dX12_owes_42 rfl ?_
      refine Rn.callV2 dX12_owes_43 vX12_474 (rc149 hRN2) (by decide) rfl (rvLv (M := M) (N := N2) (w := w) (Q := fun v0 ly0 K => v0 = none ∧ ly0 = ly ∧ Rt M K nw t nf (-1) 0 (stgS s (upd s.2.2.2.2.1.2.2.1 w 2)) fc fk) hT2 hS.w6 hw hRN2 (fun K a c => ⟨rfl, rfl, a⟩)) (by decide) ⟨(Nat.le_of_ble_eq_true rfl), (Nat.le_of_ble_eq_true rfl), (Nat.le_of_ble_eq_true rfl)⟩ (fun h => by cases h) (fun v1 ly1 N3 ⟨q1, q2, hT3⟩ => ?_)
      rw [q1, q2]
      have hRN3 : RW ly N3.2.2 := by rw [hT3.1.1]; exact hR
      refine Rn.iconstv (v := 0) dX12_owes_46 ic_0 ?_
      refine Rn.iload_n dX12_owes_47 rfl ?_
      refine Rn.aload_n dX12_owes_48 rfl ?_
      refine Rn.iload_n dX12_owes_49 rfl ?_
      refine Rn.callV1 dX12_owes_50 vX12_477 (rc149 hRN3) (by decide) rfl (rvHigh (M := M) (N := N3) (ca := ca) (s2 := stgS s (upd s.2.2.2.2.1.2.2.1 w 2)) (K0 := N) (kp := 0) (Q := fun v0 ly0 K => v0 = some (.int (hgS (TR n nw p h0 0 ca W (fun m => valL m (lw 0).1 (lw 0).2) (fun m => valL m (lw 1).1 (lw 1).2)) (stgS s (upd s.2.2.2.2.1.2.2.1 w 2)) n N)) ∧ ly0 = ly ∧ qR M K ∧ md K (-1) 0) hS hT3 (by decide) (by decide) (by decide) (by decide) hca hS.2.2.2.2 (by omega) hRN3 (fun K a c => ⟨rfl, rfl, a, c⟩)) (by decide) ⟨(Nat.le_of_ble_eq_true rfl), (Nat.le_of_ble_eq_true rfl), (Nat.le_of_ble_eq_true rfl)⟩ (fun h => by cases h) (fun v1 ly1 N4 ⟨q1, q2, hq4, hm4⟩ => ?_)
      rw [q1, q2]
      have hRN4 : RW ly N4.2.2 := by rw [hq4.1]; exact hR
      refine Rn.isub dX12_owes_53 ?_
      refine Rn.mmax dX12_owes_54 jX12_351 jw_mmax ⟨(Nat.le_of_ble_eq_true rfl), (Nat.le_of_ble_eq_true rfl)⟩ ?_
      exact Rn.iret (ty := .int) dX12_owes_57 rfl rfl (hQ.2 w N hw rfl hN1 hN2 rfl N4 hq4)
    · skip
      refine Rn.iconstv (v := -1) dX12_owes_22 ic_m1 ?_
      exact Rn.iret (ty := .int) dX12_owes_23 rfl rfl (hQ.1 (fun h => inR_1.elim (fun k => k.2 h.2) (fun k => absurd (k.1.symm.trans g2) (by decide))) _ qR.rf.f0)
theorem tX12_cancel {G : Gx} {l : Launch} {ly : Ly} {M : Mm} {x y z : Int32} {n nw t nf : Nat} {p : P4} {h0 c0 : Int32} {W : Wx} {lw : Nat → (Nat → Int32) × Nat} {s : Sc} {fc fk ca : Nat → Int32} (hS : RS M n nw t nf p h0 c0 W lw s fc fk) (hca : cas n nf c0 fc fk ca)  (hR : RW ly M.2.2) {Q : Qt} (hQ : (¬ ((∃ j : Nat, j < nw ∧ x = nI j) ∧ (∃ j : Nat, j < nw ∧ y = nI j) ∧ ¬ x = y ∧ (1 ≤ z ∧ z ≤ 64)) → ∀ K, qR M K → Q (some (.int (-2147483648))) ly K) ∧ (∀ a b N : Nat, a < nw → x = nI a → b < nw → y = nI b → ¬ a = b → 1 ≤ N → N ≤ 64 → z = nI N → ∀ K, qR M K → Q (some (.int (hgS (TR n nw p h0 0 ca W (fun m => valL m (lw 0).1 (lw 0).2) (fun m => valL m (lw 1).1 (lw 1).2)) (zsc 0 (lvO (1 <<< (nI a &&& 31)) (fun _ => 0) 6)) n N + hgS (TR n nw p h0 0 ca W (fun m => valL m (lw 0).1 (lw 0).2) (fun m => valL m (lw 1).1 (lw 1).2)) (zsc 0 (lvO (1 <<< (nI b &&& 31)) (fun _ => 0) 6)) n N - hgS (TR n nw p h0 0 ca W (fun m => valL m (lw 0).1 (lw 0).2) (fun m => valL m (lw 1).1 (lw 1).2)) (zsc 0 (lvO ((1 <<< (nI a &&& 31)) ||| (1 <<< (nI b &&& 31))) (fun _ => 0) 6)) n N))) ly K)) : Mt G l mX12_cancel (10, 0, 0, false) [.ref 149, .int x, .int y, .int z] ly M Q := by
  refine Mt.of (lv := [some (.ref 149), some (.int x), some (.int y), some (.int z)]) rfl ?_
  refine Rn.aload_n dX12_cancel_0 rfl ?_
  refine Rn.iconstv (v := 0) dX12_cancel_1 ic_0 ?_
  refine Rn.putI dX12_cancel_2 fX12_169 rfl rfl rfl (rc149 hR) ?_
  refine Rn.aload_n dX12_cancel_5 rfl ?_
  refine Rn.iload_n dX12_cancel_6 rfl ?_
  refine Rn.callV1 dX12_cancel_7 vX12_443 (rc149 hR) (by decide) rfl (tX12_isWalker (M := sI M 149 (upd (M.1 149) 0 0)) hR) (by decide) ⟨(Nat.le_of_ble_eq_true rfl), (Nat.le_of_ble_eq_true rfl), (Nat.le_of_ble_eq_true rfl)⟩ (fun h => by cases h) (fun v1 ly1 M1 ⟨q1, q2, q3⟩ => ?_)
  rw [q1, q2, q3]
  refine Rn.topI (y := inN x (nI nw)) (congrArg (inN x) hS.nw) ?_
  refine Rn.if_eq dX12_cancel_10 (fun g1 => ?_) (fun g1 => ?_)
  · skip
    refine Rn.ldcw dX12_cancel_35 kX12_446 ?_
    exact Rn.iret (ty := .int) dX12_cancel_38 rfl rfl (hQ.1 (fun h => (inN_1 (x := x) (k := nw) (lt31 hS.w6)).elim (fun k => k.2 h.1) (fun k => absurd (k.1.symm.trans g1) (by decide))) _ qR.rf.f0)
  · skip
    obtain ⟨a, ha, rfl⟩ : ∃ j : Nat, j < nw ∧ x = nI j := (inN_1 (x := x) (k := nw) (lt31 hS.w6)).elim (fun k => absurd k.1 g1) (fun k => k.2)
    refine Rn.aload_n dX12_cancel_13 rfl ?_
    refine Rn.iload_n dX12_cancel_14 rfl ?_
    refine Rn.callV1 dX12_cancel_15 vX12_443 (rc149 hR) (by decide) rfl (tX12_isWalker (M := sI M 149 (upd (M.1 149) 0 0)) hR) (by decide) ⟨(Nat.le_of_ble_eq_true rfl), (Nat.le_of_ble_eq_true rfl), (Nat.le_of_ble_eq_true rfl)⟩ (fun h => by cases h) (fun v1 ly1 M1 ⟨q1, q2, q3⟩ => ?_)
    rw [q1, q2, q3]
    refine Rn.topI (y := inN y (nI nw)) (congrArg (inN y) hS.nw) ?_
    refine Rn.if_eq dX12_cancel_18 (fun g2 => ?_) (fun g2 => ?_)
    · skip
      refine Rn.ldcw dX12_cancel_35 kX12_446 ?_
      exact Rn.iret (ty := .int) dX12_cancel_38 rfl rfl (hQ.1 (fun h => (inN_1 (x := y) (k := nw) (lt31 hS.w6)).elim (fun k => k.2 h.2.1) (fun k => absurd (k.1.symm.trans g2) (by decide))) _ qR.rf.f0)
    · skip
      obtain ⟨b, hb, rfl⟩ : ∃ j : Nat, j < nw ∧ y = nI j := (inN_1 (x := y) (k := nw) (lt31 hS.w6)).elim (fun k => absurd k.1 g2) (fun k => k.2)
      refine Rn.iload_n dX12_cancel_21 rfl ?_
      refine Rn.iload_n dX12_cancel_22 rfl ?_
      refine Rn.icmp_eq dX12_cancel_23 (fun ge => ?_) (fun ge => ?_)
      · skip
        refine Rn.ldcw dX12_cancel_35 kX12_446 ?_
        exact Rn.iret (ty := .int) dX12_cancel_38 rfl rfl (hQ.1 (fun h => h.2.2.1 ge) _ qR.rf.f0)
      · skip
        refine Rn.iload_n dX12_cancel_26 rfl ?_
        refine Rn.bipushv (v := 64) dX12_cancel_27 bp_64 ?_
        refine Rn.callS2 dX12_cancel_29 vX12_480 (tX12_isLong) (by decide) ⟨(Nat.le_of_ble_eq_true rfl), (Nat.le_of_ble_eq_true rfl), (Nat.le_of_ble_eq_true rfl)⟩ (fun h => by cases h) (fun v1 ly1 M1 ⟨q1, q2, q3⟩ => ?_)
        rw [q1, q2, q3]
        refine Rn.if_ne dX12_cancel_32 (fun g3 => ?_) (fun g3 => ?_)
        · skip
          obtain ⟨N, hN1, hN2, rfl⟩ : ∃ j : Nat, 1 ≤ j ∧ j ≤ 64 ∧ z = nI j := (inR_1 (x := z) (lo := 1) (hi := 64)).elim (fun k => absurd k.1 g3) (fun k => nat_of (b := 64) (k := 64) rfl (by decide) k.2.1 k.2.2)
          refine Rn.aload_n dX12_cancel_39 rfl ?_
          refine Rn.callV0 dX12_cancel_40 vX12_447 (rc149 hR) (by decide) rfl (tX12_plain (M := sI M 149 (upd (M.1 149) 0 0)) hR) (by decide) ⟨(Nat.le_of_ble_eq_true rfl), (Nat.le_of_ble_eq_true rfl), (Nat.le_of_ble_eq_true rfl)⟩ (fun h => by cases h) (fun v1 ly1 M1 ⟨q1, q2, q3⟩ => ?_)
          rw [q1, q2, q3]
          have hm0m : md (sI (sI M 149 (upd (M.1 149) 0 0)) 149 (upd (upd (upd (upd (upd ((sI M 149 (upd (M.1 149) 0 0)).1 149) 55 (-1)) 56 0) 57 (-1)) 61 0) 62 0)) (-1) 0 := ⟨rfl, rfl, rfl, rfl⟩
          have hq0m : qR M (sI (sI M 149 (upd (M.1 149) 0 0)) 149 (upd (upd (upd (upd (upd ((sI M 149 (upd (M.1 149) 0 0)).1 149) 55 (-1)) 56 0) 57 (-1)) 61 0) 62 0)) := qR.plain ((qR.rf (M := M)).f0)
          revert hm0m hq0m
          generalize (sI (sI M 149 (upd (M.1 149) 0 0)) 149 (upd (upd (upd (upd (upd ((sI M 149 (upd (M.1 149) 0 0)).1 149) 55 (-1)) 56 0) 57 (-1)) 61 0) 62 0)) = N0
          intro hm0 hq0
          have hRN0 : RW ly N0.2.2 := by rw [hq0.1]; exact hR
          refine Rn.aload_n dX12_cancel_43 rfl ?_
          refine Rn.iconstv (v := 1) dX12_cancel_44 ic_1 ?_
          refine Rn.iload_n dX12_cancel_45 rfl ?_
          refine Rn.ishl dX12_cancel_46 ?_
          refine Rn.iload_n dX12_cancel_47 rfl ?_
          refine Rn.callV2 dX12_cancel_48 vX12_499 (rc149 hRN0) (by decide) rfl (rvHighBy (M := M) (N := N0) (ca := ca) (z := 1 <<< (nI a &&& 31)) (K0 := N) (Q := fun v0 ly0 K => v0 = some (.int (hgS (TR n nw p h0 0 ca W (fun m => valL m (lw 0).1 (lw 0).2) (fun m => valL m (lw 1).1 (lw 1).2)) (zsc 0 (lvO (1 <<< (nI a &&& 31)) (fun _ => 0) 6)) n N)) ∧ ly0 = ly ∧ qR M K ∧ md K (-1) 0) (by omega) hm0 hS hca hq0 hR (fun K a c => ⟨rfl, rfl, a, c⟩)) (by decide) ⟨(Nat.le_of_ble_eq_true rfl), (Nat.le_of_ble_eq_true rfl), (Nat.le_of_ble_eq_true rfl)⟩ (fun h => by cases h) (fun v1 ly1 N1 ⟨q1, q2, hq1, hm1⟩ => ?_)
          rw [q1, q2]
          have hRN1 : RW ly N1.2.2 := by rw [hq1.1]; exact hR
          refine Rn.aload_n dX12_cancel_51 rfl ?_
          refine Rn.iconstv (v := 1) dX12_cancel_52 ic_1 ?_
          refine Rn.iload_n dX12_cancel_53 rfl ?_
          refine Rn.ishl dX12_cancel_54 ?_
          refine Rn.iload_n dX12_cancel_55 rfl ?_
          refine Rn.callV2 dX12_cancel_56 vX12_499 (rc149 hRN1) (by decide) rfl (rvHighBy (M := M) (N := N1) (ca := ca) (z := 1 <<< (nI b &&& 31)) (K0 := N) (Q := fun v0 ly0 K => v0 = some (.int (hgS (TR n nw p h0 0 ca W (fun m => valL m (lw 0).1 (lw 0).2) (fun m => valL m (lw 1).1 (lw 1).2)) (zsc 0 (lvO (1 <<< (nI b &&& 31)) (fun _ => 0) 6)) n N)) ∧ ly0 = ly ∧ qR M K ∧ md K (-1) 0) (by omega) hm1 hS hca hq1 hR (fun K a c => ⟨rfl, rfl, a, c⟩)) (by decide) ⟨(Nat.le_of_ble_eq_true rfl), (Nat.le_of_ble_eq_true rfl), (Nat.le_of_ble_eq_true rfl)⟩ (fun h => by cases h) (fun v1 ly1 N2 ⟨q1, q2, hq2, hm2⟩ => ?_)
          rw [q1, q2]
          have hRN2 : RW ly N2.2.2 := by rw [hq2.1]; exact hR
          refine Rn.iadd dX12_cancel_59 ?_
          refine Rn.aload_n dX12_cancel_60 rfl ?_
          refine Rn.iconstv (v := 1) dX12_cancel_61 ic_1 ?_
          refine Rn.iload_n dX12_cancel_62 rfl ?_
          refine Rn.ishl dX12_cancel_63 ?_
          refine Rn.iconstv (v := 1) dX12_cancel_64 ic_1 ?_
          refine Rn.iload_n dX12_cancel_65 rfl ?_
          refine Rn.ishl dX12_cancel_66 ?_
          refine Rn.ior dX12_cancel_67 ?_
          refine Rn.iload_n dX12_cancel_68 rfl ?_
          refine Rn.callV2 dX12_cancel_69 vX12_499 (rc149 hRN2) (by decide) rfl (rvHighBy (M := M) (N := N2) (ca := ca) (z := (1 <<< (nI a &&& 31)) ||| (1 <<< (nI b &&& 31))) (K0 := N) (Q := fun v0 ly0 K => v0 = some (.int (hgS (TR n nw p h0 0 ca W (fun m => valL m (lw 0).1 (lw 0).2) (fun m => valL m (lw 1).1 (lw 1).2)) (zsc 0 (lvO ((1 <<< (nI a &&& 31)) ||| (1 <<< (nI b &&& 31))) (fun _ => 0) 6)) n N)) ∧ ly0 = ly ∧ qR M K ∧ md K (-1) 0) (by omega) hm2 hS hca hq2 hR (fun K a c => ⟨rfl, rfl, a, c⟩)) (by decide) ⟨(Nat.le_of_ble_eq_true rfl), (Nat.le_of_ble_eq_true rfl), (Nat.le_of_ble_eq_true rfl)⟩ (fun h => by cases h) (fun v1 ly1 N3 ⟨q1, q2, hq3, hm3⟩ => ?_)
          rw [q1, q2]
          have hRN3 : RW ly N3.2.2 := by rw [hq3.1]; exact hR
          refine Rn.isub dX12_cancel_72 ?_
          exact Rn.iret (ty := .int) dX12_cancel_73 rfl rfl (hQ.2 a b N ha rfl hb rfl (fun e => ge (by rw [e])) hN1 hN2 rfl N3 hq3)
        · skip
          refine Rn.ldcw dX12_cancel_35 kX12_446 ?_
          exact Rn.iret (ty := .int) dX12_cancel_38 rfl rfl (hQ.1 (fun h => inR_1.elim (fun k => k.2 h.2.2.2) (fun k => absurd (k.1.symm.trans g3) (by decide))) _ qR.rf.f0)
theorem tX12_creaks {G : Gx} {l : Launch} {ly : Ly} {M : Mm} {x : Int32} {ns : Nat} {sc : Nat → Nat} (hs1 : M.1 151 8 = nI ns) (hs4 : ns ≤ 4) (hsc : ∀ i, i < ns → M.1 162 i = nI (sc i) ∧ sc i < 12) {n nw t nf : Nat} {p : P4} {h0 c0 : Int32} {W : Wx} {lw : Nat → (Nat → Int32) × Nat} {s : Sc} {fc fk ca : Nat → Int32} (hS : RS M n nw t nf p h0 c0 W lw s fc fk) (hca : cas n nf c0 fc fk ca)  (hR : RW ly M.2.2) {Q : Qt} (hQ : (¬ (∃ j : Nat, j < ns ∧ x = nI j) → ∀ K, qR M K → Q (some (.int (-1))) ly K) ∧ (∀ i : Nat, i < ns → x = nI i → ∀ K, qR M K → Q (some (.int (crk (TR n nw p h0 0 ca W (fun m => valL m (lw 0).1 (lw 0).2) (fun m => valL m (lw 1).1 (lw 1).2)) s (sc i) (M.1 163 i) 64 1))) ly K)) : Mt G l mX12_creaks (8, 0, 0, false) [.ref 149, .int x] ly M Q := by
  refine Mt.of (lv := [some (.ref 149), some (.int x), none]) rfl ?_
  refine Rn.aload_n dX12_creaks_0 rfl ?_
  refine Rn.iconstv (v := 0) dX12_creaks_1 ic_0 ?_
  refine Rn.putI dX12_creaks_2 fX12_169 rfl rfl rfl (rc149 hR) ?_
  refine Rn.iload_n dX12_creaks_5 rfl ?_
  refine Rn.if_lt dX12_creaks_6 (fun g0 => ?_) (fun g0 => ?_)
  · skip
    refine Rn.iconstv (v := -1) dX12_creaks_20 ic_m1 ?_
    exact Rn.iret (ty := .int) dX12_creaks_21 rfl rfl (hQ.1 (fun ⟨j, hj, e⟩ => nI_pos (n := j) (by omega) (e ▸ g0)) _ qR.rf.f0)
  · skip
    refine Rn.iload_n dX12_creaks_9 rfl ?_
    refine Rn.aload_n dX12_creaks_10 rfl ?_
    refine Rn.getR dX12_creaks_11 fX12_15 rfl (rc149 hR) (show M.2.2 149 3 = some 151 from (rpt3 hR)) ?_
    refine Rn.bipushv (v := 8) dX12_creaks_14 bp_8 ?_
    refine Rn.iald dX12_creaks_16 (rc151 hR) (by unfold vp_in; decide) ?_
    refine Rn.topI (y := M.1 151 8) (rfl) ?_
    refine Rn.topI (y := nI ns) (hs1) ?_
    refine Rn.icmp_lt dX12_creaks_17 (fun g1 => ?_) (fun g1 => ?_)
    · skip
      obtain ⟨i, hi, rfl⟩ : ∃ j : Nat, j < ns ∧ x = nI j := by obtain ⟨j, hj, rfl⟩ := nI_of g0; exact ⟨j, (nI_ltI hj (by omega)).mp g1, rfl⟩
      have hR1 := hQ.2 i hi rfl
      clear hQ
      refine Rn.aload_n dX12_creaks_22 rfl ?_
      refine Rn.callV0 dX12_creaks_23 vX12_447 (rc149 hR) (by decide) rfl (tX12_plain (M := sI M 149 (upd (M.1 149) 0 0)) hR) (by decide) ⟨(Nat.le_of_ble_eq_true rfl), (Nat.le_of_ble_eq_true rfl), (Nat.le_of_ble_eq_true rfl)⟩ (fun h => by cases h) (fun v1 ly1 M1 ⟨q1, q2, q3⟩ => ?_)
      rw [q1, q2, q3]
      have hm0m : md (sI (sI M 149 (upd (M.1 149) 0 0)) 149 (upd (upd (upd (upd (upd ((sI M 149 (upd (M.1 149) 0 0)).1 149) 55 (-1)) 56 0) 57 (-1)) 61 0) 62 0)) (-1) 0 := ⟨rfl, rfl, rfl, rfl⟩
      have hq0m : qR M (sI (sI M 149 (upd (M.1 149) 0 0)) 149 (upd (upd (upd (upd (upd ((sI M 149 (upd (M.1 149) 0 0)).1 149) 55 (-1)) 56 0) 57 (-1)) 61 0) 62 0)) := qR.plain ((qR.rf (M := M)).f0)
      revert hm0m hq0m
      generalize (sI (sI M 149 (upd (M.1 149) 0 0)) 149 (upd (upd (upd (upd (upd ((sI M 149 (upd (M.1 149) 0 0)).1 149) 55 (-1)) 56 0) 57 (-1)) 61 0) 62 0)) = N0
      intro hm0 hq0
      have hRN0 : RW ly N0.2.2 := by rw [hq0.1]; exact hR
      refine Rn.aload_n dX12_creaks_26 rfl ?_
      refine Rn.iconstv (v := 1) dX12_creaks_27 ic_1 ?_
      refine Rn.iconstv (v := 0) dX12_creaks_28 ic_0 ?_
      refine Rn.callV2 dX12_creaks_29 vX12_461 (rc149 hRN0) (by decide) rfl (rvNow (M := M) (N := N0) (x := (-1)) (kp := 0) (Q := fun v0 ly0 K => v0 = none ∧ ly0 = ly ∧ Rt M K nw t nf (-1) 0 s fc fk ∧ K.1 171 1 = M.1 171 0) hS hq0 hm0 hRN0 (fun K a c => ⟨rfl, rfl, a, c⟩)) (by decide) ⟨(Nat.le_of_ble_eq_true rfl), (Nat.le_of_ble_eq_true rfl), (Nat.le_of_ble_eq_true rfl)⟩ (fun h => by cases h) (fun v1 ly1 N1 ⟨q1, q2, hT1, hb1⟩ => ?_)
      rw [q1, q2]
      have hRN1 : RW ly N1.2.2 := by rw [hT1.1.1]; exact hR
      refine Rn.aload_n dX12_creaks_32 rfl ?_
      refine Rn.getR dX12_creaks_33 fX12_79 rfl (rc149 hRN1) (show N1.2.2 149 37 = some 171 from (rpt37 hRN1)) ?_
      refine Rn.iconstv (v := 1) dX12_creaks_36 ic_1 ?_
      refine Rn.iconstv (v := 0) dX12_creaks_37 ic_0 ?_
      refine Rn.zast dX12_creaks_38 (rc171 hRN1) (by unfold vp_in; decide) ?_
      refine Rn.iconstv (v := 1) dX12_creaks_39 ic_1 ?_
      refine Rn.istore_n (lv' := [some (.ref 149), some (.int (nI i)), some (.int 1)]) dX12_creaks_40 (by decide) rfl ?_
      have h162 : ∀ K, qR M K → K.1 162 i = nI (sc i) := fun K q => (congrFun (q.at 162 (by omega)) i).trans (hsc i hi).1
      have h163 : ∀ K, qR M K → K.1 163 i = M.1 163 i := fun K q => congrFun (q.at 163 (by omega)) i
      have hc12 := (hsc i hi).2
      refine Rn.meq (M2 := sI N1 171 (upd (N1.1 171) 1 0)) rfl ?_
      have hE1 := hT1.ev (bl := 0) hS (by decide) (by decide) (by decide) (by decide) hca
      have loop : ∀ (k j : Nat) (K : Mm), j + k = 64 → qR M K → md K (-1) 0 → EVt K.1 1 n nw p h0 0 ca W (fun m => valL m (lw 0).1 (lw 0).2) (fun m => valL m (lw 1).1 (lw 1).2) → rAl K.1 1 nw (t + j) (itF (fun _ => TR n nw p h0 0 ca W (fun m => valL m (lw 0).1 (lw 0).2) (fun m => valL m (lw 1).1 (lw 1).2)) j s) → crk (TR n nw p h0 0 ca W (fun m => valL m (lw 0).1 (lw 0).2) (fun m => valL m (lw 1).1 (lw 1).2)) s (sc i) (M.1 163 i) 64 1 = crk (TR n nw p h0 0 ca W (fun m => valL m (lw 0).1 (lw 0).2) (fun m => valL m (lw 1).1 (lw 1).2)) s (sc i) (M.1 163 i) k (j + 1) → Rn G l mX12_creaks (8, 0, 0, false) 41 [some (.ref 149), some (.int (nI i)), some (.int (nI (j + 1)))] [] ly K Q := by
        intro k
        induction k with
        | zero =>
          intro j K hj hq hm hE hs hk
          have hRK : RW ly K.2.2 := by rw [hq.1]; exact hR
          refine Rn.iload_n dX12_creaks_41 rfl ?_
          refine Rn.bipushv (v := 64) dX12_creaks_42 bp_64 ?_
          refine Rn.icmp_gt dX12_creaks_44 (fun hc => ?_) (fun hc => ?_)
          · skip
            refine Rn.bipushv (v := -2) dX12_creaks_86 bp_m2 ?_
            rw [hk] at hR1
            exact Rn.iret (ty := .int) dX12_creaks_88 rfl rfl (hR1 K hq)
          · skip
            exact absurd (nI_lt (a := 64) (b := j + 1) (by omega) (by omega)) hc
        | succ k ih =>
          intro j K hj hq hm hE hs hk
          have hRK : RW ly K.2.2 := by rw [hq.1]; exact hR
          refine Rn.iload_n dX12_creaks_41 rfl ?_
          refine Rn.bipushv (v := 64) dX12_creaks_42 bp_64 ?_
          refine Rn.icmp_gt dX12_creaks_44 (fun hc => ?_) (fun hc => ?_)
          · skip
            exact absurd hc (nI_nlt (a := 64) (b := j + 1) (by omega) (by omega))
          · skip
            refine Rn.aload_n dX12_creaks_47 rfl ?_
            refine Rn.iconstv (v := 1) dX12_creaks_48 ic_1 ?_
            refine Rn.callV1 dX12_creaks_49 vX12_454 (rc149 hRK) (by decide) rfl (rvPass (b := 1) (N := K) (Q := fun v0 ly0 K2 => v0 = none ∧ ly0 = ly ∧ psF K K2 1 ∧ EVt K2.1 1 n nw p h0 0 ca W (fun m => valL m (lw 0).1 (lw 0).2) (fun m => valL m (lw 1).1 (lw 1).2) ∧ rAl K2.1 1 nw (t + j + 1) (itF (fun _ => TR n nw p h0 0 ca W (fun m => valL m (lw 0).1 (lw 0).2) (fun m => valL m (lw 1).1 (lw 1).2)) (j + 1) s)) (by decide) hE hm.2.2.1 hs (by have := hS.2.2.2.2; omega) hRK (fun K2 a c d => ⟨rfl, rfl, a, c, d⟩)) (by decide) ⟨(Nat.le_of_ble_eq_true rfl), (Nat.le_of_ble_eq_true rfl), (Nat.le_of_ble_eq_true rfl)⟩ (fun h => by cases h) (fun v1 ly1 K2 ⟨q1, q2, hF2, hE2, hs2⟩ => ?_)
            rw [q1, q2]
            have hq2 := hq.tr hF2.q
            have hRK2 : RW ly K2.2.2 := by rw [hq2.1]; exact hR
            refine Rn.aload_n dX12_creaks_52 rfl ?_
            refine Rn.getR dX12_creaks_53 fX12_86 rfl (rc149 hRK2) (show K2.2.2 149 39 = some 173 from (rpt39 hRK2)) ?_
            refine Rn.bipushv (v := 12) dX12_creaks_56 bp_12 ?_
            refine Rn.aload_n dX12_creaks_58 rfl ?_
            refine Rn.getR dX12_creaks_59 fX12_48 rfl (rc149 hRK2) (show K2.2.2 149 14 = some 162 from (rpt14 hRK2)) ?_
            refine Rn.iload_n dX12_creaks_62 rfl ?_
            refine Rn.ialdN (k0 := i) dX12_creaks_63 (rc162 hRK2) (by omega) (by decide) ?_
            refine Rn.topI (y := nI (sc i)) (h162 K2 hq2) ?_
            refine Rn.iadd dX12_creaks_64 ?_
            refine Rn.topI (y := nI (12 + (sc i))) (nI_add 12 (sc i)) ?_
            refine Rn.ialdN (k0 := (12 + (sc i))) dX12_creaks_65 (rc173 hRK2) (by omega) (by decide) ?_
            refine Rn.topI (y := (itF (fun _ => TR n nw p h0 0 ca W (fun m => valL m (lw 0).1 (lw 0).2) (fun m => valL m (lw 1).1 (lw 1).2)) (j + 1) s).1 (sc i)) (hs2.1 (sc i) hc12) ?_
            refine Rn.mabs dX12_creaks_66 jX12_441 jw_mabs ⟨(Nat.le_of_ble_eq_true rfl), (Nat.le_of_ble_eq_true rfl)⟩ ?_
            refine Rn.aload_n dX12_creaks_69 rfl ?_
            refine Rn.getR dX12_creaks_70 fX12_51 rfl (rc149 hRK2) (show K2.2.2 149 15 = some 163 from (rpt15 hRK2)) ?_
            refine Rn.iload_n dX12_creaks_73 rfl ?_
            refine Rn.ialdN (k0 := i) dX12_creaks_74 (rc163 hRK2) (by omega) (by decide) ?_
            refine Rn.topI (y := M.1 163 i) (h163 K2 hq2) ?_
            refine Rn.icmp_lt dX12_creaks_75 (fun hw => ?_) (fun hw => ?_)
            · skip
              refine Rn.iincN (lv' := [some (.ref 149), some (.int (nI i)), some (.int (nI ((j + 1) + 1)))]) dX12_creaks_80 rfl (by decide) rfl ?_
              refine Rn.goto dX12_creaks_83 ?_
              exact ih (j + 1) K2 (by omega) hq2 (hm.ps hF2) hE2 hs2 (hk.trans (if_neg (Int32.not_le.mpr hw)))
            · skip
              refine Rn.iload_n dX12_creaks_78 rfl ?_
              rw [hk, show crk (TR n nw p h0 0 ca W (fun m => valL m (lw 0).1 (lw 0).2) (fun m => valL m (lw 1).1 (lw 1).2)) s (sc i) (M.1 163 i) (k + 1) (j + 1) = nI (j + 1) from if_pos (Int32.not_lt.mp hw)] at hR1
              exact Rn.iret (ty := .int) dX12_creaks_79 rfl rfl (hR1 K2 hq2)
      exact loop 64 0 _ (by omega) hT1.1.bl (hT1.2.1.eq rfl) hE1 hT1.2.2.1 rfl
    · skip
      refine Rn.iconstv (v := -1) dX12_creaks_20 ic_m1 ?_
      exact Rn.iret (ty := .int) dX12_creaks_21 rfl rfl (hQ.1 (fun ⟨j, hj, e⟩ => g1 (by rw [e]; exact nI_lt hj (by omega))) _ qR.rf.f0)
