theorem lsQ_some {H : Nat × Nat × Nat → Int32} {n k : Nat} {K : Mm} (hH : ∀ a, H a ≤ 100000) (h1 : 2 ≤ n) (h2 : n ≤ 12) (hk : k < 4) (h : lsQ K k (lhF H ((List.range (alC n k)).filterMap (dcd n k)) (100001, none))) : K.1 149 66 = (lhF H (lsS n k 1728 (0, 0, 0)) (100001, none)).1 ∧ ∀ j, j < k → K.1 189 j = bs3 (lhF H (lsS n k 1728 (0, 0, 0)) (100001, none)).2 j := by
  rw [← lsS_all h1 h2 hk] at h
  have hne : (lhF H (lsS n k 1728 (0, 0, 0)) (100001, none)).2 ≠ none := by
    obtain ⟨r, hr⟩ := lsS_cons (n := n) (k := k) (f := 1727) (a := (0, 0, 0))
    rw [hr]
    exact lhF_one (Int32.lt_of_le_of_lt (hH _) (by decide))
  rcases h with ⟨h3, _⟩ | ⟨b, h3, h4, h5⟩
  · exact absurd h3 hne
  · refine ⟨h4, fun j hj => ?_⟩
    rw [h3, h5 j hj]; rfl
theorem tX12_lies {G : Gx} {l : Launch} {ly : Ly} {M : Mm} {x z v : Int32} {n nw t nf : Nat} {p : P4} {h0 c0 : Int32} {W : Wx} {lw : Nat → (Nat → Int32) × Nat} {s : Sc} {fc fk ca : Nat → Int32} (hS : RS M n nw t nf p h0 c0 W lw s fc fk) (hca : cas n nf c0 fc fk ca) {y : Int32} {cakk : Nat → Nat × Nat × Nat → Nat → Int32} (hn2 : 2 ≤ n) (hnf8 : nf ≤ 8) (hcak : ∀ k, k ≤ 3 → nf + k ≤ 8 → ∀ a : Nat × Nat × Nat, a.1 < n → a.2.1 < n → a.2.2 < n → cas n (nf + k) c0 (fcK fc nf a k) (fkK fk nf y k) (cakk k a)) (hR : RW ly M.2.2) {Q : Qt} (hQ : (¬ ((1 ≤ x ∧ x ≤ 32) ∧ (0 ≤ z ∧ z ≤ 3) ∧ (1 ≤ y ∧ y ≤ 99) ∧ (0 ≤ v ∧ v ≤ 3) ∧ nI nf + z ≤ 8) → ∀ K, qR M K → Q (some (.int (-1))) ly K) ∧ (∀ N k j : Nat, 1 ≤ N → N ≤ 32 → x = nI N → k ≤ 3 → z = nI k → (1 ≤ y ∧ y ≤ 99) → j ≤ 3 → v = nI j → nf + k ≤ 8 → (k < j → ∀ K, qR M K → Q (some (.int (-2))) ly K) ∧ (j ≤ k → ∀ K, qR M K → Q (some (.int (if j = 0 then (lhF (fun a => hgS (TR n nw p h0 0 (cakk k a) W (fun m => valL m (lw 0).1 (lw 0).2) (fun m => valL m (lw 1).1 (lw 1).2)) s n N) (lsS n k 1728 (0, 0, 0)) (100001, none)).1 else bs3 (lhF (fun a => hgS (TR n nw p h0 0 (cakk k a) W (fun m => valL m (lw 0).1 (lw 0).2) (fun m => valL m (lw 1).1 (lw 1).2)) s n N) (lsS n k 1728 (0, 0, 0)) (100001, none)).2 (j - 1)))) ly K))) : Mt G l mX12_lies (10, 0, 0, false) [.ref 149, .int x, .int z, .int y, .int v] ly M Q := by
  refine Mt.of (lv := [some (.ref 149), some (.int x), some (.int z), some (.int y), some (.int v)]) rfl ?_
  refine Rn.aload_n dX12_lies_0 rfl ?_
  refine Rn.iconstv (v := 0) dX12_lies_1 ic_0 ?_
  refine Rn.putI dX12_lies_2 fX12_169 rfl rfl rfl (rc149 hR) ?_
  refine Rn.iload_n dX12_lies_5 rfl ?_
  refine Rn.bipushv (v := 32) dX12_lies_6 bp_32 ?_
  refine Rn.callS2 dX12_lies_8 vX12_480 (tX12_isLong) (by decide) ⟨(Nat.le_of_ble_eq_true rfl), (Nat.le_of_ble_eq_true rfl), (Nat.le_of_ble_eq_true rfl)⟩ (fun h => by cases h) (fun v1 ly1 M1 ⟨q1, q2, q3⟩ => ?_)
  rw [q1, q2, q3]
  refine Rn.if_eq dX12_lies_11 (fun g1 => ?_) (fun g1 => ?_)
  · skip
    refine Rn.iconstv (v := -1) dX12_lies_54 ic_m1 ?_
    exact Rn.iret (ty := .int) dX12_lies_55 rfl rfl (hQ.1 (fun h => inR_1.elim (fun k => k.2 h.1) (fun k => absurd (k.1.symm.trans g1) (by decide))) _ qR.rf.f0)
  · skip
    obtain ⟨N, hN1, hN2, rfl⟩ : ∃ j : Nat, 1 ≤ j ∧ j ≤ 32 ∧ x = nI j := (inR_1 (x := x) (lo := 1) (hi := 32)).elim (fun k => absurd k.1 g1) (fun k => nat_of (b := 32) (k := 32) rfl (by decide) k.2.1 k.2.2)
    refine Rn.iload_n dX12_lies_14 rfl ?_
    refine Rn.if_lt dX12_lies_15 (fun z1 => ?_) (fun z1 => ?_)
    · skip
      refine Rn.iconstv (v := -1) dX12_lies_54 ic_m1 ?_
      exact Rn.iret (ty := .int) dX12_lies_55 rfl rfl (hQ.1 (fun h => absurd z1 (Int32.not_lt.mpr h.2.1.1)) _ qR.rf.f0)
    · skip
      refine Rn.iload_n dX12_lies_18 rfl ?_
      refine Rn.iconstv (v := 3) dX12_lies_19 ic_3 ?_
      refine Rn.icmp_gt dX12_lies_20 (fun z2 => ?_) (fun z2 => ?_)
      · skip
        refine Rn.iconstv (v := -1) dX12_lies_54 ic_m1 ?_
        exact Rn.iret (ty := .int) dX12_lies_55 rfl rfl (hQ.1 (fun h => absurd z2 (Int32.not_lt.mpr h.2.1.2)) _ qR.rf.f0)
      · skip
        obtain ⟨k, hk, rfl⟩ := nat_of0 (b := 3) (k := 3) rfl (by decide) (Int32.not_lt.mp z1) (Int32.not_lt.mp z2)
        refine Rn.aload_n dX12_lies_23 rfl ?_
        refine Rn.getR dX12_lies_24 fX12_107 rfl (rc149 hR) (show M.2.2 149 46 = some 180 from (rpt46 hR)) ?_
        refine Rn.iconstv (v := 0) dX12_lies_27 ic_0 ?_
        refine Rn.iald dX12_lies_28 (rc180 hR) (by unfold vp_in; decide) ?_
        refine Rn.topI (y := M.1 180 0) (rfl) ?_
        refine Rn.topI (y := nI nf) (hS.2.2.1.1) ?_
        refine Rn.iload_n dX12_lies_29 rfl ?_
        refine Rn.iadd dX12_lies_30 ?_
        refine Rn.topI (y := nI (nf + k)) (nI_add nf k) ?_
        refine Rn.bipushv (v := 8) dX12_lies_31 bp_8 ?_
        refine Rn.icmp_gt dX12_lies_33 (fun z3 => ?_) (fun z3 => ?_)
        · skip
          refine Rn.iconstv (v := -1) dX12_lies_54 ic_m1 ?_
          exact Rn.iret (ty := .int) dX12_lies_55 rfl rfl (hQ.1 (fun h => absurd z3 (Int32.not_lt.mpr (by rw [← nI_add]; exact h.2.2.2.2))) _ qR.rf.f0)
        · skip
          have hnk : nf + k ≤ 8 := (nI_leI (b := 8) (by omega) (by decide)).mp (Int32.not_lt.mp z3)
          refine Rn.iload_n dX12_lies_36 rfl ?_
          refine Rn.callS1 dX12_lies_37 vX12_464 (tX12_isCalm) (by decide) ⟨(Nat.le_of_ble_eq_true rfl), (Nat.le_of_ble_eq_true rfl), (Nat.le_of_ble_eq_true rfl)⟩ (fun h => by cases h) (fun v1 ly1 M1 ⟨q1, q2, q3⟩ => ?_)
          rw [q1, q2, q3]
          refine Rn.if_eq dX12_lies_40 (fun g2 => ?_) (fun g2 => ?_)
          · skip
            refine Rn.iconstv (v := -1) dX12_lies_54 ic_m1 ?_
            exact Rn.iret (ty := .int) dX12_lies_55 rfl rfl (hQ.1 (fun h => inR_1.elim (fun k => k.2 h.2.2.1) (fun k => absurd (k.1.symm.trans g2) (by decide))) _ qR.rf.f0)
          · skip
            have g2h : 1 ≤ y ∧ y ≤ 99 := (inR_1 (x := y) (lo := 1) (hi := 99)).elim (fun k => absurd k.1 g2) (fun k => k.2)
            refine Rn.iload dX12_lies_43 rfl ?_
            refine Rn.if_lt dX12_lies_45 (fun v1 => ?_) (fun v1 => ?_)
            · skip
              refine Rn.iconstv (v := -1) dX12_lies_54 ic_m1 ?_
              exact Rn.iret (ty := .int) dX12_lies_55 rfl rfl (hQ.1 (fun h => absurd v1 (Int32.not_lt.mpr h.2.2.2.1.1)) _ qR.rf.f0)
            · skip
              refine Rn.iload dX12_lies_48 rfl ?_
              refine Rn.iconstv (v := 3) dX12_lies_50 ic_3 ?_
              refine Rn.icmp_le dX12_lies_51 (fun v2 => ?_) (fun v2 => ?_)
              · skip
                obtain ⟨j, hj, rfl⟩ := nat_of0 (b := 3) (k := 3) rfl (by decide) (Int32.not_lt.mp v1) v2
                obtain ⟨hA, hB⟩ := hQ.2 N k j hN1 hN2 rfl hk rfl g2h hj rfl hnk
                clear hQ
                refine Rn.iload dX12_lies_56 rfl ?_
                refine Rn.iload_n dX12_lies_58 rfl ?_
                refine Rn.icmp_le dX12_lies_59 (fun jk => ?_) (fun jk => ?_)
                · skip
                  have hjk : j ≤ k := (nI_leI (by omega) (by omega)).mp jk
                  have hC := hB hjk
                  refine Rn.aload_n dX12_lies_65 rfl ?_
                  refine Rn.callV0 dX12_lies_66 vX12_447 (rc149 hR) (by decide) rfl (tX12_plain (M := sI M 149 (upd (M.1 149) 0 0)) hR) (by decide) ⟨(Nat.le_of_ble_eq_true rfl), (Nat.le_of_ble_eq_true rfl), (Nat.le_of_ble_eq_true rfl)⟩ (fun h => by cases h) (fun v1 ly1 M1 ⟨q1, q2, q3⟩ => ?_)
                  rw [q1, q2, q3]
                  have hm0m : md (sI (sI M 149 (upd (M.1 149) 0 0)) 149 (upd (upd (upd (upd (upd ((sI M 149 (upd (M.1 149) 0 0)).1 149) 55 (-1)) 56 0) 57 (-1)) 61 0) 62 0)) (-1) 0 := ⟨rfl, rfl, rfl, rfl⟩
                  have hq0m : qR M (sI (sI M 149 (upd (M.1 149) 0 0)) 149 (upd (upd (upd (upd (upd ((sI M 149 (upd (M.1 149) 0 0)).1 149) 55 (-1)) 56 0) 57 (-1)) 61 0) 62 0)) := qR.plain ((qR.rf (M := M)).f0)
                  revert hm0m hq0m
                  generalize (sI (sI M 149 (upd (M.1 149) 0 0)) 149 (upd (upd (upd (upd (upd ((sI M 149 (upd (M.1 149) 0 0)).1 149) 55 (-1)) 56 0) 57 (-1)) 61 0) 62 0)) = N0
                  intro hm0 hq0
                  have hRN0 : RW ly N0.2.2 := by rw [hq0.1]; exact hR
                  refine Rn.aload_n dX12_lies_69 rfl ?_
                  refine Rn.iload_n dX12_lies_70 rfl ?_
                  refine Rn.iload_n dX12_lies_71 rfl ?_
                  refine Rn.iload_n dX12_lies_72 rfl ?_
                  rcases (show k = 0 ∨ k = 1 ∨ k = 2 ∨ k = 3 by omega) with rfl | rfl | rfl | rfl
                  · skip
                    show Rn G l mX12_lies (10, 0, 0, false) 73 [some (.ref 149), some (.int (nI N)), some (.int 0), some (.int y), some (.int (nI j))] [.int y, .int 0, .int (nI N), .ref 149] ly N0 Q
                    refine Rn.callV3 dX12_lies_73 vX12_490 (rc149 hRN0) (by decide) rfl (tX12_layLies0 (M := M) (N0 := N0) (N := N) (y := y) (cak := cakk 0) (Q := fun v0 ly0 K => v0 = none ∧ ly0 = ly ∧ qR M K ∧ md K (-1) 0 ∧ lsQ K 0 (lhF (fun a => hgS (TR n nw p h0 0 (cakk 0 a) W (fun m => valL m (lw 0).1 (lw 0).2) (fun m => valL m (lw 1).1 (lw 1).2)) s n N) ((List.range (alC n 0)).filterMap (dcd n 0)) (100001, none))) (by omega) hnk (by omega) hS (hcak 0 (by decide) hnk) hq0 hm0 hR (fun K a c d => ⟨rfl, rfl, a, c, d⟩)) (by decide) ⟨(Nat.le_of_ble_eq_true rfl), (Nat.le_of_ble_eq_true rfl), (Nat.le_of_ble_eq_true rfl)⟩ (fun h => by cases h) (fun v1 ly1 N1 ⟨q1, q2, hq1, hm1, hl1⟩ => ?_)
                    rw [q1, q2]
                    have hRN1 : RW ly N1.2.2 := by rw [hq1.1]; exact hR
                    obtain ⟨e66, e189⟩ := lsQ_some (fun a => hgS_le (fun s => gr_pas) N) hn2 hS.n.2 (by decide) hl1
                    refine Rn.iload dX12_lies_76 rfl ?_
                    refine Rn.if_ne dX12_lies_78 (fun j0 => ?_) (fun j0 => ?_)
                    · skip
                      have hj0 : ¬ j = 0 := fun h => j0 (by rw [h]; rfl)
                      refine Rn.aload_n dX12_lies_88 rfl ?_
                      refine Rn.getR dX12_lies_89 fX12_141 rfl (rc149 hRN1) (show N1.2.2 149 67 = some 189 from (rpt67 hRN1)) ?_
                      refine Rn.iload dX12_lies_92 rfl ?_
                      refine Rn.iconstv (v := 1) dX12_lies_94 ic_1 ?_
                      refine Rn.isub dX12_lies_95 ?_
                      refine Rn.topI (y := nI (j - 1)) (i32sub (b := 1) (by omega)) ?_
                      refine Rn.ialdN (k0 := (j - 1)) dX12_lies_96 (rc189 hRN1) (by omega) (by decide) ?_
                      refine Rn.topI (y := bs3 (lhF (fun a => hgS (TR n nw p h0 0 (cakk 0 a) W (fun m => valL m (lw 0).1 (lw 0).2) (fun m => valL m (lw 1).1 (lw 1).2)) s n N) (lsS n 0 1728 (0, 0, 0)) (100001, none)).2 (j - 1)) (e189 (j - 1) (by omega)) ?_
                      rw [if_neg hj0] at hC
                      exact Rn.iret (ty := .int) dX12_lies_97 rfl rfl (hC N1 hq1)
                    · skip
                      have hj0 : j = 0 := (nI_eq (a := j) (b := 0) (by omega) (by decide)).mp j0
                      refine Rn.aload_n dX12_lies_81 rfl ?_
                      refine Rn.getI dX12_lies_82 fX12_487 rfl (rc149 hRN1) ?_
                      refine Rn.topI (y := (lhF (fun a => hgS (TR n nw p h0 0 (cakk 0 a) W (fun m => valL m (lw 0).1 (lw 0).2) (fun m => valL m (lw 1).1 (lw 1).2)) s n N) (lsS n 0 1728 (0, 0, 0)) (100001, none)).1) (e66) ?_
                      refine Rn.goto dX12_lies_85 ?_
                      rw [if_pos hj0] at hC
                      exact Rn.iret (ty := .int) dX12_lies_97 rfl rfl (hC N1 hq1)
                  · skip
                    show Rn G l mX12_lies (10, 0, 0, false) 73 [some (.ref 149), some (.int (nI N)), some (.int 1), some (.int y), some (.int (nI j))] [.int y, .int 1, .int (nI N), .ref 149] ly N0 Q
                    refine Rn.callV3 dX12_lies_73 vX12_490 (rc149 hRN0) (by decide) rfl (tX12_layLies1 (M := M) (N0 := N0) (N := N) (y := y) (cak := cakk 1) (Q := fun v0 ly0 K => v0 = none ∧ ly0 = ly ∧ qR M K ∧ md K (-1) 0 ∧ lsQ K 1 (lhF (fun a => hgS (TR n nw p h0 0 (cakk 1 a) W (fun m => valL m (lw 0).1 (lw 0).2) (fun m => valL m (lw 1).1 (lw 1).2)) s n N) ((List.range (alC n 1)).filterMap (dcd n 1)) (100001, none))) (by omega) hnk (by omega) hS (hcak 1 (by decide) hnk) hq0 hm0 hR (fun K a c d => ⟨rfl, rfl, a, c, d⟩)) (by decide) ⟨(Nat.le_of_ble_eq_true rfl), (Nat.le_of_ble_eq_true rfl), (Nat.le_of_ble_eq_true rfl)⟩ (fun h => by cases h) (fun v1 ly1 N1 ⟨q1, q2, hq1, hm1, hl1⟩ => ?_)
                    rw [q1, q2]
                    have hRN1 : RW ly N1.2.2 := by rw [hq1.1]; exact hR
                    obtain ⟨e66, e189⟩ := lsQ_some (fun a => hgS_le (fun s => gr_pas) N) hn2 hS.n.2 (by decide) hl1
                    refine Rn.iload dX12_lies_76 rfl ?_
                    refine Rn.if_ne dX12_lies_78 (fun j0 => ?_) (fun j0 => ?_)
                    · skip
                      have hj0 : ¬ j = 0 := fun h => j0 (by rw [h]; rfl)
                      refine Rn.aload_n dX12_lies_88 rfl ?_
                      refine Rn.getR dX12_lies_89 fX12_141 rfl (rc149 hRN1) (show N1.2.2 149 67 = some 189 from (rpt67 hRN1)) ?_
                      refine Rn.iload dX12_lies_92 rfl ?_
                      refine Rn.iconstv (v := 1) dX12_lies_94 ic_1 ?_
                      refine Rn.isub dX12_lies_95 ?_
                      refine Rn.topI (y := nI (j - 1)) (i32sub (b := 1) (by omega)) ?_
                      refine Rn.ialdN (k0 := (j - 1)) dX12_lies_96 (rc189 hRN1) (by omega) (by decide) ?_
                      refine Rn.topI (y := bs3 (lhF (fun a => hgS (TR n nw p h0 0 (cakk 1 a) W (fun m => valL m (lw 0).1 (lw 0).2) (fun m => valL m (lw 1).1 (lw 1).2)) s n N) (lsS n 1 1728 (0, 0, 0)) (100001, none)).2 (j - 1)) (e189 (j - 1) (by omega)) ?_
                      rw [if_neg hj0] at hC
                      exact Rn.iret (ty := .int) dX12_lies_97 rfl rfl (hC N1 hq1)
                    · skip
                      have hj0 : j = 0 := (nI_eq (a := j) (b := 0) (by omega) (by decide)).mp j0
                      refine Rn.aload_n dX12_lies_81 rfl ?_
                      refine Rn.getI dX12_lies_82 fX12_487 rfl (rc149 hRN1) ?_
                      refine Rn.topI (y := (lhF (fun a => hgS (TR n nw p h0 0 (cakk 1 a) W (fun m => valL m (lw 0).1 (lw 0).2) (fun m => valL m (lw 1).1 (lw 1).2)) s n N) (lsS n 1 1728 (0, 0, 0)) (100001, none)).1) (e66) ?_
                      refine Rn.goto dX12_lies_85 ?_
                      rw [if_pos hj0] at hC
                      exact Rn.iret (ty := .int) dX12_lies_97 rfl rfl (hC N1 hq1)
                  · skip
                    show Rn G l mX12_lies (10, 0, 0, false) 73 [some (.ref 149), some (.int (nI N)), some (.int 2), some (.int y), some (.int (nI j))] [.int y, .int 2, .int (nI N), .ref 149] ly N0 Q
                    refine Rn.callV3 dX12_lies_73 vX12_490 (rc149 hRN0) (by decide) rfl (tX12_layLies2 (M := M) (N0 := N0) (N := N) (y := y) (cak := cakk 2) (Q := fun v0 ly0 K => v0 = none ∧ ly0 = ly ∧ qR M K ∧ md K (-1) 0 ∧ lsQ K 2 (lhF (fun a => hgS (TR n nw p h0 0 (cakk 2 a) W (fun m => valL m (lw 0).1 (lw 0).2) (fun m => valL m (lw 1).1 (lw 1).2)) s n N) ((List.range (alC n 2)).filterMap (dcd n 2)) (100001, none))) (by omega) hnk (by omega) hS (hcak 2 (by decide) hnk) hq0 hm0 hR (fun K a c d => ⟨rfl, rfl, a, c, d⟩)) (by decide) ⟨(Nat.le_of_ble_eq_true rfl), (Nat.le_of_ble_eq_true rfl), (Nat.le_of_ble_eq_true rfl)⟩ (fun h => by cases h) (fun v1 ly1 N1 ⟨q1, q2, hq1, hm1, hl1⟩ => ?_)
                    rw [q1, q2]
                    have hRN1 : RW ly N1.2.2 := by rw [hq1.1]; exact hR
                    obtain ⟨e66, e189⟩ := lsQ_some (fun a => hgS_le (fun s => gr_pas) N) hn2 hS.n.2 (by decide) hl1
                    refine Rn.iload dX12_lies_76 rfl ?_
                    refine Rn.if_ne dX12_lies_78 (fun j0 => ?_) (fun j0 => ?_)
                    · skip
                      have hj0 : ¬ j = 0 := fun h => j0 (by rw [h]; rfl)
                      refine Rn.aload_n dX12_lies_88 rfl ?_
                      refine Rn.getR dX12_lies_89 fX12_141 rfl (rc149 hRN1) (show N1.2.2 149 67 = some 189 from (rpt67 hRN1)) ?_
                      refine Rn.iload dX12_lies_92 rfl ?_
                      refine Rn.iconstv (v := 1) dX12_lies_94 ic_1 ?_
                      refine Rn.isub dX12_lies_95 ?_
                      refine Rn.topI (y := nI (j - 1)) (i32sub (b := 1) (by omega)) ?_
                      refine Rn.ialdN (k0 := (j - 1)) dX12_lies_96 (rc189 hRN1) (by omega) (by decide) ?_
                      refine Rn.topI (y := bs3 (lhF (fun a => hgS (TR n nw p h0 0 (cakk 2 a) W (fun m => valL m (lw 0).1 (lw 0).2) (fun m => valL m (lw 1).1 (lw 1).2)) s n N) (lsS n 2 1728 (0, 0, 0)) (100001, none)).2 (j - 1)) (e189 (j - 1) (by omega)) ?_
                      rw [if_neg hj0] at hC
                      exact Rn.iret (ty := .int) dX12_lies_97 rfl rfl (hC N1 hq1)
                    · skip
                      have hj0 : j = 0 := (nI_eq (a := j) (b := 0) (by omega) (by decide)).mp j0
                      refine Rn.aload_n dX12_lies_81 rfl ?_
                      refine Rn.getI dX12_lies_82 fX12_487 rfl (rc149 hRN1) ?_
                      refine Rn.topI (y := (lhF (fun a => hgS (TR n nw p h0 0 (cakk 2 a) W (fun m => valL m (lw 0).1 (lw 0).2) (fun m => valL m (lw 1).1 (lw 1).2)) s n N) (lsS n 2 1728 (0, 0, 0)) (100001, none)).1) (e66) ?_
                      refine Rn.goto dX12_lies_85 ?_
                      rw [if_pos hj0] at hC
                      exact Rn.iret (ty := .int) dX12_lies_97 rfl rfl (hC N1 hq1)
                  · skip
                    show Rn G l mX12_lies (10, 0, 0, false) 73 [some (.ref 149), some (.int (nI N)), some (.int 3), some (.int y), some (.int (nI j))] [.int y, .int 3, .int (nI N), .ref 149] ly N0 Q
                    refine Rn.callV3 dX12_lies_73 vX12_490 (rc149 hRN0) (by decide) rfl (tX12_layLies3 (M := M) (N0 := N0) (N := N) (y := y) (cak := cakk 3) (Q := fun v0 ly0 K => v0 = none ∧ ly0 = ly ∧ qR M K ∧ md K (-1) 0 ∧ lsQ K 3 (lhF (fun a => hgS (TR n nw p h0 0 (cakk 3 a) W (fun m => valL m (lw 0).1 (lw 0).2) (fun m => valL m (lw 1).1 (lw 1).2)) s n N) ((List.range (alC n 3)).filterMap (dcd n 3)) (100001, none))) (by omega) hnk (by omega) hS (hcak 3 (by decide) hnk) hq0 hm0 hR (fun K a c d => ⟨rfl, rfl, a, c, d⟩)) (by decide) ⟨(Nat.le_of_ble_eq_true rfl), (Nat.le_of_ble_eq_true rfl), (Nat.le_of_ble_eq_true rfl)⟩ (fun h => by cases h) (fun v1 ly1 N1 ⟨q1, q2, hq1, hm1, hl1⟩ => ?_)
                    rw [q1, q2]
                    have hRN1 : RW ly N1.2.2 := by rw [hq1.1]; exact hR
                    obtain ⟨e66, e189⟩ := lsQ_some (fun a => hgS_le (fun s => gr_pas) N) hn2 hS.n.2 (by decide) hl1
                    refine Rn.iload dX12_lies_76 rfl ?_
                    refine Rn.if_ne dX12_lies_78 (fun j0 => ?_) (fun j0 => ?_)
                    · skip
                      have hj0 : ¬ j = 0 := fun h => j0 (by rw [h]; rfl)
                      refine Rn.aload_n dX12_lies_88 rfl ?_
                      refine Rn.getR dX12_lies_89 fX12_141 rfl (rc149 hRN1) (show N1.2.2 149 67 = some 189 from (rpt67 hRN1)) ?_
                      refine Rn.iload dX12_lies_92 rfl ?_
                      refine Rn.iconstv (v := 1) dX12_lies_94 ic_1 ?_
                      refine Rn.isub dX12_lies_95 ?_
                      refine Rn.topI (y := nI (j - 1)) (i32sub (b := 1) (by omega)) ?_
                      refine Rn.ialdN (k0 := (j - 1)) dX12_lies_96 (rc189 hRN1) (by omega) (by decide) ?_
                      refine Rn.topI (y := bs3 (lhF (fun a => hgS (TR n nw p h0 0 (cakk 3 a) W (fun m => valL m (lw 0).1 (lw 0).2) (fun m => valL m (lw 1).1 (lw 1).2)) s n N) (lsS n 3 1728 (0, 0, 0)) (100001, none)).2 (j - 1)) (e189 (j - 1) (by omega)) ?_
                      rw [if_neg hj0] at hC
                      exact Rn.iret (ty := .int) dX12_lies_97 rfl rfl (hC N1 hq1)
                    · skip
                      have hj0 : j = 0 := (nI_eq (a := j) (b := 0) (by omega) (by decide)).mp j0
                      refine Rn.aload_n dX12_lies_81 rfl ?_
                      refine Rn.getI dX12_lies_82 fX12_487 rfl (rc149 hRN1) ?_
                      refine Rn.topI (y := (lhF (fun a => hgS (TR n nw p h0 0 (cakk 3 a) W (fun m => valL m (lw 0).1 (lw 0).2) (fun m => valL m (lw 1).1 (lw 1).2)) s n N) (lsS n 3 1728 (0, 0, 0)) (100001, none)).1) (e66) ?_
                      refine Rn.goto dX12_lies_85 ?_
                      rw [if_pos hj0] at hC
                      exact Rn.iret (ty := .int) dX12_lies_97 rfl rfl (hC N1 hq1)
                · skip
                  refine Rn.bipushv (v := -2) dX12_lies_62 bp_m2 ?_
                  exact Rn.iret (ty := .int) dX12_lies_64 rfl rfl (hA (Nat.lt_of_not_le (fun h => jk (nI_le h (by omega)))) _ qR.rf.f0)
              · skip
                refine Rn.iconstv (v := -1) dX12_lies_54 ic_m1 ?_
                exact Rn.iret (ty := .int) dX12_lies_55 rfl rfl (hQ.1 (fun h => v2 h.2.2.2.1.2) _ qR.rf.f0)
theorem tX12_fewest {G : Gx} {l : Launch} {ly : Ly} {M : Mm} {x bd : Int32} {n nw t nf : Nat} {p : P4} {h0 c0 : Int32} {W : Wx} {lw : Nat → (Nat → Int32) × Nat} {s : Sc} {fc fk ca : Nat → Int32} (hS : RS M n nw t nf p h0 c0 W lw s fc fk) (hca : cas n nf c0 fc fk ca) {y : Int32} {cakk : Nat → Nat × Nat × Nat → Nat → Int32} (hn2 : 2 ≤ n) (hnf8 : nf ≤ 8) (hcak : ∀ k, k ≤ 3 → nf + k ≤ 8 → ∀ a : Nat × Nat × Nat, a.1 < n → a.2.1 < n → a.2.2 < n → cas n (nf + k) c0 (fcK fc nf a k) (fkK fk nf y k) (cakk k a)) (hR : RW ly M.2.2) {Q : Qt} (hQ : (¬ ((1 ≤ x ∧ x ≤ 32) ∧ (1 ≤ y ∧ y ≤ 99) ∧ (0 ≤ bd ∧ bd ≤ 100000)) → ∀ K, qR M K → Q (some (.int (-1))) ly K) ∧ (∀ N : Nat, 1 ≤ N → N ≤ 32 → x = nI N → (1 ≤ y ∧ y ≤ 99) → (0 ≤ bd ∧ bd ≤ 100000) → ∀ K, qR M K → Q (some (.int (fewF nf (fun k => (lhF (fun a => hgS (TR n nw p h0 0 (cakk k a) W (fun m => valL m (lw 0).1 (lw 0).2) (fun m => valL m (lw 1).1 (lw 1).2)) s n N) (lsS n k 1728 (0, 0, 0)) (bd + 1, none)).1) bd 4 0))) ly K)) : Mt G l mX12_fewest (10, 0, 0, false) [.ref 149, .int x, .int y, .int bd] ly M Q := by
  refine Mt.of (lv := [some (.ref 149), some (.int x), some (.int y), some (.int bd), none]) rfl ?_
  refine Rn.aload_n dX12_fewest_0 rfl ?_
  refine Rn.iconstv (v := 0) dX12_fewest_1 ic_0 ?_
  refine Rn.putI dX12_fewest_2 fX12_169 rfl rfl rfl (rc149 hR) ?_
  refine Rn.iload_n dX12_fewest_5 rfl ?_
  refine Rn.bipushv (v := 32) dX12_fewest_6 bp_32 ?_
  refine Rn.callS2 dX12_fewest_8 vX12_480 (tX12_isLong) (by decide) ⟨(Nat.le_of_ble_eq_true rfl), (Nat.le_of_ble_eq_true rfl), (Nat.le_of_ble_eq_true rfl)⟩ (fun h => by cases h) (fun v1 ly1 M1 ⟨q1, q2, q3⟩ => ?_)
  rw [q1, q2, q3]
  refine Rn.if_eq dX12_fewest_11 (fun g1 => ?_) (fun g1 => ?_)
  · skip
    refine Rn.iconstv (v := -1) dX12_fewest_32 ic_m1 ?_
    exact Rn.iret (ty := .int) dX12_fewest_33 rfl rfl (hQ.1 (fun h => inR_1.elim (fun k => k.2 h.1) (fun k => absurd (k.1.symm.trans g1) (by decide))) _ qR.rf.f0)
  · skip
    obtain ⟨N, hN1, hN2, rfl⟩ : ∃ j : Nat, 1 ≤ j ∧ j ≤ 32 ∧ x = nI j := (inR_1 (x := x) (lo := 1) (hi := 32)).elim (fun k => absurd k.1 g1) (fun k => nat_of (b := 32) (k := 32) rfl (by decide) k.2.1 k.2.2)
    refine Rn.iload_n dX12_fewest_14 rfl ?_
    refine Rn.callS1 dX12_fewest_15 vX12_464 (tX12_isCalm) (by decide) ⟨(Nat.le_of_ble_eq_true rfl), (Nat.le_of_ble_eq_true rfl), (Nat.le_of_ble_eq_true rfl)⟩ (fun h => by cases h) (fun v1 ly1 M1 ⟨q1, q2, q3⟩ => ?_)
    rw [q1, q2, q3]
    refine Rn.if_eq dX12_fewest_18 (fun g2 => ?_) (fun g2 => ?_)
    · skip
      refine Rn.iconstv (v := -1) dX12_fewest_32 ic_m1 ?_
      exact Rn.iret (ty := .int) dX12_fewest_33 rfl rfl (hQ.1 (fun h => inR_1.elim (fun k => k.2 h.2.1) (fun k => absurd (k.1.symm.trans g2) (by decide))) _ qR.rf.f0)
    · skip
      have g2h : 1 ≤ y ∧ y ≤ 99 := (inR_1 (x := y) (lo := 1) (hi := 99)).elim (fun k => absurd k.1 g2) (fun k => k.2)
      refine Rn.iload_n dX12_fewest_21 rfl ?_
      refine Rn.if_lt dX12_fewest_22 (fun d1 => ?_) (fun d1 => ?_)
      · skip
        refine Rn.iconstv (v := -1) dX12_fewest_32 ic_m1 ?_
        exact Rn.iret (ty := .int) dX12_fewest_33 rfl rfl (hQ.1 (fun h => absurd d1 (Int32.not_lt.mpr h.2.2.1)) _ qR.rf.f0)
      · skip
        refine Rn.iload_n dX12_fewest_25 rfl ?_
        refine Rn.ldcw dX12_fewest_26 kX12_418 ?_
        refine Rn.icmp_le dX12_fewest_29 (fun d2 => ?_) (fun d2 => ?_)
        · skip
          have hbd : 0 ≤ bd ∧ bd ≤ 100000 := ⟨Int32.not_lt.mp d1, d2⟩
          have hA := hQ.2 N hN1 hN2 rfl g2h hbd
          clear hQ
          have hs1 : ¬ (100001 : Int32) ≤ bd := fun h => absurd (show (100001 : Int32) ≤ 100000 from Int32.le_trans h hbd.2) (by decide)
          have hs2 : ¬ bd + 1 ≤ bd := by
            obtain ⟨b, hb, rfl⟩ := nat_of0 (b := 100000) (k := 100000) rfl (by decide) hbd.1 hbd.2
            rw [nI_1]
            exact nI_ge (Nat.lt_succ_self b) (by omega)
          have hiff : ∀ k, (lhF (fun a => hgS (TR n nw p h0 0 (cakk k a) W (fun m => valL m (lw 0).1 (lw 0).2) (fun m => valL m (lw 1).1 (lw 1).2)) s n N) (lsS n k 1728 (0, 0, 0)) (100001, none)).1 ≤ bd ↔ (lhF (fun a => hgS (TR n nw p h0 0 (cakk k a) W (fun m => valL m (lw 0).1 (lw 0).2) (fun m => valL m (lw 1).1 (lw 1).2)) s n N) (lsS n k 1728 (0, 0, 0)) (bd + 1, none)).1 ≤ bd := fun k => by rw [lhF_le, lhF_le]; exact ⟨fun h => h.elim (fun a => absurd a hs1) Or.inr, fun h => h.elim (fun a => absurd a hs2) Or.inr⟩
          refine Rn.aload_n dX12_fewest_34 rfl ?_
          refine Rn.callV0 dX12_fewest_35 vX12_447 (rc149 hR) (by decide) rfl (tX12_plain (M := sI M 149 (upd (M.1 149) 0 0)) hR) (by decide) ⟨(Nat.le_of_ble_eq_true rfl), (Nat.le_of_ble_eq_true rfl), (Nat.le_of_ble_eq_true rfl)⟩ (fun h => by cases h) (fun v1 ly1 M1 ⟨q1, q2, q3⟩ => ?_)
          rw [q1, q2, q3]
          have hm0m : md (sI (sI M 149 (upd (M.1 149) 0 0)) 149 (upd (upd (upd (upd (upd ((sI M 149 (upd (M.1 149) 0 0)).1 149) 55 (-1)) 56 0) 57 (-1)) 61 0) 62 0)) (-1) 0 := ⟨rfl, rfl, rfl, rfl⟩
          have hq0m : qR M (sI (sI M 149 (upd (M.1 149) 0 0)) 149 (upd (upd (upd (upd (upd ((sI M 149 (upd (M.1 149) 0 0)).1 149) 55 (-1)) 56 0) 57 (-1)) 61 0) 62 0)) := qR.plain ((qR.rf (M := M)).f0)
          revert hm0m hq0m
          generalize (sI (sI M 149 (upd (M.1 149) 0 0)) 149 (upd (upd (upd (upd (upd ((sI M 149 (upd (M.1 149) 0 0)).1 149) 55 (-1)) 56 0) 57 (-1)) 61 0) 62 0)) = N0
          intro hm0 hq0
          have hRN0 : RW ly N0.2.2 := by rw [hq0.1]; exact hR
          refine Rn.iconstv (v := 0) dX12_fewest_38 ic_0 ?_
          refine Rn.istore (lv' := [some (.ref 149), some (.int (nI N)), some (.int y), some (.int bd), some (.int 0)]) dX12_fewest_39 (by decide) rfl ?_
          show Rn G l mX12_fewest (10, 0, 0, false) 41 [some (.ref 149), some (.int (nI N)), some (.int y), some (.int bd), some (.int 0)] [] ly N0 Q
          have hf0 : N0.1 180 0 = nI nf := (hS.q hq0).2.2.1.1
          refine Rn.iload dX12_fewest_41 rfl ?_
          refine Rn.iconstv (v := 3) dX12_fewest_43 ic_3 ?_
          refine Rn.icmp_gt dX12_fewest_44 (fun hh0 => ?_) (fun hh0 => ?_)
          · skip
            exact absurd hh0 (by decide)
          · skip
            refine Rn.aload_n dX12_fewest_47 rfl ?_
            refine Rn.getR dX12_fewest_48 fX12_107 rfl (rc149 hRN0) (show N0.2.2 149 46 = some 180 from (rpt46 hRN0)) ?_
            refine Rn.iconstv (v := 0) dX12_fewest_51 ic_0 ?_
            refine Rn.iald dX12_fewest_52 (rc180 hRN0) (by unfold vp_in; decide) ?_
            refine Rn.topI (y := N0.1 180 0) (rfl) ?_
            refine Rn.topI (y := nI nf) (hf0) ?_
            refine Rn.iload dX12_fewest_53 rfl ?_
            refine Rn.iadd dX12_fewest_55 ?_
            refine Rn.topI (y := nI nf) (Int32.add_zero _) ?_
            refine Rn.bipushv (v := 8) dX12_fewest_56 bp_8 ?_
            refine Rn.icmp_gt dX12_fewest_58 (fun m0 => ?_) (fun m0 => ?_)
            · skip
              have h8 : 8 < nf + 0 := (nI_ltI (a := 8) (by decide) (by omega)).mp m0
              rw [show fewF nf (fun k => (lhF (fun a => hgS (TR n nw p h0 0 (cakk k a) W (fun m => valL m (lw 0).1 (lw 0).2) (fun m => valL m (lw 1).1 (lw 1).2)) s n N) (lsS n k 1728 (0, 0, 0)) (bd + 1, none)).1) bd 4 0 = -2 from if_pos h8] at hA
              refine Rn.bipushv (v := -2) dX12_fewest_86 bp_m2 ?_
              exact Rn.iret (ty := .int) dX12_fewest_88 rfl rfl (hA N0 hq0)
            · skip
              have h8 : nf + 0 ≤ 8 := (nI_leI (b := 8) (by omega) (by decide)).mp (Int32.not_lt.mp m0)
              rw [show fewF nf (fun k => (lhF (fun a => hgS (TR n nw p h0 0 (cakk k a) W (fun m => valL m (lw 0).1 (lw 0).2) (fun m => valL m (lw 1).1 (lw 1).2)) s n N) (lsS n k 1728 (0, 0, 0)) (bd + 1, none)).1) bd 4 0 = if (lhF (fun a => hgS (TR n nw p h0 0 (cakk 0 a) W (fun m => valL m (lw 0).1 (lw 0).2) (fun m => valL m (lw 1).1 (lw 1).2)) s n N) (lsS n 0 1728 (0, 0, 0)) (bd + 1, none)).1 ≤ bd then nI 0 else fewF nf (fun k => (lhF (fun a => hgS (TR n nw p h0 0 (cakk k a) W (fun m => valL m (lw 0).1 (lw 0).2) (fun m => valL m (lw 1).1 (lw 1).2)) s n N) (lsS n k 1728 (0, 0, 0)) (bd + 1, none)).1) bd 3 1 from if_neg (by omega)] at hA
              refine Rn.aload_n dX12_fewest_61 rfl ?_
              refine Rn.iload_n dX12_fewest_62 rfl ?_
              refine Rn.iload dX12_fewest_63 rfl ?_
              refine Rn.iload_n dX12_fewest_65 rfl ?_
              refine Rn.callV3 dX12_fewest_66 vX12_490 (rc149 hRN0) (by decide) rfl (tX12_layLies0 (M := M) (N0 := N0) (N := N) (y := y) (cak := cakk 0) (Q := fun v0 ly0 K => v0 = none ∧ ly0 = ly ∧ qR M K ∧ md K (-1) 0 ∧ lsQ K 0 (lhF (fun a => hgS (TR n nw p h0 0 (cakk 0 a) W (fun m => valL m (lw 0).1 (lw 0).2) (fun m => valL m (lw 1).1 (lw 1).2)) s n N) ((List.range (alC n 0)).filterMap (dcd n 0)) (100001, none))) (by omega) h8 (by omega) hS (hcak 0 (by decide) h8) hq0 hm0 hR (fun K a c d => ⟨rfl, rfl, a, c, d⟩)) (by decide) ⟨(Nat.le_of_ble_eq_true rfl), (Nat.le_of_ble_eq_true rfl), (Nat.le_of_ble_eq_true rfl)⟩ (fun h => by cases h) (fun v1 ly1 N1 ⟨q1, q2, hq1, hm1, hl1⟩ => ?_)
              rw [q1, q2]
              have hRN1 : RW ly N1.2.2 := by rw [hq1.1]; exact hR
              have e66_0 := (lsQ_some (fun a => hgS_le (fun s => gr_pas) N) hn2 hS.n.2 (by decide) hl1).1
              refine Rn.aload_n dX12_fewest_69 rfl ?_
              refine Rn.getI dX12_fewest_70 fX12_487 rfl (rc149 hRN1) ?_
              refine Rn.topI (y := (lhF (fun a => hgS (TR n nw p h0 0 (cakk 0 a) W (fun m => valL m (lw 0).1 (lw 0).2) (fun m => valL m (lw 1).1 (lw 1).2)) s n N) (lsS n 0 1728 (0, 0, 0)) (100001, none)).1) (e66_0) ?_
              refine Rn.iload_n dX12_fewest_73 rfl ?_
              refine Rn.icmp_gt dX12_fewest_74 (fun l0 => ?_) (fun l0 => ?_)
              · skip
                rw [if_neg (fun h => absurd l0 (Int32.not_lt.mpr ((hiff 0).mpr h)))] at hA
                refine Rn.iincv (j' := 1) (lv' := [some (.ref 149), some (.int (nI N)), some (.int y), some (.int bd), some (.int (0 + 1))]) dX12_fewest_80 rfl rfl (by decide) rfl ?_
                refine Rn.goto dX12_fewest_83 ?_
                show Rn G l mX12_fewest (10, 0, 0, false) 41 [some (.ref 149), some (.int (nI N)), some (.int y), some (.int bd), some (.int 1)] [] ly N1 Q
                have hf1 : N1.1 180 0 = nI nf := (hS.q hq1).2.2.1.1
                refine Rn.iload dX12_fewest_41 rfl ?_
                refine Rn.iconstv (v := 3) dX12_fewest_43 ic_3 ?_
                refine Rn.icmp_gt dX12_fewest_44 (fun hh1 => ?_) (fun hh1 => ?_)
                · skip
                  exact absurd hh1 (by decide)
                · skip
                  refine Rn.aload_n dX12_fewest_47 rfl ?_
                  refine Rn.getR dX12_fewest_48 fX12_107 rfl (rc149 hRN1) (show N1.2.2 149 46 = some 180 from (rpt46 hRN1)) ?_
                  refine Rn.iconstv (v := 0) dX12_fewest_51 ic_0 ?_
                  refine Rn.iald dX12_fewest_52 (rc180 hRN1) (by unfold vp_in; decide) ?_
                  refine Rn.topI (y := N1.1 180 0) (rfl) ?_
                  refine Rn.topI (y := nI nf) (hf1) ?_
                  refine Rn.iload dX12_fewest_53 rfl ?_
                  refine Rn.iadd dX12_fewest_55 ?_
                  refine Rn.topI (y := nI (nf + 1)) (nI_add nf 1) ?_
                  refine Rn.bipushv (v := 8) dX12_fewest_56 bp_8 ?_
                  refine Rn.icmp_gt dX12_fewest_58 (fun m1 => ?_) (fun m1 => ?_)
                  · skip
                    have h8 : 8 < nf + 1 := (nI_ltI (a := 8) (by decide) (by omega)).mp m1
                    rw [show fewF nf (fun k => (lhF (fun a => hgS (TR n nw p h0 0 (cakk k a) W (fun m => valL m (lw 0).1 (lw 0).2) (fun m => valL m (lw 1).1 (lw 1).2)) s n N) (lsS n k 1728 (0, 0, 0)) (bd + 1, none)).1) bd 3 1 = -2 from if_pos h8] at hA
                    refine Rn.bipushv (v := -2) dX12_fewest_86 bp_m2 ?_
                    exact Rn.iret (ty := .int) dX12_fewest_88 rfl rfl (hA N1 hq1)
                  · skip
                    have h8 : nf + 1 ≤ 8 := (nI_leI (b := 8) (by omega) (by decide)).mp (Int32.not_lt.mp m1)
                    rw [show fewF nf (fun k => (lhF (fun a => hgS (TR n nw p h0 0 (cakk k a) W (fun m => valL m (lw 0).1 (lw 0).2) (fun m => valL m (lw 1).1 (lw 1).2)) s n N) (lsS n k 1728 (0, 0, 0)) (bd + 1, none)).1) bd 3 1 = if (lhF (fun a => hgS (TR n nw p h0 0 (cakk 1 a) W (fun m => valL m (lw 0).1 (lw 0).2) (fun m => valL m (lw 1).1 (lw 1).2)) s n N) (lsS n 1 1728 (0, 0, 0)) (bd + 1, none)).1 ≤ bd then nI 1 else fewF nf (fun k => (lhF (fun a => hgS (TR n nw p h0 0 (cakk k a) W (fun m => valL m (lw 0).1 (lw 0).2) (fun m => valL m (lw 1).1 (lw 1).2)) s n N) (lsS n k 1728 (0, 0, 0)) (bd + 1, none)).1) bd 2 2 from if_neg (by omega)] at hA
                    refine Rn.aload_n dX12_fewest_61 rfl ?_
                    refine Rn.iload_n dX12_fewest_62 rfl ?_
                    refine Rn.iload dX12_fewest_63 rfl ?_
                    refine Rn.iload_n dX12_fewest_65 rfl ?_
                    refine Rn.callV3 dX12_fewest_66 vX12_490 (rc149 hRN1) (by decide) rfl (tX12_layLies1 (M := M) (N0 := N1) (N := N) (y := y) (cak := cakk 1) (Q := fun v0 ly0 K => v0 = none ∧ ly0 = ly ∧ qR M K ∧ md K (-1) 0 ∧ lsQ K 1 (lhF (fun a => hgS (TR n nw p h0 0 (cakk 1 a) W (fun m => valL m (lw 0).1 (lw 0).2) (fun m => valL m (lw 1).1 (lw 1).2)) s n N) ((List.range (alC n 1)).filterMap (dcd n 1)) (100001, none))) (by omega) h8 (by omega) hS (hcak 1 (by decide) h8) hq1 hm1 hR (fun K a c d => ⟨rfl, rfl, a, c, d⟩)) (by decide) ⟨(Nat.le_of_ble_eq_true rfl), (Nat.le_of_ble_eq_true rfl), (Nat.le_of_ble_eq_true rfl)⟩ (fun h => by cases h) (fun v1 ly1 N2 ⟨q1, q2, hq2, hm2, hl2⟩ => ?_)
                    rw [q1, q2]
                    have hRN2 : RW ly N2.2.2 := by rw [hq2.1]; exact hR
                    have e66_1 := (lsQ_some (fun a => hgS_le (fun s => gr_pas) N) hn2 hS.n.2 (by decide) hl2).1
                    refine Rn.aload_n dX12_fewest_69 rfl ?_
                    refine Rn.getI dX12_fewest_70 fX12_487 rfl (rc149 hRN2) ?_
                    refine Rn.topI (y := (lhF (fun a => hgS (TR n nw p h0 0 (cakk 1 a) W (fun m => valL m (lw 0).1 (lw 0).2) (fun m => valL m (lw 1).1 (lw 1).2)) s n N) (lsS n 1 1728 (0, 0, 0)) (100001, none)).1) (e66_1) ?_
                    refine Rn.iload_n dX12_fewest_73 rfl ?_
                    refine Rn.icmp_gt dX12_fewest_74 (fun l1 => ?_) (fun l1 => ?_)
                    · skip
                      rw [if_neg (fun h => absurd l1 (Int32.not_lt.mpr ((hiff 1).mpr h)))] at hA
                      refine Rn.iincv (j' := 1) (lv' := [some (.ref 149), some (.int (nI N)), some (.int y), some (.int bd), some (.int (1 + 1))]) dX12_fewest_80 rfl rfl (by decide) rfl ?_
                      refine Rn.goto dX12_fewest_83 ?_
                      show Rn G l mX12_fewest (10, 0, 0, false) 41 [some (.ref 149), some (.int (nI N)), some (.int y), some (.int bd), some (.int 2)] [] ly N2 Q
                      have hf2 : N2.1 180 0 = nI nf := (hS.q hq2).2.2.1.1
                      refine Rn.iload dX12_fewest_41 rfl ?_
                      refine Rn.iconstv (v := 3) dX12_fewest_43 ic_3 ?_
                      refine Rn.icmp_gt dX12_fewest_44 (fun hh2 => ?_) (fun hh2 => ?_)
                      · skip
                        exact absurd hh2 (by decide)
                      · skip
                        refine Rn.aload_n dX12_fewest_47 rfl ?_
                        refine Rn.getR dX12_fewest_48 fX12_107 rfl (rc149 hRN2) (show N2.2.2 149 46 = some 180 from (rpt46 hRN2)) ?_
                        refine Rn.iconstv (v := 0) dX12_fewest_51 ic_0 ?_
                        refine Rn.iald dX12_fewest_52 (rc180 hRN2) (by unfold vp_in; decide) ?_
                        refine Rn.topI (y := N2.1 180 0) (rfl) ?_
                        refine Rn.topI (y := nI nf) (hf2) ?_
                        refine Rn.iload dX12_fewest_53 rfl ?_
                        refine Rn.iadd dX12_fewest_55 ?_
                        refine Rn.topI (y := nI (nf + 2)) (nI_add nf 2) ?_
                        refine Rn.bipushv (v := 8) dX12_fewest_56 bp_8 ?_
                        refine Rn.icmp_gt dX12_fewest_58 (fun m2 => ?_) (fun m2 => ?_)
                        · skip
                          have h8 : 8 < nf + 2 := (nI_ltI (a := 8) (by decide) (by omega)).mp m2
                          rw [show fewF nf (fun k => (lhF (fun a => hgS (TR n nw p h0 0 (cakk k a) W (fun m => valL m (lw 0).1 (lw 0).2) (fun m => valL m (lw 1).1 (lw 1).2)) s n N) (lsS n k 1728 (0, 0, 0)) (bd + 1, none)).1) bd 2 2 = -2 from if_pos h8] at hA
                          refine Rn.bipushv (v := -2) dX12_fewest_86 bp_m2 ?_
                          exact Rn.iret (ty := .int) dX12_fewest_88 rfl rfl (hA N2 hq2)
                        · skip
                          have h8 : nf + 2 ≤ 8 := (nI_leI (b := 8) (by omega) (by decide)).mp (Int32.not_lt.mp m2)
                          rw [show fewF nf (fun k => (lhF (fun a => hgS (TR n nw p h0 0 (cakk k a) W (fun m => valL m (lw 0).1 (lw 0).2) (fun m => valL m (lw 1).1 (lw 1).2)) s n N) (lsS n k 1728 (0, 0, 0)) (bd + 1, none)).1) bd 2 2 = if (lhF (fun a => hgS (TR n nw p h0 0 (cakk 2 a) W (fun m => valL m (lw 0).1 (lw 0).2) (fun m => valL m (lw 1).1 (lw 1).2)) s n N) (lsS n 2 1728 (0, 0, 0)) (bd + 1, none)).1 ≤ bd then nI 2 else fewF nf (fun k => (lhF (fun a => hgS (TR n nw p h0 0 (cakk k a) W (fun m => valL m (lw 0).1 (lw 0).2) (fun m => valL m (lw 1).1 (lw 1).2)) s n N) (lsS n k 1728 (0, 0, 0)) (bd + 1, none)).1) bd 1 3 from if_neg (by omega)] at hA
                          refine Rn.aload_n dX12_fewest_61 rfl ?_
                          refine Rn.iload_n dX12_fewest_62 rfl ?_
                          refine Rn.iload dX12_fewest_63 rfl ?_
                          refine Rn.iload_n dX12_fewest_65 rfl ?_
                          refine Rn.callV3 dX12_fewest_66 vX12_490 (rc149 hRN2) (by decide) rfl (tX12_layLies2 (M := M) (N0 := N2) (N := N) (y := y) (cak := cakk 2) (Q := fun v0 ly0 K => v0 = none ∧ ly0 = ly ∧ qR M K ∧ md K (-1) 0 ∧ lsQ K 2 (lhF (fun a => hgS (TR n nw p h0 0 (cakk 2 a) W (fun m => valL m (lw 0).1 (lw 0).2) (fun m => valL m (lw 1).1 (lw 1).2)) s n N) ((List.range (alC n 2)).filterMap (dcd n 2)) (100001, none))) (by omega) h8 (by omega) hS (hcak 2 (by decide) h8) hq2 hm2 hR (fun K a c d => ⟨rfl, rfl, a, c, d⟩)) (by decide) ⟨(Nat.le_of_ble_eq_true rfl), (Nat.le_of_ble_eq_true rfl), (Nat.le_of_ble_eq_true rfl)⟩ (fun h => by cases h) (fun v1 ly1 N3 ⟨q1, q2, hq3, hm3, hl3⟩ => ?_)
                          rw [q1, q2]
                          have hRN3 : RW ly N3.2.2 := by rw [hq3.1]; exact hR
                          have e66_2 := (lsQ_some (fun a => hgS_le (fun s => gr_pas) N) hn2 hS.n.2 (by decide) hl3).1
                          refine Rn.aload_n dX12_fewest_69 rfl ?_
                          refine Rn.getI dX12_fewest_70 fX12_487 rfl (rc149 hRN3) ?_
                          refine Rn.topI (y := (lhF (fun a => hgS (TR n nw p h0 0 (cakk 2 a) W (fun m => valL m (lw 0).1 (lw 0).2) (fun m => valL m (lw 1).1 (lw 1).2)) s n N) (lsS n 2 1728 (0, 0, 0)) (100001, none)).1) (e66_2) ?_
                          refine Rn.iload_n dX12_fewest_73 rfl ?_
                          refine Rn.icmp_gt dX12_fewest_74 (fun l2 => ?_) (fun l2 => ?_)
                          · skip
                            rw [if_neg (fun h => absurd l2 (Int32.not_lt.mpr ((hiff 2).mpr h)))] at hA
                            refine Rn.iincv (j' := 1) (lv' := [some (.ref 149), some (.int (nI N)), some (.int y), some (.int bd), some (.int (2 + 1))]) dX12_fewest_80 rfl rfl (by decide) rfl ?_
                            refine Rn.goto dX12_fewest_83 ?_
                            show Rn G l mX12_fewest (10, 0, 0, false) 41 [some (.ref 149), some (.int (nI N)), some (.int y), some (.int bd), some (.int 3)] [] ly N3 Q
                            have hf3 : N3.1 180 0 = nI nf := (hS.q hq3).2.2.1.1
                            refine Rn.iload dX12_fewest_41 rfl ?_
                            refine Rn.iconstv (v := 3) dX12_fewest_43 ic_3 ?_
                            refine Rn.icmp_gt dX12_fewest_44 (fun hh3 => ?_) (fun hh3 => ?_)
                            · skip
                              exact absurd hh3 (by decide)
                            · skip
                              refine Rn.aload_n dX12_fewest_47 rfl ?_
                              refine Rn.getR dX12_fewest_48 fX12_107 rfl (rc149 hRN3) (show N3.2.2 149 46 = some 180 from (rpt46 hRN3)) ?_
                              refine Rn.iconstv (v := 0) dX12_fewest_51 ic_0 ?_
                              refine Rn.iald dX12_fewest_52 (rc180 hRN3) (by unfold vp_in; decide) ?_
                              refine Rn.topI (y := N3.1 180 0) (rfl) ?_
                              refine Rn.topI (y := nI nf) (hf3) ?_
                              refine Rn.iload dX12_fewest_53 rfl ?_
                              refine Rn.iadd dX12_fewest_55 ?_
                              refine Rn.topI (y := nI (nf + 3)) (nI_add nf 3) ?_
                              refine Rn.bipushv (v := 8) dX12_fewest_56 bp_8 ?_
                              refine Rn.icmp_gt dX12_fewest_58 (fun m3 => ?_) (fun m3 => ?_)
                              · skip
                                have h8 : 8 < nf + 3 := (nI_ltI (a := 8) (by decide) (by omega)).mp m3
                                rw [show fewF nf (fun k => (lhF (fun a => hgS (TR n nw p h0 0 (cakk k a) W (fun m => valL m (lw 0).1 (lw 0).2) (fun m => valL m (lw 1).1 (lw 1).2)) s n N) (lsS n k 1728 (0, 0, 0)) (bd + 1, none)).1) bd 1 3 = -2 from if_pos h8] at hA
                                refine Rn.bipushv (v := -2) dX12_fewest_86 bp_m2 ?_
                                exact Rn.iret (ty := .int) dX12_fewest_88 rfl rfl (hA N3 hq3)
                              · skip
                                have h8 : nf + 3 ≤ 8 := (nI_leI (b := 8) (by omega) (by decide)).mp (Int32.not_lt.mp m3)
                                rw [show fewF nf (fun k => (lhF (fun a => hgS (TR n nw p h0 0 (cakk k a) W (fun m => valL m (lw 0).1 (lw 0).2) (fun m => valL m (lw 1).1 (lw 1).2)) s n N) (lsS n k 1728 (0, 0, 0)) (bd + 1, none)).1) bd 1 3 = if (lhF (fun a => hgS (TR n nw p h0 0 (cakk 3 a) W (fun m => valL m (lw 0).1 (lw 0).2) (fun m => valL m (lw 1).1 (lw 1).2)) s n N) (lsS n 3 1728 (0, 0, 0)) (bd + 1, none)).1 ≤ bd then nI 3 else fewF nf (fun k => (lhF (fun a => hgS (TR n nw p h0 0 (cakk k a) W (fun m => valL m (lw 0).1 (lw 0).2) (fun m => valL m (lw 1).1 (lw 1).2)) s n N) (lsS n k 1728 (0, 0, 0)) (bd + 1, none)).1) bd 0 4 from if_neg (by omega)] at hA
                                refine Rn.aload_n dX12_fewest_61 rfl ?_
                                refine Rn.iload_n dX12_fewest_62 rfl ?_
                                refine Rn.iload dX12_fewest_63 rfl ?_
                                refine Rn.iload_n dX12_fewest_65 rfl ?_
                                refine Rn.callV3 dX12_fewest_66 vX12_490 (rc149 hRN3) (by decide) rfl (tX12_layLies3 (M := M) (N0 := N3) (N := N) (y := y) (cak := cakk 3) (Q := fun v0 ly0 K => v0 = none ∧ ly0 = ly ∧ qR M K ∧ md K (-1) 0 ∧ lsQ K 3 (lhF (fun a => hgS (TR n nw p h0 0 (cakk 3 a) W (fun m => valL m (lw 0).1 (lw 0).2) (fun m => valL m (lw 1).1 (lw 1).2)) s n N) ((List.range (alC n 3)).filterMap (dcd n 3)) (100001, none))) (by omega) h8 (by omega) hS (hcak 3 (by decide) h8) hq3 hm3 hR (fun K a c d => ⟨rfl, rfl, a, c, d⟩)) (by decide) ⟨(Nat.le_of_ble_eq_true rfl), (Nat.le_of_ble_eq_true rfl), (Nat.le_of_ble_eq_true rfl)⟩ (fun h => by cases h) (fun v1 ly1 N4 ⟨q1, q2, hq4, hm4, hl4⟩ => ?_)
                                rw [q1, q2]
                                have hRN4 : RW ly N4.2.2 := by rw [hq4.1]; exact hR
                                have e66_3 := (lsQ_some (fun a => hgS_le (fun s => gr_pas) N) hn2 hS.n.2 (by decide) hl4).1
                                refine Rn.aload_n dX12_fewest_69 rfl ?_
                                refine Rn.getI dX12_fewest_70 fX12_487 rfl (rc149 hRN4) ?_
                                refine Rn.topI (y := (lhF (fun a => hgS (TR n nw p h0 0 (cakk 3 a) W (fun m => valL m (lw 0).1 (lw 0).2) (fun m => valL m (lw 1).1 (lw 1).2)) s n N) (lsS n 3 1728 (0, 0, 0)) (100001, none)).1) (e66_3) ?_
                                refine Rn.iload_n dX12_fewest_73 rfl ?_
                                refine Rn.icmp_gt dX12_fewest_74 (fun l3 => ?_) (fun l3 => ?_)
                                · skip
                                  rw [if_neg (fun h => absurd l3 (Int32.not_lt.mpr ((hiff 3).mpr h)))] at hA
                                  refine Rn.iincv (j' := 1) (lv' := [some (.ref 149), some (.int (nI N)), some (.int y), some (.int bd), some (.int (3 + 1))]) dX12_fewest_80 rfl rfl (by decide) rfl ?_
                                  refine Rn.goto dX12_fewest_83 ?_
                                  show Rn G l mX12_fewest (10, 0, 0, false) 41 [some (.ref 149), some (.int (nI N)), some (.int y), some (.int bd), some (.int 4)] [] ly N4 Q
                                  refine Rn.iload dX12_fewest_41 rfl ?_
                                  refine Rn.iconstv (v := 3) dX12_fewest_43 ic_3 ?_
                                  refine Rn.icmp_gt dX12_fewest_44 (fun hh4 => ?_) (fun hh4 => ?_)
                                  · skip
                                    refine Rn.bipushv (v := -2) dX12_fewest_86 bp_m2 ?_
                                    exact Rn.iret (ty := .int) dX12_fewest_88 rfl rfl (hA N4 hq4)
                                  · skip
                                    first | exact absurd hh4 (by decide) | exact absurd (by decide) hh4
                                · skip
                                  rw [if_pos ((hiff 3).mp (Int32.not_lt.mp l3))] at hA
                                  refine Rn.iload dX12_fewest_77 rfl ?_
                                  exact Rn.iret (ty := .int) dX12_fewest_79 rfl rfl (hA N4 hq4)
                          · skip
                            rw [if_pos ((hiff 2).mp (Int32.not_lt.mp l2))] at hA
                            refine Rn.iload dX12_fewest_77 rfl ?_
                            exact Rn.iret (ty := .int) dX12_fewest_79 rfl rfl (hA N3 hq3)
                    · skip
                      rw [if_pos ((hiff 1).mp (Int32.not_lt.mp l1))] at hA
                      refine Rn.iload dX12_fewest_77 rfl ?_
                      exact Rn.iret (ty := .int) dX12_fewest_79 rfl rfl (hA N2 hq2)
              · skip
                rw [if_pos ((hiff 0).mp (Int32.not_lt.mp l0))] at hA
                refine Rn.iload dX12_fewest_77 rfl ?_
                exact Rn.iret (ty := .int) dX12_fewest_79 rfl rfl (hA N1 hq1)
        · skip
          refine Rn.iconstv (v := -1) dX12_fewest_32 ic_m1 ?_
          exact Rn.iret (ty := .int) dX12_fewest_33 rfl rfl (hQ.1 (fun h => d2 h.2.2.2) _ qR.rf.f0)
