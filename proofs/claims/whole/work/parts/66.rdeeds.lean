/-- the state is kept before a deed -/
def dpF (M N : Mm) (nd : Nat) : Prop := N.2.2 = M.2.2 ∧ (∀ a, a ≠ 149 → (a < 169 ∨ 182 < a) → N.1 a = M.1 a) ∧ (∀ j, j ≠ 0 → j ≠ 51 → N.1 149 j = M.1 149 j) ∧ N.1 149 51 = nI (dN nd) ∧ (∀ b, b < 24 → gdB N.1 b) ∧ (∀ b, b < 4 → cpB N.1 b M.1 b) ∧ (∀ k, k + 1 < dN nd → cpB N.1 (4 + k) M.1 (4 + k + dsh nd)) ∧ (∀ k, k + 1 = dN nd → cpB N.1 (4 + k) M.1 0)
theorem cpB.f' {M : Mm} {I : Nat → Nat → Int32} {f : Nat → Int32} {b c : Nat} (h : cpB I b (sI M 149 f).1 c) : cpB I b M.1 c := h.tr (cpB.eq (fun a ha => sI_ne (by omega)))
theorem keep0 {G : Gx} {l : Launch} {ly : Ly} {M : Mm} {nd : Nat} (hD : M.1 149 51 = nI nd ∧ nd ≤ 20) (hgd : ∀ b, b < 24 → gdB M.1 b) (hR : RW ly M.2.2) {Q : Qt} (hQ : ∀ N : Mm, dpF M N nd → Q none ly N) : Mt G l mX12_keepNow (3, 0, 0, false) [.ref 149] ly (sI M 149 (upd (M.1 149) 0 0)) Q := by
  refine tX12_keepNow (M := sI M 149 (upd (M.1 149) 0 0)) (nd := nd) hD (fun b hb => hgd b hb) hR (fun K h1 h2 h3 h4 h5 h6 => hQ K ⟨h1.1, fun a a1 a2 => (h1.2.1 a a1 a2).trans (sI_ne a1), fun j a1 a2 => (h1.2.2 j a2).trans (pk_un a1), h2, h3, fun b hb => (h4 b hb).f', fun k hk => (h5 k hk).f', fun k hk => (h6 k hk).f'⟩)
theorem dpF.rs {M N : Mm} {nd n nw t nf : Nat} {p : P4} {h0 c0 : Int32} {W : Wx} {lw : Nat → (Nat → Int32) × Nat} {s : Sc} {fc fk : Nat → Int32} (h : dpF M N nd) (g : RS M n nw t nf p h0 c0 W lw s fc fk) : RS N n nw t nf p h0 c0 W lw s fc fk := ⟨g.1.mv (fun a ha => h.2.1 a (by omega) (by omega)), (h.2.2.2.2.2.1 0 (by omega)).al g.w6 g.2.1, (h.2.2.2.2.2.1 0 (by omega)).ft g.2.2.1, by rw [(h.2.2.2.2.2.1 0 (by omega)).1 171 (by omega)]; exact g.2.2.2.1, g.2.2.2.2⟩
theorem tX12_fat {G : Gx} {l : Launch} {ly : Ly} {M : Mm} {x y : Int32} {n nw t nf : Nat} {p : P4} {h0 c0 : Int32} {W : Wx} {lw : Nat → (Nat → Int32) × Nat} {s : Sc} {fc fk ca : Nat → Int32} (hS : RS M n nw t nf p h0 c0 W lw s fc fk) (hca : cas n nf c0 fc fk ca) (hnf8 : nf ≤ 8) {nd : Nat} (hD : M.1 149 51 = nI nd ∧ nd ≤ 20) (hgd : ∀ b, b < 24 → gdB M.1 b) (hR : RW ly M.2.2) {Q : Qt} (hQ : (¬ ((∃ j : Nat, j < n ∧ x = nI j) ∧ (1 ≤ y ∧ y ≤ 99) ∧ nf < 8) → ∀ K, qR M K → Q (some (.int (-1))) ly K) ∧ (∀ c : Nat, c < n → x = nI c → (1 ≤ y ∧ y ≤ 99) → nf < 8 → ∀ N, dpF M N nd → Q (some (.int (nI (nf + 1)))) ly (sI (sI (sI N 181 (upd (N.1 181) (12 * 0 + nf) (nI c))) 182 (upd (N.1 182) (12 * 0 + nf) y)) 180 (upd (N.1 180) 0 (nI (nf + 1)))))) : Mt G l mX12_fat (4, 0, 0, false) [.ref 149, .int x, .int y] ly M Q := by
  refine Mt.of (lv := [some (.ref 149), some (.int x), some (.int y)]) rfl ?_
  refine Rn.aload_n dX12_fat_0 rfl ?_
  refine Rn.iconstv (v := 0) dX12_fat_1 ic_0 ?_
  refine Rn.putI dX12_fat_2 fX12_169 rfl rfl rfl (rc149 hR) ?_
  refine Rn.aload_n dX12_fat_5 rfl ?_
  refine Rn.iload_n dX12_fat_6 rfl ?_
  refine Rn.callV1 dX12_fat_7 vX12_403 (rc149 hR) (by decide) rfl (tX12_isCell (M := sI M 149 (upd (M.1 149) 0 0)) hR) (by decide) ⟨(Nat.le_of_ble_eq_true rfl), (Nat.le_of_ble_eq_true rfl), (Nat.le_of_ble_eq_true rfl)⟩ (fun h => by cases h) (fun v1 ly1 M1 ⟨q1, q2, q3⟩ => ?_)
  rw [q1, q2, q3]
  refine Rn.topI (y := inN x (nI n)) (congrArg (inN x) hS.n.1) ?_
  refine Rn.if_eq dX12_fat_10 (fun g1 => ?_) (fun g1 => ?_)
  · skip
    refine Rn.iconstv (v := -1) dX12_fat_31 ic_m1 ?_
    exact Rn.iret (ty := .int) dX12_fat_32 rfl rfl (hQ.1 (fun h => (inN_1 (x := x) (k := n) (lt31c hS.n.2)).elim (fun k => k.2 h.1) (fun k => absurd (k.1.symm.trans g1) (by decide))) _ qR.rf.f0)
  · skip
    obtain ⟨c, hc, rfl⟩ : ∃ j : Nat, j < n ∧ x = nI j := (inN_1 (x := x) (k := n) (lt31c hS.n.2)).elim (fun k => absurd k.1 g1) (fun k => k.2)
    refine Rn.iload_n dX12_fat_13 rfl ?_
    refine Rn.callS1 dX12_fat_14 vX12_464 (tX12_isCalm) (by decide) ⟨(Nat.le_of_ble_eq_true rfl), (Nat.le_of_ble_eq_true rfl), (Nat.le_of_ble_eq_true rfl)⟩ (fun h => by cases h) (fun v1 ly1 M1 ⟨q1, q2, q3⟩ => ?_)
    rw [q1, q2, q3]
    refine Rn.if_eq dX12_fat_17 (fun g2 => ?_) (fun g2 => ?_)
    · skip
      refine Rn.iconstv (v := -1) dX12_fat_31 ic_m1 ?_
      exact Rn.iret (ty := .int) dX12_fat_32 rfl rfl (hQ.1 (fun h => inR_1.elim (fun k => k.2 h.2.1) (fun k => absurd (k.1.symm.trans g2) (by decide))) _ qR.rf.f0)
    · skip
      have g2h : 1 ≤ y ∧ y ≤ 99 := (inR_1 (x := y) (lo := 1) (hi := 99)).elim (fun k => absurd k.1 g2) (fun k => k.2)
      refine Rn.aload_n dX12_fat_20 rfl ?_
      refine Rn.getR dX12_fat_21 fX12_107 rfl (rc149 hR) (show M.2.2 149 46 = some 180 from (rpt46 hR)) ?_
      refine Rn.iconstv (v := 0) dX12_fat_24 ic_0 ?_
      refine Rn.iald dX12_fat_25 (rc180 hR) (by unfold vp_in; decide) ?_
      refine Rn.topI (y := M.1 180 0) (rfl) ?_
      refine Rn.topI (y := nI nf) (hS.2.2.1.1) ?_
      refine Rn.bipushv (v := 8) dX12_fat_26 bp_8 ?_
      refine Rn.icmp_ne dX12_fat_28 (fun g8 => ?_) (fun g8 => ?_)
      · skip
        have hn8 : nf < 8 := Nat.lt_of_le_of_ne hnf8 (fun h => g8 (by rw [h]; rfl))
        have hA := hQ.2 c hc rfl g2h hn8
        refine Rn.aload_n dX12_fat_33 rfl ?_
        refine Rn.callV0 dX12_fat_34 vX12_467 (rc149 hR) (by decide) rfl (keep0 (M := M) (nd := nd) (Q := fun v0 ly0 K => v0 = none ∧ ly0 = ly ∧ dpF M K nd) hD hgd hR (fun K h => ⟨rfl, rfl, h⟩)) (by decide) ⟨(Nat.le_of_ble_eq_true rfl), (Nat.le_of_ble_eq_true rfl), (Nat.le_of_ble_eq_true rfl)⟩ (fun h => by cases h) (fun v1 ly1 N1 ⟨q1, q2, hd1⟩ => ?_)
        rw [q1, q2]
        have hRN1 : RW ly N1.2.2 := by rw [hd1.1]; exact hR
        have hS1 := hd1.rs hS
        refine Rn.aload_n dX12_fat_37 rfl ?_
        refine Rn.iconstv (v := 0) dX12_fat_38 ic_0 ?_
        refine Rn.iload_n dX12_fat_39 rfl ?_
        refine Rn.iload_n dX12_fat_40 rfl ?_
        refine Rn.callV3 dX12_fat_41 vX12_470 (rc149 hRN1) (by decide) rfl (tX12_grows (M := N1) (b := 0) (nf := nf) (by decide) hS1.2.2.1.1 (by omega) hRN1) (by decide) ⟨(Nat.le_of_ble_eq_true rfl), (Nat.le_of_ble_eq_true rfl), (Nat.le_of_ble_eq_true rfl)⟩ (fun h => by cases h) (fun v1 ly1 M1 ⟨q1, q2, q3⟩ => ?_)
        rw [q1, q2, q3]
        show Rn G l mX12_fat (4, 0, 0, false) 44 [some (.ref 149), some (.int (nI c)), some (.int y)] [] ly (sI (sI (sI N1 181 (upd (N1.1 181) (12 * 0 + nf) (nI c))) 182 (upd (N1.1 182) (12 * 0 + nf) y)) 180 (upd (N1.1 180) 0 (nI (nf + 1)))) Q
        refine Rn.aload_n dX12_fat_44 rfl ?_
        refine Rn.getR dX12_fat_45 fX12_107 rfl (rc149 hRN1) (show N1.2.2 149 46 = some 180 from (rpt46 hRN1)) ?_
        refine Rn.iconstv (v := 0) dX12_fat_48 ic_0 ?_
        refine Rn.iald dX12_fat_49 (rc180 hRN1) (by unfold vp_in; decide) ?_
        refine Rn.topI (y := nI (nf + 1)) (rfl) ?_
        exact Rn.iret (ty := .int) dX12_fat_50 rfl rfl (hA N1 hd1)
      · skip
        refine Rn.iconstv (v := -1) dX12_fat_31 ic_m1 ?_
        exact Rn.iret (ty := .int) dX12_fat_32 rfl rfl (hQ.1 (fun h => absurd ((nI_eq (a := nf) (b := 8) (by omega) (by decide)).mp g8) (by have := h.2.2; omega)) _ qR.rf.f0)
theorem tX12_off {G : Gx} {l : Launch} {ly : Ly} {M : Mm} {x : Int32} {n nw t nf : Nat} {p : P4} {h0 c0 : Int32} {W : Wx} {lw : Nat → (Nat → Int32) × Nat} {s : Sc} {fc fk ca : Nat → Int32} (hS : RS M n nw t nf p h0 c0 W lw s fc fk) (hca : cas n nf c0 fc fk ca) {nd : Nat} (hD : M.1 149 51 = nI nd ∧ nd ≤ 20) (hgd : ∀ b, b < 24 → gdB M.1 b) (hR : RW ly M.2.2) {Q : Qt} (hQ : (¬ (∃ j : Nat, j < nw ∧ x = nI j ∧ ¬ s.2.2.2.2.1.2.2.1 j = 2) → ∀ K, qR M K → Q (some (.int 0)) ly K) ∧ (∀ w : Nat, w < nw → x = nI w → ¬ s.2.2.2.2.1.2.2.1 w = 2 → ∀ N, dpF M N nd → Q (some (.int 1)) ly (sI (sI N 179 (upd (N.1 179) (6 * 0 + w) 2)) 177 (upd (N.1 177) (6 * 0 + w) (-1))))) : Mt G l mX12_off (4, 0, 0, false) [.ref 149, .int x] ly M Q := by
  refine Mt.of (lv := [some (.ref 149), some (.int x)]) rfl ?_
  refine Rn.aload_n dX12_off_0 rfl ?_
  refine Rn.iconstv (v := 0) dX12_off_1 ic_0 ?_
  refine Rn.putI dX12_off_2 fX12_169 rfl rfl rfl (rc149 hR) ?_
  refine Rn.aload_n dX12_off_5 rfl ?_
  refine Rn.iload_n dX12_off_6 rfl ?_
  refine Rn.callV1 dX12_off_7 vX12_443 (rc149 hR) (by decide) rfl (tX12_isWalker (M := sI M 149 (upd (M.1 149) 0 0)) hR) (by decide) ⟨(Nat.le_of_ble_eq_true rfl), (Nat.le_of_ble_eq_true rfl), (Nat.le_of_ble_eq_true rfl)⟩ (fun h => by cases h) (fun v1 ly1 M1 ⟨q1, q2, q3⟩ => ?_)
  rw [q1, q2, q3]
  refine Rn.topI (y := inN x (nI nw)) (congrArg (inN x) hS.nw) ?_
  refine Rn.if_eq dX12_off_10 (fun g1 => ?_) (fun g1 => ?_)
  · skip
    refine Rn.iconstv (v := 0) dX12_off_23 ic_0 ?_
    exact Rn.iret (ty := .boolean) dX12_off_24 rfl rfl (hQ.1 (fun ⟨j, h1, h2, _⟩ => (inN_1 (x := x) (k := nw) (lt31 hS.w6)).elim (fun k => k.2 ⟨j, h1, h2⟩) (fun k => absurd (k.1.symm.trans g1) (by decide))) _ qR.rf.f0)
  · skip
    obtain ⟨w, hw, rfl⟩ : ∃ j : Nat, j < nw ∧ x = nI j := (inN_1 (x := x) (k := nw) (lt31 hS.w6)).elim (fun k => absurd k.1 g1) (fun k => k.2)
    have hw6 := hS.w6
    have hst : M.1 179 w = s.2.2.2.2.1.2.2.1 w := by have := (hS.2.1.2.2.2.2.1 w hw).2.1; rwa [Nat.mul_zero, Nat.zero_add] at this
    refine Rn.aload_n dX12_off_13 rfl ?_
    refine Rn.getR dX12_off_14 fX12_104 rfl (rc149 hR) (show M.2.2 149 45 = some 179 from (rpt45 hR)) ?_
    refine Rn.iload_n dX12_off_17 rfl ?_
    refine Rn.ialdN (k0 := w) dX12_off_18 (rc179 hR) (by omega) (by decide) ?_
    refine Rn.topI (y := s.2.2.2.2.1.2.2.1 w) (hst) ?_
    refine Rn.iconstv (v := 2) dX12_off_19 ic_2 ?_
    refine Rn.icmp_ne dX12_off_20 (fun g2 => ?_) (fun g2 => ?_)
    · skip
      have hA := hQ.2 w hw rfl g2
      refine Rn.aload_n dX12_off_25 rfl ?_
      refine Rn.callV0 dX12_off_26 vX12_467 (rc149 hR) (by decide) rfl (keep0 (M := M) (nd := nd) (Q := fun v0 ly0 K => v0 = none ∧ ly0 = ly ∧ dpF M K nd) hD hgd hR (fun K h => ⟨rfl, rfl, h⟩)) (by decide) ⟨(Nat.le_of_ble_eq_true rfl), (Nat.le_of_ble_eq_true rfl), (Nat.le_of_ble_eq_true rfl)⟩ (fun h => by cases h) (fun v1 ly1 N1 ⟨q1, q2, hd1⟩ => ?_)
      rw [q1, q2]
      have hRN1 : RW ly N1.2.2 := by rw [hd1.1]; exact hR
      have hS1 := hd1.rs hS
      refine Rn.aload_n dX12_off_29 rfl ?_
      refine Rn.iconstv (v := 0) dX12_off_30 ic_0 ?_
      refine Rn.iload_n dX12_off_31 rfl ?_
      refine Rn.callV2 dX12_off_32 vX12_474 (rc149 hRN1) (by decide) rfl (tX12_leaves (M := N1) (b := 0) (w := w) (by decide) (by omega) hRN1) (by decide) ⟨(Nat.le_of_ble_eq_true rfl), (Nat.le_of_ble_eq_true rfl), (Nat.le_of_ble_eq_true rfl)⟩ (fun h => by cases h) (fun v1 ly1 M1 ⟨q1, q2, q3⟩ => ?_)
      rw [q1, q2, q3]
      show Rn G l mX12_off (4, 0, 0, false) 35 [some (.ref 149), some (.int (nI w))] [] ly (sI (sI N1 179 (upd (N1.1 179) (6 * 0 + w) 2)) 177 (upd (N1.1 177) (6 * 0 + w) (-1))) Q
      refine Rn.iconstv (v := 1) dX12_off_35 ic_1 ?_
      exact Rn.iret (ty := .boolean) dX12_off_36 rfl rfl (hA N1 hd1)
    · skip
      refine Rn.iconstv (v := 0) dX12_off_23 ic_0 ?_
      exact Rn.iret (ty := .boolean) dX12_off_24 rfl rfl (hQ.1 (fun ⟨j, h1, h2, h3⟩ => h3 (by rw [← (nI_eq (a := w) (b := j) (by omega) (by omega)).mp h2]; exact g2)) _ qR.rf.f0)
theorem tX12_blow {G : Gx} {l : Launch} {ly : Ly} {M : Mm} {x : Int32} (hx01 : x = 0 ∨ x = 1) {n nw t nf : Nat} {p : P4} {h0 c0 : Int32} {W : Wx} {lw : Nat → (Nat → Int32) × Nat} {s : Sc} {fc fk ca : Nat → Int32} (hS : RS M n nw t nf p h0 c0 W lw s fc fk) (hca : cas n nf c0 fc fk ca) {nd : Nat} (hD : M.1 149 51 = nI nd ∧ nd ≤ 20) (hgd : ∀ b, b < 24 → gdB M.1 b) (hR : RW ly M.2.2) {Q : Qt} (hQ : (M.1 171 0 = x → ∀ K, qR M K → Q (some (.int 0)) ly K) ∧ (¬ M.1 171 0 = x → ∀ N, dpF M N nd → Q (some (.int 1)) ly (sI N 171 (upd (N.1 171) 0 x)))) : Mt G l mX12_blow (4, 0, 0, false) [.ref 149, .int x] ly M Q := by
  refine Mt.of (lv := [some (.ref 149), some (.int x)]) rfl ?_
  refine Rn.aload_n dX12_blow_0 rfl ?_
  refine Rn.iconstv (v := 0) dX12_blow_1 ic_0 ?_
  refine Rn.putI dX12_blow_2 fX12_169 rfl rfl rfl (rc149 hR) ?_
  refine Rn.aload_n dX12_blow_5 rfl ?_
  refine Rn.getR dX12_blow_6 fX12_79 rfl (rc149 hR) (show M.2.2 149 37 = some 171 from (rpt37 hR)) ?_
  refine Rn.iconstv (v := 0) dX12_blow_9 ic_0 ?_
  refine Rn.zald dX12_blow_10 (rc171 hR) (by unfold vp_in; decide) ?_
  refine Rn.topI (y := M.1 171 0) (rfl) ?_
  refine Rn.iload_n dX12_blow_11 rfl ?_
  refine Rn.icmp_ne dX12_blow_12 (fun g1 => ?_) (fun g1 => ?_)
  · skip
    have hA := hQ.2 g1
    refine Rn.aload_n dX12_blow_17 rfl ?_
    refine Rn.callV0 dX12_blow_18 vX12_467 (rc149 hR) (by decide) rfl (keep0 (M := M) (nd := nd) (Q := fun v0 ly0 K => v0 = none ∧ ly0 = ly ∧ dpF M K nd) hD hgd hR (fun K h => ⟨rfl, rfl, h⟩)) (by decide) ⟨(Nat.le_of_ble_eq_true rfl), (Nat.le_of_ble_eq_true rfl), (Nat.le_of_ble_eq_true rfl)⟩ (fun h => by cases h) (fun v1 ly1 N1 ⟨q1, q2, hd1⟩ => ?_)
    rw [q1, q2]
    have hRN1 : RW ly N1.2.2 := by rw [hd1.1]; exact hR
    have hS1 := hd1.rs hS
    refine Rn.aload_n dX12_blow_21 rfl ?_
    refine Rn.getR dX12_blow_22 fX12_79 rfl (rc149 hRN1) (show N1.2.2 149 37 = some 171 from (rpt37 hRN1)) ?_
    refine Rn.iconstv (v := 0) dX12_blow_25 ic_0 ?_
    refine Rn.iload_n dX12_blow_26 rfl ?_
    refine Rn.zast dX12_blow_27 (rc171 hRN1) (by unfold vp_in; decide) ?_
    refine Rn.iconstv (v := 1) dX12_blow_28 ic_1 ?_
    rw [show vp_nar .boolean x = x by rcases hx01 with rfl | rfl <;> rfl]
    exact Rn.iret (ty := .boolean) dX12_blow_29 rfl rfl (hA N1 hd1)
  · skip
    refine Rn.iconstv (v := 0) dX12_blow_15 ic_0 ?_
    exact Rn.iret (ty := .boolean) dX12_blow_16 rfl rfl (hQ.1 g1 _ qR.rf.f0)
theorem tX12_strike {G : Gx} {l : Launch} {ly : Ly} {M : Mm} {x y : Int32} {n nw t nf : Nat} {p : P4} {h0 c0 : Int32} {W : Wx} {lw : Nat → (Nat → Int32) × Nat} {s : Sc} {fc fk ca : Nat → Int32} (hS : RS M n nw t nf p h0 c0 W lw s fc fk) (hca : cas n nf c0 fc fk ca) {nd : Nat} (hD : M.1 149 51 = nI nd ∧ nd ≤ 20) (hgd : ∀ b, b < 24 → gdB M.1 b) (hR : RW ly M.2.2) {Q : Qt} (hQ : (¬ ((∃ j : Nat, j < n ∧ x = nI j) ∧ (-999 ≤ y ∧ y ≤ 999)) → ∀ K, qR M K → Q (some (.int (-2147483648))) ly K) ∧ (∀ c : Nat, c < n → x = nI c → (-999 ≤ y ∧ y ≤ 999) → (wi (s.2.1 c + y) = s.2.1 c → ∀ K, qR M K → Q (some (.int (wi (s.2.1 c + y)))) ly K) ∧ (¬ wi (s.2.1 c + y) = s.2.1 c → ∀ N, dpF M N nd → Q (some (.int (wi (s.2.1 c + y)))) ly (sI N 174 (upd (N.1 174) c (wi (s.2.1 c + y))))))) : Mt G l mX12_strike (4, 0, 0, false) [.ref 149, .int x, .int y] ly M Q := by
  refine Mt.of (lv := [some (.ref 149), some (.int x), some (.int y), none]) rfl ?_
  refine Rn.aload_n dX12_strike_0 rfl ?_
  refine Rn.iconstv (v := 0) dX12_strike_1 ic_0 ?_
  refine Rn.putI dX12_strike_2 fX12_169 rfl rfl rfl (rc149 hR) ?_
  refine Rn.aload_n dX12_strike_5 rfl ?_
  refine Rn.iload_n dX12_strike_6 rfl ?_
  refine Rn.callV1 dX12_strike_7 vX12_403 (rc149 hR) (by decide) rfl (tX12_isCell (M := sI M 149 (upd (M.1 149) 0 0)) hR) (by decide) ⟨(Nat.le_of_ble_eq_true rfl), (Nat.le_of_ble_eq_true rfl), (Nat.le_of_ble_eq_true rfl)⟩ (fun h => by cases h) (fun v1 ly1 M1 ⟨q1, q2, q3⟩ => ?_)
  rw [q1, q2, q3]
  refine Rn.topI (y := inN x (nI n)) (congrArg (inN x) hS.n.1) ?_
  refine Rn.if_eq dX12_strike_10 (fun g1 => ?_) (fun g1 => ?_)
  · skip
    refine Rn.ldcw dX12_strike_27 kX12_446 ?_
    exact Rn.iret (ty := .int) dX12_strike_30 rfl rfl (hQ.1 (fun h => (inN_1 (x := x) (k := n) (lt31c hS.n.2)).elim (fun k => k.2 h.1) (fun k => absurd (k.1.symm.trans g1) (by decide))) _ qR.rf.f0)
  · skip
    obtain ⟨c, hc, rfl⟩ : ∃ j : Nat, j < n ∧ x = nI j := (inN_1 (x := x) (k := n) (lt31c hS.n.2)).elim (fun k => absurd k.1 g1) (fun k => k.2)
    refine Rn.iload_n dX12_strike_13 rfl ?_
    refine Rn.sipushv (v := -999) dX12_strike_14 sp_m999 ?_
    refine Rn.icmp_lt dX12_strike_17 (fun g1 => ?_) (fun g1 => ?_)
    · skip
      refine Rn.ldcw dX12_strike_27 kX12_446 ?_
      exact Rn.iret (ty := .int) dX12_strike_30 rfl rfl (hQ.1 (fun h => absurd g1 (Int32.not_lt.mpr h.2.1)) _ qR.rf.f0)
    · skip
      refine Rn.iload_n dX12_strike_20 rfl ?_
      refine Rn.sipushv (v := 999) dX12_strike_21 sp_999 ?_
      refine Rn.icmp_le dX12_strike_24 (fun g2 => ?_) (fun g2 => ?_)
      · skip
        have hA := hQ.2 c hc rfl ⟨Int32.not_lt.mp g1, g2⟩
        have hn12 := hS.n.2
        refine Rn.aload_n dX12_strike_31 rfl ?_
        refine Rn.getR dX12_strike_32 fX12_89 rfl (rc149 hR) (show M.2.2 149 40 = some 174 from (rpt40 hR)) ?_
        refine Rn.iload_n dX12_strike_35 rfl ?_
        refine Rn.ialdN (k0 := c) dX12_strike_36 (rc174 hR) (by omega) (by decide) ?_
        refine Rn.topI (y := s.2.1 c) (sh0 hS.2.1.2.1 (by omega)) ?_
        refine Rn.iload_n dX12_strike_37 rfl ?_
        refine Rn.iadd dX12_strike_38 ?_
        refine Rn.ldcw dX12_strike_39 kX12_418 ?_
        refine Rn.callS2 dX12_strike_42 vX12_419 (tX12_within) (by decide) ⟨(Nat.le_of_ble_eq_true rfl), (Nat.le_of_ble_eq_true rfl), (Nat.le_of_ble_eq_true rfl)⟩ (fun h => by cases h) (fun v1 ly1 M1 ⟨q1, q2, q3⟩ => ?_)
        rw [q1, q2, q3]
        refine Rn.istore_n (lv' := [some (.ref 149), some (.int (nI c)), some (.int y), some (.int (wi (s.2.1 c + y)))]) dX12_strike_45 (by decide) rfl ?_
        refine Rn.iload_n dX12_strike_46 rfl ?_
        refine Rn.aload_n dX12_strike_47 rfl ?_
        refine Rn.getR dX12_strike_48 fX12_89 rfl (rc149 hR) (show M.2.2 149 40 = some 174 from (rpt40 hR)) ?_
        refine Rn.iload_n dX12_strike_51 rfl ?_
        refine Rn.ialdN (k0 := c) dX12_strike_52 (rc174 hR) (by omega) (by decide) ?_
        refine Rn.topI (y := s.2.1 c) (sh0 hS.2.1.2.1 (by omega)) ?_
        refine Rn.icmp_eq dX12_strike_53 (fun g3 => ?_) (fun g3 => ?_)
        · skip
          refine Rn.iload_n dX12_strike_67 rfl ?_
          exact Rn.iret (ty := .int) dX12_strike_68 rfl rfl (hA.1 g3 _ qR.rf.f0)
        · skip
          refine Rn.aload_n dX12_strike_56 rfl ?_
          refine Rn.callV0 dX12_strike_57 vX12_467 (rc149 hR) (by decide) rfl (keep0 (M := M) (nd := nd) (Q := fun v0 ly0 K => v0 = none ∧ ly0 = ly ∧ dpF M K nd) hD hgd hR (fun K h => ⟨rfl, rfl, h⟩)) (by decide) ⟨(Nat.le_of_ble_eq_true rfl), (Nat.le_of_ble_eq_true rfl), (Nat.le_of_ble_eq_true rfl)⟩ (fun h => by cases h) (fun v1 ly1 N1 ⟨q1, q2, hd1⟩ => ?_)
          rw [q1, q2]
          have hRN1 : RW ly N1.2.2 := by rw [hd1.1]; exact hR
          have hS1 := hd1.rs hS
          refine Rn.aload_n dX12_strike_60 rfl ?_
          refine Rn.getR dX12_strike_61 fX12_89 rfl (rc149 hRN1) (show N1.2.2 149 40 = some 174 from (rpt40 hRN1)) ?_
          refine Rn.iload_n dX12_strike_64 rfl ?_
          refine Rn.iload_n dX12_strike_65 rfl ?_
          refine Rn.iastN (k0 := c) dX12_strike_66 (rc174 hRN1) (by omega) (by decide) ?_
          refine Rn.iload_n dX12_strike_67 rfl ?_
          exact Rn.iret (ty := .int) dX12_strike_68 rfl rfl (hA.2 g3 N1 hd1)
      · skip
        refine Rn.ldcw dX12_strike_27 kX12_446 ?_
        exact Rn.iret (ty := .int) dX12_strike_30 rfl rfl (hQ.1 (fun h => g2 h.2.2) _ qR.rf.f0)
theorem tX12_undo {G : Gx} {l : Launch} {ly : Ly} {M : Mm} {nd : Nat} (hD : M.1 149 51 = nI nd ∧ nd ≤ 20) (hgd : ∀ b, b < 24 → gdB M.1 b) (hR : RW ly M.2.2) {Q : Qt} (hQ : (nd = 0 → ∀ K, qR M K → Q (some (.int (-1))) ly K) ∧ (∀ k : Nat, nd = k + 1 → ∀ K : Mm, K.2.2 = M.2.2 → (∀ a, a ≠ 149 → (a < 169 ∨ 182 < a) → K.1 a = M.1 a) → (∀ j, j ≠ 0 → j ≠ 51 → K.1 149 j = M.1 149 j) → K.1 149 51 = nI k → (∀ b, b < 24 → gdB K.1 b) → cpB K.1 0 M.1 (4 + k) → (∀ b, b ≠ 0 → cpB K.1 b M.1 b) → Q (some (.int (nI k))) ly K)) : Mt G l mX12_undo (3, 0, 0, false) [.ref 149] ly M Q := by
  refine Mt.of (lv := [some (.ref 149)]) rfl ?_
  refine Rn.aload_n dX12_undo_0 rfl ?_
  refine Rn.iconstv (v := 0) dX12_undo_1 ic_0 ?_
  refine Rn.putI dX12_undo_2 fX12_169 rfl rfl rfl (rc149 hR) ?_
  refine Rn.aload_n dX12_undo_5 rfl ?_
  refine Rn.getI dX12_undo_6 fX12_340 rfl (rc149 hR) ?_
  refine Rn.topI (y := nI nd) (hD.1) ?_
  refine Rn.if_ne dX12_undo_9 (fun g0 => ?_) (fun g0 => ?_)
  · skip
    obtain ⟨k, rfl⟩ : ∃ k, nd = k + 1 := ⟨nd - 1, by have : nd ≠ 0 := fun e => g0 (by rw [e]; rfl); omega⟩
    have hA := hQ.2 k rfl
    refine Rn.aload_n dX12_undo_14 rfl ?_
    refine Rn.dup dX12_undo_15 rfl ?_
    refine Rn.getI dX12_undo_16 fX12_340 rfl (rc149 hR) ?_
    refine Rn.topI (y := nI (k + 1)) (hD.1) ?_
    refine Rn.iconstv (v := 1) dX12_undo_19 ic_1 ?_
    refine Rn.isub dX12_undo_20 ?_
    refine Rn.topI (y := nI k) (nI_subk k 1) ?_
    refine Rn.putI dX12_undo_21 fX12_340 rfl rfl rfl (rc149 hR) ?_
    refine Rn.meq (M2 := sI M 149 (upd (upd (M.1 149) 0 0) 51 (nI k))) (sI_sI _ _ _ _) ?_
    refine Rn.aload_n dX12_undo_24 rfl ?_
    refine Rn.iconstv (v := 0) dX12_undo_25 ic_0 ?_
    refine Rn.iconstv (v := 4) dX12_undo_26 ic_4 ?_
    refine Rn.aload_n dX12_undo_27 rfl ?_
    refine Rn.getI dX12_undo_28 fX12_340 rfl (rc149 hR) ?_
    refine Rn.iadd dX12_undo_31 ?_
    refine Rn.topI (y := nI (4 + k)) (nI_add 4 k) ?_
    obtain ⟨⟨nf, hnf12, hnf⟩, hbl⟩ := hgd (4 + k) (by omega) (by omega)
    refine Rn.callV2 dX12_undo_32 vX12_461 (rc149 hR) (by decide) rfl (tX12_copies (M := sI M 149 (upd (upd (M.1 149) 0 0) 51 (nI k))) (p := 0) (q := 4 + k) (nf := nf) (Q := fun v0 ly0 K => v0 = none ∧ ly0 = ly ∧ cbR (sI M 149 (upd (upd (M.1 149) 0 0) 51 (nI k))) K 0 (4 + k) nf) (by decide) (by omega) (by omega) hnf hnf12 hbl hR (fun K h => ⟨rfl, rfl, h⟩)) (by decide) ⟨(Nat.le_of_ble_eq_true rfl), (Nat.le_of_ble_eq_true rfl), (Nat.le_of_ble_eq_true rfl)⟩ (fun h => by cases h) (fun v1 ly1 N1 ⟨q1, q2, hb⟩ => ?_)
    rw [q1, q2]
    have hF1 := hb.kp
    have hRN1 : RW ly N1.2.2 := by rw [hF1.1]; exact hR
    have h51 : N1.1 149 51 = nI k := congrFun (hb.2.1 149 (by omega)) 51
    refine Rn.aload_n dX12_undo_35 rfl ?_
    refine Rn.getI dX12_undo_36 fX12_340 rfl (rc149 hRN1) ?_
    refine Rn.topI (y := nI k) (h51) ?_
    refine Rn.iret (ty := .int) dX12_undo_39 rfl rfl (hA N1 hF1.1 (fun a a1 a2 => (hF1.2.1 a a1 a2).trans (sI_ne a1)) (fun j a1 a2 => (hF1.2.2 j a2).trans ((pk_un a2).trans (pk_un a1))) h51 (fun b hb2 => ?_) (hb.cp hnf hnf12).f' (fun b hb2 => (hb.ne hnf12 hb2).f'))
    by_cases e2 : b = 0
    · subst e2; exact (hb.cp hnf hnf12).f'.gd (hgd (4 + k) (by omega))
    · exact (hb.ne hnf12 e2).f'.gd (hgd b hb2)
  · skip
    refine Rn.iconstv (v := -1) dX12_undo_12 ic_m1 ?_
    exact Rn.iret (ty := .int) dX12_undo_13 rfl rfl (hQ.1 ((nI_eq (b := 0) (by omega) (by decide)).mp g0) _ qR.rf.f0)
