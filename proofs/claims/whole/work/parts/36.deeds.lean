/-- a deed comes to a row: the first of twenty goes -/
def dA (k : Nat) (f : Nat → Int32) (x : Int32) : Nat → Int32 := if k < 20 then upd f k x else upd (va_cpy f f 1 0 19) 19 x
def dN (k : Nat) : Nat := if k < 20 then k + 1 else 20
theorem tDeed {G : Gx} {l : Launch} {ly : Ly} {M : Mm} {k : Nat} {x y z : Int32} (hX : XW ly M.2.2) (hk : M.1 134 0 = nI k) (hk20 : k ≤ 20) {Q : Qt} (hQ : ∀ K : Mm, K.2.2 = M.2.2 → (∀ a, (a < 134 ∨ 137 < a) → K.1 a = M.1 a) → K.1 134 = upd (M.1 134) 0 (nI (dN k)) → K.1 135 = dA k (M.1 135) x → K.1 136 = dA k (M.1 136) y → K.1 137 = dA k (M.1 137) z → Q none ly K) : Mt G l mX1_add (2, 0, 0, false) [.ref 134, .int x, .int y, .int z] ly M Q := by
  by_cases h : k < 20
  · refine Mt.post (tX1_add (a := 134) (xDeeds hX) hk h) ?_
    rintro v1 ly1 M1 ⟨rfl, rfl, rfl⟩
    refine hQ _ rfl (fun a ha => (sI_ne (by omega)).trans ((sI_ne (by omega)).trans ((sI_ne (by omega)).trans (sI_ne (by omega))))) ?_ ?_ ?_ ?_
    · unfold dN; rw [if_pos h]; rfl
    · unfold dA; rw [if_pos h]; rfl
    · unfold dA; rw [if_pos h]; rfl
    · unfold dA; rw [if_pos h]; rfl
  · have e : k = 20 := by omega
    subst e
    refine Mt.post (tX1_addFull (a := 134) (xDeeds hX) hk) ?_
    rintro v1 ly1 M1 ⟨rfl, rfl, rfl⟩
    refine hQ _ rfl (fun a ha => (sI_ne (by omega)).trans ((sI_ne (by omega)).trans ((sI_ne (by omega)).trans (sI_ne (by omega))))) ?_ ?_ ?_ ?_
    · unfold dN; rw [if_neg h]; exact upd_upd _ _ _ _
    · unfold dA; rw [if_neg h]; rfl
    · unfold dA; rw [if_neg h]; rfl
    · unfold dA; rw [if_neg h]; rfl
theorem tX11_fat {G : Gx} {l : Launch} {ly : Ly} {M : Mm} {pl n nw nu nv nf : Nat} {nd : Nat} {x y : Int32} (hD : M.1 134 0 = nI nd ∧ nd ≤ 20) (hXS : XS ly M pl n nw nu nv) (hF : M.1 87 0 = nI nf ∧ nf ≤ 8 ∧ ∀ i, i < nf → vp_in (M.1 88 i) 12) {Q : Qt} (hQ : (¬ ((∃ j : Nat, j < n ∧ x = nI j) ∧ (1 ≤ y ∧ y ≤ 99) ∧ nf < 8) → Q (some (.int (-1))) ly M) ∧ (∀ c : Nat, c < n → x = nI c → (1 ≤ y ∧ y ≤ 99) → nf < 8 → ∀ K : Mm, K.2.2 = M.2.2 → (∀ a, (a < 87 ∨ 90 < a) → (a < 134 ∨ 137 < a) → K.1 a = M.1 a) → K.1 87 = upd (M.1 87) 0 (nI (nf + 1)) → K.1 88 = upd (M.1 88) nf (nI c) → K.1 89 = upd (M.1 89) nf y → K.1 90 = rfC (M.1 pl 3) (upd (M.1 88) nf (nI c)) (upd (M.1 89) nf y) (M.1 90) (nf + 1) → K.1 134 = upd (M.1 134) 0 (nI (dN nd)) ∧ K.1 135 = dA nd (M.1 135) 0 ∧ K.1 136 = dA nd (M.1 136) (nI c) ∧ K.1 137 = dA nd (M.1 137) 0 → Q (some (.int (nI (nf + 1)))) ly K)) : Mt G l mX11_fat (4, 0, 0, false) [.ref 0, .int x, .int y] ly M Q := by
  have hXS0 := hXS
  obtain ⟨hX, hpl, hp7, ⟨n0, n1, n2, n3⟩, ⟨hn, hn2, hn12⟩, ⟨hw1, hw2, hw6⟩, ⟨hu1, hu2, hv1, hv2⟩, hgl, hbb⟩ := hXS
  refine Mt.of (lv := [some (.ref 0), some (.int x), some (.int y)]) rfl ?_
  refine Rn.aload_n dX11_fat_0 rfl ?_
  refine Rn.iload_n dX11_fat_1 rfl ?_
  refine Rn.callV1 dX11_fat_2 vX11_159 (xc0 hX) (by decide) rfl (tX11_isCell hX hpl hp7) (by decide) ⟨(Nat.le_of_ble_eq_true rfl), (Nat.le_of_ble_eq_true rfl), (Nat.le_of_ble_eq_true rfl)⟩ (fun h => by cases h) (fun v1 ly1 M1 ⟨q1, q2, q3⟩ => ?_)
  rw [q1, q2, q3]
  refine Rn.topI (y := inN x (nI n)) (by rw [hn]) ?_
  refine Rn.if_eq dX11_fat_5 (fun g1 => ?_) (fun g1 => ?_)
  · skip
    refine Rn.iconstv (v := -1) dX11_fat_30 ic_m1 ?_
    exact Rn.iret (ty := .int) dX11_fat_31 rfl rfl (hQ.1 (fun h => (inN_1 (x := x) (k := n) (lt31c hn12)).elim (fun k => k.2 h.1) (fun k => absurd (k.1.symm.trans g1) (by decide))))
  · skip
    obtain ⟨c, hc, rfl⟩ : ∃ j : Nat, j < n ∧ x = nI j := (inN_1 (x := x) (k := n) (lt31c hn12)).elim (fun k => absurd k.1 g1) (fun k => k.2)
    refine Rn.iload_n dX11_fat_8 rfl ?_
    refine Rn.callS1 dX11_fat_9 vX11_259 (tX11_isCalm) (by decide) ⟨(Nat.le_of_ble_eq_true rfl), (Nat.le_of_ble_eq_true rfl), (Nat.le_of_ble_eq_true rfl)⟩ (fun h => by cases h) (fun v1 ly1 M1 ⟨q1, q2, q3⟩ => ?_)
    rw [q1, q2, q3]
    refine Rn.if_eq dX11_fat_12 (fun g2 => ?_) (fun g2 => ?_)
    · skip
      refine Rn.iconstv (v := -1) dX11_fat_30 ic_m1 ?_
      exact Rn.iret (ty := .int) dX11_fat_31 rfl rfl (hQ.1 (fun h => inR_1.elim (fun k => k.2 h.2.1) (fun k => absurd (k.1.symm.trans g2) (by decide))))
    · skip
      have g2h : 1 ≤ y ∧ y ≤ 99 := (inR_1 (x := y) (lo := 1) (hi := 99)).elim (fun k => absurd k.1 g2) (fun k => k.2)
      refine Rn.aload_n dX11_fat_15 rfl ?_
      refine Rn.getR dX11_fat_16 fX11_39 rfl (xc0 hX) (show M.2.2 0 5 = some 75 from (xp0_5 hX)) ?_
      refine Rn.getR dX11_fat_19 fX11_215 rfl (xc75 hX) (show M.2.2 75 11 = some 87 from (xp75_11 hX)) ?_
      refine Rn.getI dX11_fat_22 fX11_219 rfl (xc87 hX) ?_
      refine Rn.topI (y := nI nf) (hF.1) ?_
      refine Rn.bipushv (v := 8) dX11_fat_25 bp_8 ?_
      refine Rn.icmp_lt dX11_fat_27 (fun g9 => ?_) (fun g9 => ?_)
      · skip
        have hnf : nf < 8 := (nI_ltI (b := 8) (by omega) (by decide)).mp g9
        have hR := hQ.2 c hc rfl g2h hnf
        clear hQ
        refine Rn.aload_n dX11_fat_32 rfl ?_
        refine Rn.getR dX11_fat_33 fX11_39 rfl (xc0 hX) (show M.2.2 0 5 = some 75 from (xp0_5 hX)) ?_
        refine Rn.iload_n dX11_fat_36 rfl ?_
        refine Rn.iload_n dX11_fat_37 rfl ?_
        refine Rn.callV2 dX11_fat_38 vX11_262 (xc75 hX) (by decide) rfl (tX9_addFat (a := 75) (p := pl) (n := nf) (Q := fun v0 ly0 M0 => v0 = none ∧ ly0 = ly ∧ M0.2.2 = M.2.2 ∧ (∀ a, (a < 87 ∨ 90 < a) → M0.1 a = M.1 a) ∧ M0.1 87 = upd (M.1 87) 0 (nI (nf + 1)) ∧ M0.1 88 = upd (M.1 88) nf (nI c) ∧ M0.1 89 = upd (M.1 89) nf y ∧ M0.1 90 = rfC (M.1 pl 3) (upd (M.1 88) nf (nI c)) (upd (M.1 89) nf y) (M.1 90) (nf + 1)) (xScene75 hX) n0 (pc0 hX hp7) (by omega) hF.1 hnf (vp_in_nI (by omega) (by decide)) hF.2.2 (fun I a b c d e => ⟨rfl, rfl, rfl, fun k hk => a k (by omega), b, c, d, e⟩)) (by decide) ⟨(Nat.le_of_ble_eq_true rfl), (Nat.le_of_ble_eq_true rfl), (Nat.le_of_ble_eq_true rfl)⟩ (fun h => by cases h) (fun v1 ly1 N1 ⟨q1, q2, r1, w1, wa, wb, wc, wd⟩ => ?_)
        rw [q1, q2]
        have hXN1 : XW ly N1.2.2 := by rw [r1]; exact hX
        have hplN1 : N1.2.2 0 3 = some pl := by rw [r1]; exact hpl
        refine Rn.aload_n dX11_fat_41 rfl ?_
        refine Rn.getR dX11_fat_42 fX11_66 rfl (xc0 hXN1) (show N1.2.2 0 12 = some 134 from (xp0_12 hXN1)) ?_
        refine Rn.iconstv (v := 0) dX11_fat_45 ic_0 ?_
        refine Rn.iload_n dX11_fat_46 rfl ?_
        refine Rn.iconstv (v := 0) dX11_fat_47 ic_0 ?_
        refine Rn.callV3 dX11_fat_48 vX11_266 (xc134 hXN1) (by decide) rfl (tDeed (Q := fun v0 ly0 M0 => v0 = none ∧ ly0 = ly ∧ M0.2.2 = N1.2.2 ∧ (∀ a, (a < 134 ∨ 137 < a) → M0.1 a = N1.1 a) ∧ M0.1 134 = upd (N1.1 134) 0 (nI (dN nd)) ∧ M0.1 135 = dA nd (N1.1 135) 0 ∧ M0.1 136 = dA nd (N1.1 136) (nI c) ∧ M0.1 137 = dA nd (N1.1 137) 0) (M := N1) hXN1 ((congrFun (w1 134 (by omega)) 0).trans hD.1) hD.2 (fun K a b c d e f => ⟨rfl, rfl, a, b, c, d, e, f⟩)) (by decide) ⟨(Nat.le_of_ble_eq_true rfl), (Nat.le_of_ble_eq_true rfl), (Nat.le_of_ble_eq_true rfl)⟩ (fun h => by cases h) (fun v1 ly1 N2 ⟨q1, q2, r2, f2, d2a, d2b, d2c, d2d⟩ => ?_)
        rw [q1, q2]
        have r3 := r2.trans r1
        have hXN2 : XW ly N2.2.2 := by rw [r3]; exact hX
        have hplN2 : N2.2.2 0 3 = some pl := by rw [r3]; exact hpl
        refine Rn.aload_n dX11_fat_51 rfl ?_
        refine Rn.getR dX11_fat_52 fX11_39 rfl (xc0 hXN2) (show N2.2.2 0 5 = some 75 from (xp0_5 hXN2)) ?_
        refine Rn.getR dX11_fat_55 fX11_215 rfl (xc75 hXN2) (show N2.2.2 75 11 = some 87 from (xp75_11 hXN2)) ?_
        refine Rn.getI dX11_fat_58 fX11_219 rfl (xc87 hXN2) ?_
        refine Rn.topI (y := nI (nf + 1)) (by rw [f2 87 (by omega), wa, pk_us]) ?_
        exact Rn.iret (ty := .int) dX11_fat_61 rfl rfl (hR N2 r3 (fun a h1 h2 => (f2 a h2).trans (w1 a h1)) ((f2 87 (by omega)).trans wa) ((f2 88 (by omega)).trans wb) ((f2 89 (by omega)).trans wc) ((f2 90 (by omega)).trans wd) ⟨by rw [d2a, w1 134 (by omega)], by rw [d2b, w1 135 (by omega)], by rw [d2c, w1 136 (by omega)], by rw [d2d, w1 137 (by omega)]⟩)
      · skip
        refine Rn.iconstv (v := -1) dX11_fat_30 ic_m1 ?_
        exact Rn.iret (ty := .int) dX11_fat_31 rfl rfl (hQ.1 (fun h => g9 (nI_lt (b := 8) h.2.2 (by decide))))
theorem tX11_off {G : Gx} {l : Launch} {ly : Ly} {M : Mm} {pl n nw nu nv : Nat} {nd : Nat} {x : Int32} (hD : M.1 134 0 = nI nd ∧ nd ≤ 20) (hXS : XS ly M pl n nw nu nv) {Q : Qt} (hQ : (¬ (∃ j : Nat, j < nw ∧ x = nI j ∧ ¬ M.1 86 j = 2) → Q (some (.int 0)) ly M) ∧ (∀ w : Nat, w < nw → x = nI w → ¬ M.1 86 w = 2 → ∀ K : Mm, K.2.2 = M.2.2 → (∀ a, a ≠ 86 → (a < 134 ∨ 137 < a) → K.1 a = M.1 a) → K.1 86 = upd (M.1 86) w 2 → K.1 134 = upd (M.1 134) 0 (nI (dN nd)) ∧ K.1 135 = dA nd (M.1 135) 1 ∧ K.1 136 = dA nd (M.1 136) (nI w) ∧ K.1 137 = dA nd (M.1 137) (M.1 86 w) → Q (some (.int 1)) ly K)) : Mt G l mX11_off (3, 0, 0, false) [.ref 0, .int x] ly M Q := by
  have hXS0 := hXS
  obtain ⟨hX, hpl, hp7, ⟨n0, n1, n2, n3⟩, ⟨hn, hn2, hn12⟩, ⟨hw1, hw2, hw6⟩, ⟨hu1, hu2, hv1, hv2⟩, hgl, hbb⟩ := hXS
  refine Mt.of (lv := [some (.ref 0), some (.int x)]) rfl ?_
  refine Rn.aload_n dX11_off_0 rfl ?_
  refine Rn.iload_n dX11_off_1 rfl ?_
  refine Rn.callV1 dX11_off_2 vX11_125 (xc0 hX) (by decide) rfl (tX11_isWalker hX hpl hp7) (by decide) ⟨(Nat.le_of_ble_eq_true rfl), (Nat.le_of_ble_eq_true rfl), (Nat.le_of_ble_eq_true rfl)⟩ (fun h => by cases h) (fun v1 ly1 M1 ⟨q1, q2, q3⟩ => ?_)
  rw [q1, q2, q3]
  refine Rn.topI (y := inN x (nI nw)) (by rw [hw1]) ?_
  refine Rn.if_eq dX11_off_5 (fun g1 => ?_) (fun g1 => ?_)
  · skip
    refine Rn.iconstv (v := 0) dX11_off_21 ic_0 ?_
    exact Rn.iret (ty := .boolean) dX11_off_22 rfl rfl (hQ.1 (fun ⟨j, hj, e, _⟩ => (inN_1 (x := x) (k := nw) (lt31 hw6)).elim (fun k => k.2 ⟨j, hj, e⟩) (fun k => absurd (k.1.symm.trans g1) (by decide))))
  · skip
    obtain ⟨w, hw, rfl⟩ : ∃ j : Nat, j < nw ∧ x = nI j := (inN_1 (x := x) (k := nw) (lt31 hw6)).elim (fun k => absurd k.1 g1) (fun k => k.2)
    refine Rn.aload_n dX11_off_8 rfl ?_
    refine Rn.getR dX11_off_9 fX11_39 rfl (xc0 hX) (show M.2.2 0 5 = some 75 from (xp0_5 hX)) ?_
    refine Rn.getR dX11_off_12 fX11_136 rfl (xc75 hX) (show M.2.2 75 10 = some 86 from (xp75_10 hX)) ?_
    refine Rn.iload_n dX11_off_15 rfl ?_
    refine Rn.ialdN (k0 := w) dX11_off_16 (xc86 hX) (by omega) (by decide) ?_
    refine Rn.iconstv (v := 2) dX11_off_17 ic_2 ?_
    refine Rn.icmp_ne dX11_off_18 (fun g2 => ?_) (fun g2 => ?_)
    · skip
      refine Rn.aload_n dX11_off_23 rfl ?_
      refine Rn.getR dX11_off_24 fX11_66 rfl (xc0 hX) (show M.2.2 0 12 = some 134 from (xp0_12 hX)) ?_
      refine Rn.iconstv (v := 1) dX11_off_27 ic_1 ?_
      refine Rn.iload_n dX11_off_28 rfl ?_
      refine Rn.aload_n dX11_off_29 rfl ?_
      refine Rn.getR dX11_off_30 fX11_39 rfl (xc0 hX) (show M.2.2 0 5 = some 75 from (xp0_5 hX)) ?_
      refine Rn.getR dX11_off_33 fX11_136 rfl (xc75 hX) (show M.2.2 75 10 = some 86 from (xp75_10 hX)) ?_
      refine Rn.iload_n dX11_off_36 rfl ?_
      refine Rn.ialdN (k0 := w) dX11_off_37 (xc86 hX) (by omega) (by decide) ?_
      refine Rn.callV3 dX11_off_38 vX11_266 (xc134 hX) (by decide) rfl (tDeed (Q := fun v0 ly0 M0 => v0 = none ∧ ly0 = ly ∧ M0.2.2 = M.2.2 ∧ (∀ a, (a < 134 ∨ 137 < a) → M0.1 a = M.1 a) ∧ M0.1 134 = upd (M.1 134) 0 (nI (dN nd)) ∧ M0.1 135 = dA nd (M.1 135) 1 ∧ M0.1 136 = dA nd (M.1 136) (nI w) ∧ M0.1 137 = dA nd (M.1 137) (M.1 86 w)) (M := M) hX hD.1 hD.2 (fun K a b c d e f => ⟨rfl, rfl, a, b, c, d, e, f⟩)) (by decide) ⟨(Nat.le_of_ble_eq_true rfl), (Nat.le_of_ble_eq_true rfl), (Nat.le_of_ble_eq_true rfl)⟩ (fun h => by cases h) (fun v1 ly1 N1 ⟨q1, q2, r1, f1, d1a, d1b, d1c, d1d⟩ => ?_)
      rw [q1, q2]
      have hXN1 : XW ly N1.2.2 := by rw [r1]; exact hX
      have hplN1 : N1.2.2 0 3 = some pl := by rw [r1]; exact hpl
      refine Rn.aload_n dX11_off_41 rfl ?_
      refine Rn.getR dX11_off_42 fX11_39 rfl (xc0 hXN1) (show N1.2.2 0 5 = some 75 from (xp0_5 hXN1)) ?_
      refine Rn.getR dX11_off_45 fX11_136 rfl (xc75 hXN1) (show N1.2.2 75 10 = some 86 from (xp75_10 hXN1)) ?_
      refine Rn.iload_n dX11_off_48 rfl ?_
      refine Rn.iconstv (v := 2) dX11_off_49 ic_2 ?_
      refine Rn.iastN (k0 := w) dX11_off_50 (xc86 hXN1) (by omega) (by decide) ?_
      refine Rn.iconstv (v := 1) dX11_off_51 ic_1 ?_
      exact Rn.iret (ty := .boolean) dX11_off_52 rfl rfl (hQ.2 w hw rfl g2 _ r1 (fun a h1 h2 => (sI_ne h1).trans (f1 a h2)) (by rw [sI_at, f1 86 (by omega)]) ⟨d1a, d1b, d1c, d1d⟩)
    · skip
      refine Rn.iconstv (v := 0) dX11_off_21 ic_0 ?_
      exact Rn.iret (ty := .boolean) dX11_off_22 rfl rfl (hQ.1 (fun ⟨j, hj, e, h⟩ => h (by rw [(nI_eq (by omega) (by omega)).mp e] at g2; exact g2)))
theorem tX11_blow {G : Gx} {l : Launch} {ly : Ly} {M : Mm} {pl n nw nu nv : Nat} {nd : Nat} {x : Int32} (hx : x = 0 ∨ x = 1) (hD : M.1 134 0 = nI nd ∧ nd ≤ 20) (hXS : XS ly M pl n nw nu nv) {Q : Qt} (hQ : (M.1 75 16 = x → Q (some (.int 0)) ly M) ∧ (¬ M.1 75 16 = x → ∀ K : Mm, K.2.2 = M.2.2 → (∀ a, a ≠ 75 → (a < 134 ∨ 137 < a) → K.1 a = M.1 a) → K.1 75 = upd (M.1 75) 16 x → K.1 134 = upd (M.1 134) 0 (nI (dN nd)) ∧ K.1 135 = dA nd (M.1 135) 2 ∧ K.1 136 = dA nd (M.1 136) 0 ∧ K.1 137 = dA nd (M.1 137) 0 → Q (some (.int 1)) ly K)) : Mt G l mX11_blow (3, 0, 0, false) [.ref 0, .int x] ly M Q := by
  have hXS0 := hXS
  obtain ⟨hX, hpl, hp7, ⟨n0, n1, n2, n3⟩, ⟨hn, hn2, hn12⟩, ⟨hw1, hw2, hw6⟩, ⟨hu1, hu2, hv1, hv2⟩, hgl, hbb⟩ := hXS
  refine Mt.of (lv := [some (.ref 0), some (.int x)]) rfl ?_
  refine Rn.aload_n dX11_blow_0 rfl ?_
  refine Rn.getR dX11_blow_1 fX11_39 rfl (xc0 hX) (show M.2.2 0 5 = some 75 from (xp0_5 hX)) ?_
  refine Rn.getI dX11_blow_4 fX11_242 rfl (xc75 hX) ?_
  refine Rn.iload_n dX11_blow_7 rfl ?_
  refine Rn.icmp_ne dX11_blow_8 (fun g1 => ?_) (fun g1 => ?_)
  · skip
    refine Rn.aload_n dX11_blow_13 rfl ?_
    refine Rn.getR dX11_blow_14 fX11_39 rfl (xc0 hX) (show M.2.2 0 5 = some 75 from (xp0_5 hX)) ?_
    refine Rn.iload_n dX11_blow_17 rfl ?_
    refine Rn.putZ dX11_blow_18 fX11_242 rfl rfl rfl hx (xc75 hX) ?_
    refine Rn.aload_n dX11_blow_21 rfl ?_
    refine Rn.getR dX11_blow_22 fX11_66 rfl (xc0 hX) (show M.2.2 0 12 = some 134 from (xp0_12 hX)) ?_
    refine Rn.iconstv (v := 2) dX11_blow_25 ic_2 ?_
    refine Rn.iconstv (v := 0) dX11_blow_26 ic_0 ?_
    refine Rn.iconstv (v := 0) dX11_blow_27 ic_0 ?_
    have hX0 : XW ly (sI M 75 (upd (M.1 75) 16 x)).2.2 := hX
    have hd0 : (sI M 75 (upd (M.1 75) 16 x)).1 134 0 = nI nd := hD.1
    have e75 : (sI M 75 (upd (M.1 75) 16 x)).1 75 = upd (M.1 75) 16 x := rfl
    have eo : ∀ a, a ≠ 75 → (sI M 75 (upd (M.1 75) 16 x)).1 a = M.1 a := fun a h => sI_ne h
    have eR : (sI M 75 (upd (M.1 75) 16 x)).2.2 = M.2.2 := rfl
    generalize (sI M 75 (upd (M.1 75) 16 x)) = N0 at hX0 hd0 e75 eo eR ⊢
    have hXN0 : XW ly N0.2.2 := by rw [eR]; exact hX
    have hplN0 : N0.2.2 0 3 = some pl := by rw [eR]; exact hpl
    refine Rn.callV3 dX11_blow_28 vX11_266 (xc134 hXN0) (by decide) rfl (tDeed (Q := fun v0 ly0 M0 => v0 = none ∧ ly0 = ly ∧ M0.2.2 = N0.2.2 ∧ (∀ a, (a < 134 ∨ 137 < a) → M0.1 a = N0.1 a) ∧ M0.1 134 = upd (N0.1 134) 0 (nI (dN nd)) ∧ M0.1 135 = dA nd (N0.1 135) 2 ∧ M0.1 136 = dA nd (N0.1 136) 0 ∧ M0.1 137 = dA nd (N0.1 137) 0) (M := N0) hXN0 hd0 hD.2 (fun K a b c d e f => ⟨rfl, rfl, a, b, c, d, e, f⟩)) (by decide) ⟨(Nat.le_of_ble_eq_true rfl), (Nat.le_of_ble_eq_true rfl), (Nat.le_of_ble_eq_true rfl)⟩ (fun h => by cases h) (fun v1 ly1 N1 ⟨q1, q2, r1, f1, d1a, d1b, d1c, d1d⟩ => ?_)
    rw [q1, q2]
    have r2 := r1.trans eR
    have hXN1 : XW ly N1.2.2 := by rw [r2]; exact hX
    have hplN1 : N1.2.2 0 3 = some pl := by rw [r2]; exact hpl
    refine Rn.iconstv (v := 1) dX11_blow_31 ic_1 ?_
    exact Rn.iret (ty := .boolean) dX11_blow_32 rfl rfl (hQ.2 g1 N1 r2 (fun a h1 h2 => (f1 a h2).trans (eo a h1)) ((f1 75 (by omega)).trans e75) ⟨by rw [d1a, eo 134 (by omega)], by rw [d1b, eo 135 (by omega)], by rw [d1c, eo 136 (by omega)], by rw [d1d, eo 137 (by omega)]⟩)
  · skip
    refine Rn.iconstv (v := 0) dX11_blow_11 ic_0 ?_
    exact Rn.iret (ty := .boolean) dX11_blow_12 rfl rfl (hQ.1 g1)
theorem tX11_strike {G : Gx} {l : Launch} {ly : Ly} {M : Mm} {pl n nw nu nv : Nat} {nd : Nat} {x y : Int32} (hD : M.1 134 0 = nI nd ∧ nd ≤ 20) (hXS : XS ly M pl n nw nu nv) {Q : Qt} (hQ : (¬ ((∃ j : Nat, j < n ∧ x = nI j) ∧ (-999 ≤ y ∧ y ≤ 999)) → Q (some (.int (-2147483648))) ly M) ∧ (∀ c : Nat, c < n → x = nI c → (-999 ≤ y ∧ y ≤ 999) → (wi (M.1 78 c + y) = M.1 78 c → Q (some (.int (wi (M.1 78 c + y)))) ly M) ∧ (¬ wi (M.1 78 c + y) = M.1 78 c → ∀ K : Mm, K.2.2 = M.2.2 → (∀ a, a ≠ 78 → (a < 134 ∨ 137 < a) → K.1 a = M.1 a) → K.1 78 = upd (M.1 78) c (wi (M.1 78 c + y)) → K.1 134 = upd (M.1 134) 0 (nI (dN nd)) ∧ K.1 135 = dA nd (M.1 135) 3 ∧ K.1 136 = dA nd (M.1 136) (nI c) ∧ K.1 137 = dA nd (M.1 137) (M.1 78 c) → Q (some (.int (wi (M.1 78 c + y)))) ly K))) : Mt G l mX11_strike (3, 0, 0, false) [.ref 0, .int x, .int y] ly M Q := by
  have hXS0 := hXS
  obtain ⟨hX, hpl, hp7, ⟨n0, n1, n2, n3⟩, ⟨hn, hn2, hn12⟩, ⟨hw1, hw2, hw6⟩, ⟨hu1, hu2, hv1, hv2⟩, hgl, hbb⟩ := hXS
  refine Mt.of (lv := [some (.ref 0), some (.int x), some (.int y), none, none]) rfl ?_
  refine Rn.aload_n dX11_strike_0 rfl ?_
  refine Rn.iload_n dX11_strike_1 rfl ?_
  refine Rn.callV1 dX11_strike_2 vX11_159 (xc0 hX) (by decide) rfl (tX11_isCell hX hpl hp7) (by decide) ⟨(Nat.le_of_ble_eq_true rfl), (Nat.le_of_ble_eq_true rfl), (Nat.le_of_ble_eq_true rfl)⟩ (fun h => by cases h) (fun v1 ly1 M1 ⟨q1, q2, q3⟩ => ?_)
  rw [q1, q2, q3]
  refine Rn.topI (y := inN x (nI n)) (by rw [hn]) ?_
  refine Rn.if_eq dX11_strike_5 (fun g1 => ?_) (fun g1 => ?_)
  · skip
    refine Rn.ldc dX11_strike_22 kX11_164 ?_
    exact Rn.iret (ty := .int) dX11_strike_24 rfl rfl (hQ.1 (fun h => (inN_1 (x := x) (k := n) (lt31c hn12)).elim (fun k => k.2 h.1) (fun k => absurd (k.1.symm.trans g1) (by decide))))
  · skip
    obtain ⟨c, hc, rfl⟩ : ∃ j : Nat, j < n ∧ x = nI j := (inN_1 (x := x) (k := n) (lt31c hn12)).elim (fun k => absurd k.1 g1) (fun k => k.2)
    refine Rn.iload_n dX11_strike_8 rfl ?_
    refine Rn.sipushv (v := -999) dX11_strike_9 sp_m999 ?_
    refine Rn.icmp_lt dX11_strike_12 (fun g2 => ?_) (fun g2 => ?_)
    · skip
      refine Rn.ldc dX11_strike_22 kX11_164 ?_
      exact Rn.iret (ty := .int) dX11_strike_24 rfl rfl (hQ.1 (fun h => absurd g2 (Int32.not_lt.mpr h.2.1)))
    · skip
      refine Rn.iload_n dX11_strike_15 rfl ?_
      refine Rn.sipushv (v := 999) dX11_strike_16 sp_999 ?_
      refine Rn.icmp_le dX11_strike_19 (fun g3 => ?_) (fun g3 => ?_)
      · skip
        obtain ⟨hR1, hR2⟩ := hQ.2 c hc rfl ⟨Int32.not_lt.mp g2, g3⟩
        clear hQ
        refine Rn.aload_n dX11_strike_25 rfl ?_
        refine Rn.getR dX11_strike_26 fX11_39 rfl (xc0 hX) (show M.2.2 0 5 = some 75 from (xp0_5 hX)) ?_
        refine Rn.getR dX11_strike_29 fX11_165 rfl (xc75 hX) (show M.2.2 75 5 = some 76 from (xp75_5 hX)) ?_
        refine Rn.getR dX11_strike_32 fX11_174 rfl (xc76 hX) (show M.2.2 76 1 = some 78 from (xp76_1 hX)) ?_
        refine Rn.iload_n dX11_strike_35 rfl ?_
        refine Rn.ialdN (k0 := c) dX11_strike_36 (xc78 hX) (by omega) (by decide) ?_
        refine Rn.istore_n (lv' := [some (.ref 0), some (.int (nI c)), some (.int y), some (.int (M.1 78 c)), none]) dX11_strike_37 (by decide) rfl ?_
        refine Rn.iload_n dX11_strike_38 rfl ?_
        refine Rn.iload_n dX11_strike_39 rfl ?_
        refine Rn.iadd dX11_strike_40 ?_
        refine Rn.ldcw dX11_strike_41 kX11_269 ?_
        refine Rn.callS2 dX11_strike_44 vX11_270 (tX11_within) (by decide) ⟨(Nat.le_of_ble_eq_true rfl), (Nat.le_of_ble_eq_true rfl), (Nat.le_of_ble_eq_true rfl)⟩ (fun h => by cases h) (fun v1 ly1 M1 ⟨q1, q2, q3⟩ => ?_)
        rw [q1, q2, q3]
        show Rn G l mX11_strike (3, 0, 0, false) 47 [some (.ref 0), some (.int (nI c)), some (.int y), some (.int (M.1 78 c)), none] [.int (wi (M.1 78 c + y))] ly M Q
        refine Rn.istore (lv' := [some (.ref 0), some (.int (nI c)), some (.int y), some (.int (M.1 78 c)), some (.int (wi (M.1 78 c + y)))]) dX11_strike_47 (by decide) rfl ?_
        refine Rn.iload dX11_strike_49 rfl ?_
        refine Rn.iload_n dX11_strike_51 rfl ?_
        refine Rn.icmp_eq dX11_strike_52 (fun g4 => ?_) (fun g4 => ?_)
        · skip
          refine Rn.iload dX11_strike_79 rfl ?_
          exact Rn.iret (ty := .int) dX11_strike_81 rfl rfl (hR1 g4)
        · skip
          refine Rn.aload_n dX11_strike_55 rfl ?_
          refine Rn.getR dX11_strike_56 fX11_39 rfl (xc0 hX) (show M.2.2 0 5 = some 75 from (xp0_5 hX)) ?_
          refine Rn.getR dX11_strike_59 fX11_165 rfl (xc75 hX) (show M.2.2 75 5 = some 76 from (xp75_5 hX)) ?_
          refine Rn.getR dX11_strike_62 fX11_174 rfl (xc76 hX) (show M.2.2 76 1 = some 78 from (xp76_1 hX)) ?_
          refine Rn.iload_n dX11_strike_65 rfl ?_
          refine Rn.iload dX11_strike_66 rfl ?_
          refine Rn.iastN (k0 := c) dX11_strike_68 (xc78 hX) (by omega) (by decide) ?_
          refine Rn.aload_n dX11_strike_69 rfl ?_
          refine Rn.getR dX11_strike_70 fX11_66 rfl (xc0 hX) (show M.2.2 0 12 = some 134 from (xp0_12 hX)) ?_
          refine Rn.iconstv (v := 3) dX11_strike_73 ic_3 ?_
          refine Rn.iload_n dX11_strike_74 rfl ?_
          refine Rn.iload_n dX11_strike_75 rfl ?_
          have hX0 : XW ly (sI M 78 (upd (M.1 78) c (wi (M.1 78 c + y)))).2.2 := hX
          have hd0 : (sI M 78 (upd (M.1 78) c (wi (M.1 78 c + y)))).1 134 0 = nI nd := hD.1
          have e75 : (sI M 78 (upd (M.1 78) c (wi (M.1 78 c + y)))).1 78 = upd (M.1 78) c (wi (M.1 78 c + y)) := rfl
          have eo : ∀ a, a ≠ 78 → (sI M 78 (upd (M.1 78) c (wi (M.1 78 c + y)))).1 a = M.1 a := fun a h => sI_ne h
          have eR : (sI M 78 (upd (M.1 78) c (wi (M.1 78 c + y)))).2.2 = M.2.2 := rfl
          generalize (sI M 78 (upd (M.1 78) c (wi (M.1 78 c + y)))) = N0 at hX0 hd0 e75 eo eR ⊢
          have hXN0 : XW ly N0.2.2 := by rw [eR]; exact hX
          have hplN0 : N0.2.2 0 3 = some pl := by rw [eR]; exact hpl
          refine Rn.callV3 dX11_strike_76 vX11_266 (xc134 hXN0) (by decide) rfl (tDeed (Q := fun v0 ly0 M0 => v0 = none ∧ ly0 = ly ∧ M0.2.2 = N0.2.2 ∧ (∀ a, (a < 134 ∨ 137 < a) → M0.1 a = N0.1 a) ∧ M0.1 134 = upd (N0.1 134) 0 (nI (dN nd)) ∧ M0.1 135 = dA nd (N0.1 135) 3 ∧ M0.1 136 = dA nd (N0.1 136) (nI c) ∧ M0.1 137 = dA nd (N0.1 137) (M.1 78 c)) (M := N0) hXN0 hd0 hD.2 (fun K a b c d e f => ⟨rfl, rfl, a, b, c, d, e, f⟩)) (by decide) ⟨(Nat.le_of_ble_eq_true rfl), (Nat.le_of_ble_eq_true rfl), (Nat.le_of_ble_eq_true rfl)⟩ (fun h => by cases h) (fun v1 ly1 N1 ⟨q1, q2, r1, f1, d1a, d1b, d1c, d1d⟩ => ?_)
          rw [q1, q2]
          have r2 := r1.trans eR
          have hXN1 : XW ly N1.2.2 := by rw [r2]; exact hX
          have hplN1 : N1.2.2 0 3 = some pl := by rw [r2]; exact hpl
          refine Rn.iload dX11_strike_79 rfl ?_
          exact Rn.iret (ty := .int) dX11_strike_81 rfl rfl (hR2 g4 N1 r2 (fun a h1 h2 => (f1 a h2).trans (eo a h1)) ((f1 78 (by omega)).trans e75) ⟨by rw [d1a, eo 134 (by omega)], by rw [d1b, eo 135 (by omega)], by rw [d1c, eo 136 (by omega)], by rw [d1d, eo 137 (by omega)]⟩)
      · skip
        refine Rn.ldc dX11_strike_22 kX11_164 ?_
        exact Rn.iret (ty := .int) dX11_strike_24 rfl rfl (hQ.1 (fun h => g3 h.2.2))
