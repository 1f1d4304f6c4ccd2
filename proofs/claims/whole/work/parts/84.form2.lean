/-- what waits and binds at least so close is put down -/
def pdF (W : Nat → Int32) (b : Int32) : Nat → Nat → (Nat → Int32) → Nat × Nat × (Nat → Int32)
  | 0, k, e => (0, k, e)
  | w + 1, k, e => if bnd (W w) < b then (w + 1, k, e) else pdF W b w (k + 1) (upd e k (-1 - W w))
theorem pdF_le {W : Nat → Int32} {b : Int32} : ∀ (w k : Nat) (e : Nat → Int32), k ≤ (pdF W b w k e).2.1
  | 0, k, e => Nat.le_refl k
  | w + 1, k, e => by
    unfold pdF
    split
    · exact Nat.le_refl k
    · exact Nat.le_trans (Nat.le_succ k) (pdF_le w (k + 1) _)
/-- a law that is being read -/
def lwP (ly : Ly) (R : Nat → Nat → Option Nat) (q : Nat) : Prop := 7 ≤ q ∧ R 5 2 = some q ∧ ly[q]? = some (.inr 5) ∧ R q 1 = some (q + 1) ∧ ly[q + 1]? = some (.inl (0, 64))
def pdX (M K : Mm) (q : Nat) : Prop := K.2.2 = M.2.2 ∧ (∀ a, a ≠ 5 → a ≠ q → a ≠ q + 1 → K.1 a = M.1 a) ∧ (∀ j, j ≠ 4 → K.1 5 j = M.1 5 j) ∧ (∀ j, j ≠ 0 → K.1 q j = M.1 q j)
theorem tX3_putDown {G : Gx} {l : Launch} {ly : Ly} {M : Mm} {q wv k : Nat} {b : Int32} (hq : lwP ly M.2.2 q) (hwv : M.1 5 4 = nI wv ∧ wv ≤ 72) (hk : M.1 q 0 = nI k) (hfin : (pdF (M.1 6) b wv k (M.1 (q + 1))).2.1 ≤ 64) (hX : XW ly M.2.2) {Q : Qt} (hQ : ∀ K, pdX M K q → K.1 5 4 = nI (pdF (M.1 6) b wv k (M.1 (q + 1))).1 → K.1 q 0 = nI (pdF (M.1 6) b wv k (M.1 (q + 1))).2.1 → K.1 (q + 1) = (pdF (M.1 6) b wv k (M.1 (q + 1))).2.2 → Q none ly K) : Mt G l mX3_putDown (1, 0, 0, false) [.ref 5, .int b] ly M Q := by
  refine Mt.of (lv := [some (.ref 5), some (.int b)]) rfl ?_
  obtain ⟨z7, z2, z3, z4, z5⟩ := hq
  have loop : ∀ (v k2 : Nat) (KK : Mm), v ≤ 72 → pdX M KK q → KK.1 5 4 = nI v → KK.1 q 0 = nI k2 → pdF (M.1 6) b wv k (M.1 (q + 1)) = pdF (M.1 6) b v k2 (KK.1 (q + 1)) → Rn G l mX3_putDown (1, 0, 0, false) 0 [some (.ref 5), some (.int b)] [] ly KK Q := by
    intro v
    induction v with
    | zero =>
      intro k2 KK hv hF h54 hq0 hst
      have hXKK : XW ly KK.2.2 := by rw [hF.1]; exact hX
      have r2 : KK.2.2 5 2 = some q := by rw [hF.1]; exact z2
      have r4 : KK.2.2 q 1 = some (q + 1) := by rw [hF.1]; exact z4
      have e6 : KK.1 6 = M.1 6 := hF.2.1 6 (by decide) (by omega) (by omega)
      refine Rn.aload_n dX3_putDown_0 rfl ?_
      refine Rn.getI dX3_putDown_1 fX3_33 rfl (xc5 hXKK) ?_
      refine Rn.topI (y := nI 0) (h54) ?_
      refine Rn.if_le dX3_putDown_4 (fun g1 => ?_) (fun g1 => ?_)
      · skip
        rw [hst] at hQ
        exact Rn.vret dX3_putDown_56 rfl (hQ KK hF h54 hq0 rfl)
      · skip
        exact absurd (show nI 0 ≤ 0 by decide) g1
    | succ v ih =>
      intro k2 KK hv hF h54 hq0 hst
      have hXKK : XW ly KK.2.2 := by rw [hF.1]; exact hX
      have r2 : KK.2.2 5 2 = some q := by rw [hF.1]; exact z2
      have r4 : KK.2.2 q 1 = some (q + 1) := by rw [hF.1]; exact z4
      have e6 : KK.1 6 = M.1 6 := hF.2.1 6 (by decide) (by omega) (by omega)
      refine Rn.aload_n dX3_putDown_0 rfl ?_
      refine Rn.getI dX3_putDown_1 fX3_33 rfl (xc5 hXKK) ?_
      refine Rn.topI (y := nI (v + 1)) (h54) ?_
      refine Rn.if_le dX3_putDown_4 (fun g1 => ?_) (fun g1 => ?_)
      · skip
        exact absurd ((nI_leI (a := v + 1) (b := 0) (by omega) (by decide)).mp g1) (by omega)
      · skip
        refine Rn.aload_n dX3_putDown_7 rfl ?_
        refine Rn.getR dX3_putDown_8 fX3_9 rfl (xc5 hXKK) (show KK.2.2 5 3 = some 6 from (xp5_3 hXKK)) ?_
        refine Rn.aload_n dX3_putDown_11 rfl ?_
        refine Rn.getI dX3_putDown_12 fX3_33 rfl (xc5 hXKK) ?_
        refine Rn.topI (y := nI (v + 1)) (h54) ?_
        refine Rn.iconstv (v := 1) dX3_putDown_15 ic_1 ?_
        refine Rn.isub dX3_putDown_16 ?_
        refine Rn.topI (y := nI v) (nI_subk v 1) ?_
        refine Rn.ialdN (k0 := v) dX3_putDown_17 (xc6 hXKK) (by omega) (by decide) ?_
        refine Rn.topI (y := M.1 6 v) (congrFun e6 v) ?_
        refine Rn.callS1 dX3_putDown_18 vX3_92 (tX3_bindingOf) (by decide) ⟨(Nat.le_of_ble_eq_true rfl), (Nat.le_of_ble_eq_true rfl), (Nat.le_of_ble_eq_true rfl)⟩ (fun h => by cases h) (fun v1 ly1 M1 ⟨q1, q2, q3⟩ => ?_)
        rw [q1, q2, q3]
        refine Rn.iload_n dX3_putDown_21 rfl ?_
        refine Rn.icmp_lt dX3_putDown_22 (fun g2 => ?_) (fun g2 => ?_)
        · skip
          rw [hst, (show pdF (M.1 6) b (v + 1) k2 (KK.1 (q + 1)) = if bnd (M.1 6 v) < b then (v + 1, k2, KK.1 (q + 1)) else pdF (M.1 6) b v (k2 + 1) (upd (KK.1 (q + 1)) k2 (-1 - M.1 6 v)) from rfl), if_pos g2] at hQ
          exact Rn.vret dX3_putDown_56 rfl (hQ KK hF h54 hq0 rfl)
        · skip
          rw [(show pdF (M.1 6) b (v + 1) k2 (KK.1 (q + 1)) = if bnd (M.1 6 v) < b then (v + 1, k2, KK.1 (q + 1)) else pdF (M.1 6) b v (k2 + 1) (upd (KK.1 (q + 1)) k2 (-1 - M.1 6 v)) from rfl), if_neg g2] at hst
          have h64 : k2 < 64 := by have h8 := pdF_le (W := M.1 6) (b := b) v (k2 + 1) (upd (KK.1 (q + 1)) k2 (-1 - M.1 6 v)); rw [hst] at hfin; omega
          refine Rn.aload_n dX3_putDown_25 rfl ?_
          refine Rn.dup dX3_putDown_26 rfl ?_
          refine Rn.getI dX3_putDown_27 fX3_33 rfl (xc5 hXKK) ?_
          refine Rn.topI (y := nI (v + 1)) (h54) ?_
          refine Rn.iconstv (v := 1) dX3_putDown_30 ic_1 ?_
          refine Rn.isub dX3_putDown_31 ?_
          refine Rn.topI (y := nI v) (nI_subk v 1) ?_
          refine Rn.putI dX3_putDown_32 fX3_33 rfl rfl rfl (xc5 hXKK) ?_
          refine Rn.aload_n dX3_putDown_35 rfl ?_
          refine Rn.getR dX3_putDown_36 fX3_23 rfl (xc5 hXKK) (show KK.2.2 5 2 = some q from r2) ?_
          refine Rn.iconstv (v := -1) dX3_putDown_39 ic_m1 ?_
          refine Rn.aload_n dX3_putDown_40 rfl ?_
          refine Rn.getR dX3_putDown_41 fX3_9 rfl (xc5 hXKK) (show KK.2.2 5 3 = some 6 from (xp5_3 hXKK)) ?_
          refine Rn.aload_n dX3_putDown_44 rfl ?_
          refine Rn.getI dX3_putDown_45 fX3_33 rfl (xc5 hXKK) ?_
          refine Rn.ialdN (k0 := v) dX3_putDown_48 (xc6 hXKK) (by omega) (by decide) ?_
          refine Rn.topI (y := M.1 6 v) (congrFun e6 v) ?_
          refine Rn.isub dX3_putDown_49 ?_
          refine Rn.callV1 dX3_putDown_50 vX3_83 z3 (by decide) rfl (tX5_addKnot (M := sI KK 5 (upd (KK.1 5) 4 (nI v))) (q := q) (k := k2) (Q := fun v0 ly0 K => v0 = none ∧ ly0 = ly ∧ K = sI (sI (sI KK 5 (upd (KK.1 5) 4 (nI v))) (q + 1) (upd (KK.1 (q + 1)) k2 (-1 - M.1 6 v))) q (upd (KK.1 q) 0 (nI (k2 + 1)))) z3 r4 z5 ⟨(congrFun (sI_ne (show q ≠ 5 by omega)) 0).trans hq0, h64⟩ ⟨rfl, rfl, by rw [sI_ne (show q ≠ 5 by omega), sI_ne (show q + 1 ≠ 5 by omega)]⟩) (by decide) ⟨(Nat.le_of_ble_eq_true rfl), (Nat.le_of_ble_eq_true rfl), (Nat.le_of_ble_eq_true rfl)⟩ (fun h => by cases h) (fun v1 ly1 N1 ⟨t1, t2, t3⟩ => ?_)
          rw [t1, t2]
          have f5 : N1.1 5 = upd (KK.1 5) 4 (nI v) := by rw [t3, sI_ne (by omega), sI_ne (by omega)]; exact sI_at _ _ _
          have fq : N1.1 q = upd (KK.1 q) 0 (nI (k2 + 1)) := by rw [t3]; exact sI_at _ _ _
          have fq1 : N1.1 (q + 1) = upd (KK.1 (q + 1)) k2 (-1 - M.1 6 v) := by rw [t3, sI_ne (by omega)]; exact sI_at _ _ _
          have fo : ∀ a, a ≠ 5 → a ≠ q → a ≠ q + 1 → N1.1 a = KK.1 a := fun a a1 a2 a3 => by rw [t3, sI_ne a2, sI_ne a3, sI_ne a1]
          have fr : N1.2.2 = KK.2.2 := by rw [t3]; rfl
          clear t3
          refine Rn.goto dX3_putDown_53 ?_
          exact ih (k2 + 1) N1 (by omega) ⟨fr.trans hF.1, fun a a1 a2 a3 => (fo a a1 a2 a3).trans (hF.2.1 a a1 a2 a3), fun j hj => by rw [f5, pk_un hj]; exact hF.2.2.1 j hj, fun j hj => by rw [fq, pk_un hj]; exact hF.2.2.2 j hj⟩ (by rw [f5]; exact pk_us) (by rw [fq]; exact pk_us) (by rw [hst, fq1])
  exact loop wv k M hwv.2 ⟨rfl, fun _ _ _ _ => rfl, fun _ _ => rfl, fun _ _ => rfl⟩ hwv.1 hk rfl
