def iFats (ly : Ly) (M : Mm) (a : Nat) : Prop := ly[a]? = some (.inr 2) ∧ ly[a + 1]? = some (.inl (0, 8)) ∧ ly[a + 2]? = some (.inl (0, 8)) ∧ M.2.2 a 1 = some (a + 1) ∧ M.2.2 a 2 = some (a + 2)
theorem tX2_add {G : Gx} {l : Launch} {ly : Ly} {M : Mm} {a k : Nat} {x y : Int32} (hS : iFats ly M a) (hk : M.1 a 0 = nI k) (hk8 : k < 8) : Mt G l mX2_add (1, 0, 0, false) [.ref a, .int x, .int y] ly M (Is none ly (sI (sI (sI M (a + 1) (upd (M.1 (a + 1)) k x)) (a + 2) (upd (M.1 (a + 2)) k y)) a (upd (M.1 a) 0 (nI (k + 1))))) := by
  obtain ⟨h0, h1, h2, p0, p1⟩ := hS
  refine Mt.is (fun Q hQ => ?_)
  refine Mt.of (lv := [some (.ref a), some (.int x), some (.int y)]) rfl ?_
  refine Rn.aload_n dX2_add_0 rfl ?_
  refine Rn.getI dX2_add_1 fX2_18 rfl h0 ?_
  refine Rn.topI (y := nI k) (hk) ?_
  refine Rn.bipushv (v := 8) dX2_add_4 bp_8 ?_
  refine Rn.icmp_ge dX2_add_6 (fun hc => ?_) (fun hc => ?_)
  · exact absurd hc (nI_ge (b := 8) (by omega) (by omega))
  · skip
    refine Rn.aload_n dX2_add_9 rfl ?_
    refine Rn.getR dX2_add_10 fX2_9 rfl h0 p0 ?_
    refine Rn.aload_n dX2_add_13 rfl ?_
    refine Rn.getI dX2_add_14 fX2_18 rfl h0 ?_
    refine Rn.topI (y := nI k) (hk) ?_
    refine Rn.iload_n dX2_add_17 rfl ?_
    refine Rn.iastN (k0 := k) dX2_add_18 h1 (by omega) (by decide) ?_
    refine Rn.aload_n dX2_add_19 rfl ?_
    refine Rn.getR dX2_add_20 fX2_15 rfl h0 p1 ?_
    refine Rn.aload_n dX2_add_23 rfl ?_
    refine Rn.getI dX2_add_24 fX2_18 rfl h0 ?_
    refine Rn.topI (y := M.1 a 0) ((congrFun (sI_ne (show a ≠ a + 1 by omega)) 0)) ?_
    refine Rn.topI (y := nI k) (hk) ?_
    refine Rn.iload_n dX2_add_27 rfl ?_
    refine Rn.iastN (k0 := k) dX2_add_28 h2 (by omega) (by decide) ?_
    refine Rn.meq (M2 := sI (sI M (a + 1) (upd (M.1 (a + 1)) k x)) (a + 2) (upd (M.1 (a + 2)) k y)) (congrArg (fun r9 => sI (sI M (a + 1) (upd (M.1 (a + 1)) k x)) (a + 2) (upd r9 k y)) (sI_ne (show a + 2 ≠ a + 1 by omega))) ?_
    refine Rn.aload_n dX2_add_29 rfl ?_
    refine Rn.dup dX2_add_30 rfl ?_
    refine Rn.getI dX2_add_31 fX2_18 rfl h0 ?_
    refine Rn.topI (y := M.1 a 0) ((congrFun ((sI_ne (show a ≠ a + 2 by omega)).trans (sI_ne (show a ≠ a + 1 by omega))) 0)) ?_
    refine Rn.topI (y := nI k) (hk) ?_
    refine Rn.iconstv (v := 1) dX2_add_34 ic_1 ?_
    refine Rn.iadd dX2_add_35 ?_
    refine Rn.topI (y := nI (k + 1)) ((nI_succ k).symm) ?_
    refine Rn.putI dX2_add_36 fX2_18 rfl rfl rfl h0 ?_
    refine Rn.meq (M2 := sI (sI (sI M (a + 1) (upd (M.1 (a + 1)) k x)) (a + 2) (upd (M.1 (a + 2)) k y)) a (upd (M.1 a) 0 (nI (k + 1)))) (congrArg (fun r9 => sI (sI (sI M (a + 1) (upd (M.1 (a + 1)) k x)) (a + 2) (upd (M.1 (a + 2)) k y)) a (upd r9 0 (nI (k + 1)))) ((sI_ne (show a ≠ a + 2 by omega)).trans (sI_ne (show a ≠ a + 1 by omega)))) ?_
    exact Rn.vret dX2_add_39 rfl hQ
theorem tX2_addFull {G : Gx} {l : Launch} {ly : Ly} {M : Mm} {a : Nat} {x y : Int32} (hS : iFats ly M a) (hk : M.1 a 0 = nI 8) : Mt G l mX2_add (1, 0, 0, false) [.ref a, .int x, .int y] ly M (Is none ly M) := by
  obtain ⟨h0, h1, h2, p0, p1⟩ := hS
  refine Mt.is (fun Q hQ => ?_)
  refine Mt.of (lv := [some (.ref a), some (.int x), some (.int y)]) rfl ?_
  refine Rn.aload_n dX2_add_0 rfl ?_
  refine Rn.getI dX2_add_1 fX2_18 rfl h0 ?_
  refine Rn.topI (y := nI 8) (hk) ?_
  refine Rn.bipushv (v := 8) dX2_add_4 bp_8 ?_
  refine Rn.icmp_ge dX2_add_6 (fun hc => ?_) (fun hc => ?_)
  · skip
    exact Rn.vret dX2_add_39 rfl hQ
  · exact absurd (by decide) hc
/-- is one of the first n the value x? -/
def isIn (f : Nat → Int32) (x : Int32) : Nat → Int32
  | 0 => 0
  | n + 1 => if f n = x then 1 else isIn f x n
def hasIt (f : Nat → Int32) (x : Int32) (n : Nat) : Prop := ∃ j, j < n ∧ f j = x
theorem tX2_standsAt {G : Gx} {l : Launch} {ly : Ly} {M : Mm} {a n : Nat} {x v : Int32} (hS : iFats ly M a) (hk : M.1 a 0 = nI n) (hn : n ≤ 8) (hv : (hasIt (M.1 (a + 1)) x n ∧ v = 1) ∨ (¬ hasIt (M.1 (a + 1)) x n ∧ v = 0)) : Mt G l mX2_standsAt (1, 0, 0, false) [.ref a, .int x] ly M (Is (some (.int v)) ly M) := by
  obtain ⟨h0, h1, h2, p0, p1⟩ := hS
  refine Mt.is (fun Q hQ => ?_)
  refine Mt.of (lv := [some (.ref a), some (.int x), none]) rfl ?_
  refine Rn.iconstv (v := 0) dX2_standsAt_0 ic_0 ?_
  refine Rn.istore_n (lv' := [some (.ref a), some (.int x), some (.int 0)]) dX2_standsAt_1 (by decide) rfl ?_
  have loop : ∀ (k i : Nat) , i + k = n → (∀ j, j < i → ¬ M.1 (a + 1) j = x) → Rn G l mX2_standsAt (1, 0, 0, false) 2 [some (.ref a), some (.int x), some (.int (nI i))] [] ly M Q := by
    intro k
    induction k with
    | zero =>
      intro i  hi hno
      refine Rn.iload_n dX2_standsAt_2 rfl ?_
      refine Rn.aload_n dX2_standsAt_3 rfl ?_
      refine Rn.getI dX2_standsAt_4 fX2_18 rfl h0 ?_
      refine Rn.topI (y := nI n) (hk) ?_
      refine Rn.icmp_ge dX2_standsAt_7 (fun hc => ?_) (fun hc => ?_)
      · skip
        have hi : i = n := by omega
        subst hi
        rcases hv with ⟨⟨j, hj, hx⟩, -⟩ | ⟨-, rfl⟩
        · exact absurd hx (hno j hj)
        · skip
          refine Rn.iconstv (v := 0) dX2_standsAt_28 ic_0 ?_
          exact Rn.iret (ty := .boolean) dX2_standsAt_29 rfl rfl hQ
      · exact absurd (nI_le (a := n) (b := i) (by omega) (by omega)) hc
    | succ k ih =>
      intro i  hi hno
      refine Rn.iload_n dX2_standsAt_2 rfl ?_
      refine Rn.aload_n dX2_standsAt_3 rfl ?_
      refine Rn.getI dX2_standsAt_4 fX2_18 rfl h0 ?_
      refine Rn.topI (y := nI n) (hk) ?_
      refine Rn.icmp_ge dX2_standsAt_7 (fun hc => ?_) (fun hc => ?_)
      · exact absurd hc (nI_ge (a := i) (b := n) (by omega) (by omega))
      · skip
        refine Rn.aload_n dX2_standsAt_10 rfl ?_
        refine Rn.getR dX2_standsAt_11 fX2_9 rfl h0 p0 ?_
        refine Rn.iload_n dX2_standsAt_14 rfl ?_
        refine Rn.ialdN (k0 := i) dX2_standsAt_15 h1 (by omega) (by decide) ?_
        refine Rn.iload_n dX2_standsAt_16 rfl ?_
        refine Rn.icmp_ne dX2_standsAt_17 (fun hx => ?_) (fun hx => ?_)
        · skip
          refine Rn.iincN (lv' := [some (.ref a), some (.int x), some (.int (nI (i + 1)))]) dX2_standsAt_22 rfl (by decide) rfl ?_
          refine Rn.goto dX2_standsAt_25 ?_
          exact ih (i + 1) (by omega) (lt_s hno hx)
        · skip
          rcases hv with ⟨-, rfl⟩ | ⟨hh, -⟩
          · skip
            refine Rn.iconstv (v := 1) dX2_standsAt_20 ic_1 ?_
            exact Rn.iret (ty := .boolean) dX2_standsAt_21 rfl rfl hQ
          · exact absurd ⟨i, by omega, hx⟩ hh
  exact loop n 0 (by omega) lt_0
theorem tX2_copy {G : Gx} {l : Launch} {ly : Ly} {M : Mm} {a c : Nat} (hS : iFats ly M a) (hT : iFats ly M c) (hac : a + 2 < c ∨ c + 2 < a) : Mt G l mX2_copy (1, 0, 0, false) [.ref a, .ref c] ly M (Is none ly (sI (sI (sI M a (upd (M.1 a) 0 (M.1 c 0))) (a + 1) (pre 8 (M.1 (c + 1)) (M.1 (a + 1)))) (a + 2) (pre 8 (M.1 (c + 2)) (M.1 (a + 2))))) := by
  obtain ⟨h0, h1, h2, p0, p1⟩ := hS
  obtain ⟨i0, i1, i2, r0, r1⟩ := hT
  refine Mt.is (fun Q hQ => ?_)
  refine Mt.of (lv := [some (.ref a), some (.ref c)]) rfl ?_
  refine Rn.aload_n dX2_copy_0 rfl ?_
  refine Rn.aload_n dX2_copy_1 rfl ?_
  refine Rn.getI dX2_copy_2 fX2_18 rfl i0 ?_
  refine Rn.putI dX2_copy_5 fX2_18 rfl rfl rfl h0 ?_
  refine Rn.aload_n dX2_copy_8 rfl ?_
  refine Rn.getR dX2_copy_9 fX2_9 rfl i0 r0 ?_
  refine Rn.iconstv (v := 0) dX2_copy_12 ic_0 ?_
  refine Rn.aload_n dX2_copy_13 rfl ?_
  refine Rn.getR dX2_copy_14 fX2_9 rfl h0 p0 ?_
  refine Rn.iconstv (v := 0) dX2_copy_17 ic_0 ?_
  refine Rn.bipushv (v := 8) dX2_copy_18 bp_8 ?_
  refine Rn.copy dX2_copy_20 jX2_22 jw_copy i1 h1 (by decide) (by decide) (by decide) (by decide) (by decide) ⟨(Nat.le_of_ble_eq_true rfl), (Nat.le_of_ble_eq_true rfl)⟩ ?_
  refine Rn.meq (M2 := sI (sI M a (upd (M.1 a) 0 (M.1 c 0))) (a + 1) (pre 8 (M.1 (c + 1)) (M.1 (a + 1)))) (congrArg (fun r9 => sI (sI M a (upd (M.1 a) 0 (M.1 c 0))) (a + 1) r9) ((congr (congrArg (fun u v => va_cpy u v 0 0 8) (sI_ne (show c + 1 ≠ a by omega))) (sI_ne (show a + 1 ≠ a by omega))).trans (cpy_pre 8 (M.1 (c + 1)) (M.1 (a + 1))))) ?_
  refine Rn.aload_n dX2_copy_23 rfl ?_
  refine Rn.getR dX2_copy_24 fX2_15 rfl i0 r1 ?_
  refine Rn.iconstv (v := 0) dX2_copy_27 ic_0 ?_
  refine Rn.aload_n dX2_copy_28 rfl ?_
  refine Rn.getR dX2_copy_29 fX2_15 rfl h0 p1 ?_
  refine Rn.iconstv (v := 0) dX2_copy_32 ic_0 ?_
  refine Rn.bipushv (v := 8) dX2_copy_33 bp_8 ?_
  refine Rn.copy dX2_copy_35 jX2_22 jw_copy i2 h2 (by decide) (by decide) (by decide) (by decide) (by decide) ⟨(Nat.le_of_ble_eq_true rfl), (Nat.le_of_ble_eq_true rfl)⟩ ?_
  refine Rn.meq (M2 := sI (sI (sI M a (upd (M.1 a) 0 (M.1 c 0))) (a + 1) (pre 8 (M.1 (c + 1)) (M.1 (a + 1)))) (a + 2) (pre 8 (M.1 (c + 2)) (M.1 (a + 2)))) (congrArg (fun r9 => sI (sI (sI M a (upd (M.1 a) 0 (M.1 c 0))) (a + 1) (pre 8 (M.1 (c + 1)) (M.1 (a + 1)))) (a + 2) r9) ((congr (congrArg (fun u v => va_cpy u v 0 0 8) ((sI_ne (show c + 2 ≠ a + 1 by omega)).trans (sI_ne (show c + 2 ≠ a by omega)))) ((sI_ne (show a + 2 ≠ a + 1 by omega)).trans (sI_ne (show a + 2 ≠ a by omega)))).trans (cpy_pre 8 (M.1 (c + 2)) (M.1 (a + 2))))) ?_
  exact Rn.vret dX2_copy_38 rfl hQ
def iCrowd (ly : Ly) (M : Mm) (a : Nat) : Prop := ly[a]? = some (.inr 0) ∧ ly[a + 1]? = some (.inl (0, 6)) ∧ ly[a + 2]? = some (.inl (0, 6)) ∧ ly[a + 3]? = some (.inl (0, 6)) ∧ ly[a + 4]? = some (.inl (0, 6)) ∧ ly[a + 5]? = some (.inl (0, 6)) ∧ M.2.2 a 1 = some (a + 1) ∧ M.2.2 a 2 = some (a + 2) ∧ M.2.2 a 3 = some (a + 3) ∧ M.2.2 a 4 = some (a + 4) ∧ M.2.2 a 5 = some (a + 5)
theorem tX0_add {G : Gx} {l : Launch} {ly : Ly} {M : Mm} {a k : Nat} {x1 x2 x3 x4 x5 : Int32} (hS : iCrowd ly M a) (hk : M.1 a 0 = nI k) (hk6 : k < 6) : Mt G l mX0_add (1, 0, 0, false) [.ref a, .int x1, .int x2, .int x3, .int x4, .int x5] ly M (Is none ly (sI (sI (sI (sI (sI (sI (M) (a + 1) (upd (M.1 (a + 1)) k x1)) (a + 2) (upd (M.1 (a + 2)) k x2)) (a + 3) (upd (M.1 (a + 3)) k x3)) (a + 4) (upd (M.1 (a + 4)) k x4)) (a + 5) (upd (M.1 (a + 5)) k x5)) a (upd (M.1 a) 0 (nI (k + 1))))) := by
  obtain ⟨h0, h1, h2, h3, h4, h5, p0, p1, p2, p3, p4⟩ := hS
  refine Mt.is (fun Q hQ => ?_)
  refine Mt.of (lv := [some (.ref a), some (.int x1), some (.int x2), some (.int x3), some (.int x4), some (.int x5)]) rfl ?_
  refine Rn.aload_n dX0_add_0 rfl ?_
  refine Rn.getI dX0_add_1 fX0_27 rfl h0 ?_
  refine Rn.topI (y := nI k) (hk) ?_
  refine Rn.bipushv (v := 6) dX0_add_4 bp_6 ?_
  refine Rn.icmp_ge dX0_add_6 (fun hc => ?_) (fun hc => ?_)
  · exact absurd hc (nI_ge (b := 6) (by omega) (by omega))
  · skip
    refine Rn.aload_n dX0_add_9 rfl ?_
    refine Rn.getR dX0_add_10 fX0_9 rfl h0 p0 ?_
    refine Rn.aload_n dX0_add_13 rfl ?_
    refine Rn.getI dX0_add_14 fX0_27 rfl h0 ?_
    refine Rn.topI (y := nI k) (hk) ?_
    refine Rn.iload_n dX0_add_17 rfl ?_
    refine Rn.iastN (k0 := k) dX0_add_18 h1 (by omega) (by decide) ?_
    refine Rn.aload_n dX0_add_19 rfl ?_
    refine Rn.getR dX0_add_20 fX0_15 rfl h0 p1 ?_
    refine Rn.aload_n dX0_add_23 rfl ?_
    refine Rn.getI dX0_add_24 fX0_27 rfl h0 ?_
    refine Rn.topI (y := M.1 a 0) ((congrFun (sI_ne (show a ≠ a + 1 by omega)) 0)) ?_
    refine Rn.topI (y := nI k) (hk) ?_
    refine Rn.iload_n dX0_add_27 rfl ?_
    refine Rn.iastN (k0 := k) dX0_add_28 h2 (by omega) (by decide) ?_
    refine Rn.meq (M2 := sI (sI M (a + 1) (upd (M.1 (a + 1)) k x1)) (a + 2) (upd (M.1 (a + 2)) k x2)) (congrArg (fun r9 => sI (sI M (a + 1) (upd (M.1 (a + 1)) k x1)) (a + 2) (upd r9 k x2)) (sI_ne (show a + 2 ≠ a + 1 by omega))) ?_
    refine Rn.aload_n dX0_add_29 rfl ?_
    refine Rn.getR dX0_add_30 fX0_18 rfl h0 p2 ?_
    refine Rn.aload_n dX0_add_33 rfl ?_
    refine Rn.getI dX0_add_34 fX0_27 rfl h0 ?_
    refine Rn.topI (y := M.1 a 0) ((congrFun ((sI_ne (show a ≠ a + 2 by omega)).trans (sI_ne (show a ≠ a + 1 by omega))) 0)) ?_
    refine Rn.topI (y := nI k) (hk) ?_
    refine Rn.iload_n dX0_add_37 rfl ?_
    refine Rn.iastN (k0 := k) dX0_add_38 h3 (by omega) (by decide) ?_
    refine Rn.meq (M2 := sI (sI (sI M (a + 1) (upd (M.1 (a + 1)) k x1)) (a + 2) (upd (M.1 (a + 2)) k x2)) (a + 3) (upd (M.1 (a + 3)) k x3)) (congrArg (fun r9 => sI (sI (sI M (a + 1) (upd (M.1 (a + 1)) k x1)) (a + 2) (upd (M.1 (a + 2)) k x2)) (a + 3) (upd r9 k x3)) ((sI_ne (show a + 3 ≠ a + 2 by omega)).trans (sI_ne (show a + 3 ≠ a + 1 by omega)))) ?_
    refine Rn.aload_n dX0_add_39 rfl ?_
    refine Rn.getR dX0_add_40 fX0_21 rfl h0 p3 ?_
    refine Rn.aload_n dX0_add_43 rfl ?_
    refine Rn.getI dX0_add_44 fX0_27 rfl h0 ?_
    refine Rn.topI (y := M.1 a 0) ((congrFun ((sI_ne (show a ≠ a + 3 by omega)).trans ((sI_ne (show a ≠ a + 2 by omega)).trans (sI_ne (show a ≠ a + 1 by omega)))) 0)) ?_
    refine Rn.topI (y := nI k) (hk) ?_
    refine Rn.iload dX0_add_47 rfl ?_
    refine Rn.iastN (k0 := k) dX0_add_49 h4 (by omega) (by decide) ?_
    refine Rn.meq (M2 := sI (sI (sI (sI M (a + 1) (upd (M.1 (a + 1)) k x1)) (a + 2) (upd (M.1 (a + 2)) k x2)) (a + 3) (upd (M.1 (a + 3)) k x3)) (a + 4) (upd (M.1 (a + 4)) k x4)) (congrArg (fun r9 => sI (sI (sI (sI M (a + 1) (upd (M.1 (a + 1)) k x1)) (a + 2) (upd (M.1 (a + 2)) k x2)) (a + 3) (upd (M.1 (a + 3)) k x3)) (a + 4) (upd r9 k x4)) ((sI_ne (show a + 4 ≠ a + 3 by omega)).trans ((sI_ne (show a + 4 ≠ a + 2 by omega)).trans (sI_ne (show a + 4 ≠ a + 1 by omega))))) ?_
    refine Rn.aload_n dX0_add_50 rfl ?_
    refine Rn.getR dX0_add_51 fX0_24 rfl h0 p4 ?_
    refine Rn.aload_n dX0_add_54 rfl ?_
    refine Rn.getI dX0_add_55 fX0_27 rfl h0 ?_
    refine Rn.topI (y := M.1 a 0) ((congrFun ((sI_ne (show a ≠ a + 4 by omega)).trans ((sI_ne (show a ≠ a + 3 by omega)).trans ((sI_ne (show a ≠ a + 2 by omega)).trans (sI_ne (show a ≠ a + 1 by omega))))) 0)) ?_
    refine Rn.topI (y := nI k) (hk) ?_
    refine Rn.iload dX0_add_58 rfl ?_
    refine Rn.iastN (k0 := k) dX0_add_60 h5 (by omega) (by decide) ?_
    refine Rn.meq (M2 := sI (sI (sI (sI (sI M (a + 1) (upd (M.1 (a + 1)) k x1)) (a + 2) (upd (M.1 (a + 2)) k x2)) (a + 3) (upd (M.1 (a + 3)) k x3)) (a + 4) (upd (M.1 (a + 4)) k x4)) (a + 5) (upd (M.1 (a + 5)) k x5)) (congrArg (fun r9 => sI (sI (sI (sI (sI M (a + 1) (upd (M.1 (a + 1)) k x1)) (a + 2) (upd (M.1 (a + 2)) k x2)) (a + 3) (upd (M.1 (a + 3)) k x3)) (a + 4) (upd (M.1 (a + 4)) k x4)) (a + 5) (upd r9 k x5)) ((sI_ne (show a + 5 ≠ a + 4 by omega)).trans ((sI_ne (show a + 5 ≠ a + 3 by omega)).trans ((sI_ne (show a + 5 ≠ a + 2 by omega)).trans (sI_ne (show a + 5 ≠ a + 1 by omega)))))) ?_
    refine Rn.aload_n dX0_add_61 rfl ?_
    refine Rn.dup dX0_add_62 rfl ?_
    refine Rn.getI dX0_add_63 fX0_27 rfl h0 ?_
    refine Rn.topI (y := M.1 a 0) ((congrFun ((sI_ne (show a ≠ a + 5 by omega)).trans ((sI_ne (show a ≠ a + 4 by omega)).trans ((sI_ne (show a ≠ a + 3 by omega)).trans ((sI_ne (show a ≠ a + 2 by omega)).trans (sI_ne (show a ≠ a + 1 by omega)))))) 0)) ?_
    refine Rn.topI (y := nI k) (hk) ?_
    refine Rn.iconstv (v := 1) dX0_add_66 ic_1 ?_
    refine Rn.iadd dX0_add_67 ?_
    refine Rn.topI (y := nI (k + 1)) ((nI_succ k).symm) ?_
    refine Rn.putI dX0_add_68 fX0_27 rfl rfl rfl h0 ?_
    refine Rn.meq (M2 := sI (sI (sI (sI (sI (sI M (a + 1) (upd (M.1 (a + 1)) k x1)) (a + 2) (upd (M.1 (a + 2)) k x2)) (a + 3) (upd (M.1 (a + 3)) k x3)) (a + 4) (upd (M.1 (a + 4)) k x4)) (a + 5) (upd (M.1 (a + 5)) k x5)) a (upd (M.1 a) 0 (nI (k + 1)))) (congrArg (fun r9 => sI (sI (sI (sI (sI (sI M (a + 1) (upd (M.1 (a + 1)) k x1)) (a + 2) (upd (M.1 (a + 2)) k x2)) (a + 3) (upd (M.1 (a + 3)) k x3)) (a + 4) (upd (M.1 (a + 4)) k x4)) (a + 5) (upd (M.1 (a + 5)) k x5)) a (upd r9 0 (nI (k + 1)))) ((sI_ne (show a ≠ a + 5 by omega)).trans ((sI_ne (show a ≠ a + 4 by omega)).trans ((sI_ne (show a ≠ a + 3 by omega)).trans ((sI_ne (show a ≠ a + 2 by omega)).trans (sI_ne (show a ≠ a + 1 by omega))))))) ?_
    exact Rn.vret dX0_add_71 rfl hQ
/-- is it a step's time? -/
def stpAt (t f b : Int32) : Int32 := if t - f < 0 then 0 else if b ≤ 0 then 0 else if (t - f) - (t - f) / b * b = 0 then 1 else 0
theorem tX0_stepsAt {G : Gx} {l : Launch} {ly : Ly} {M : Mm} {a w : Nat} {t : Int32} (hS : iCrowd ly M a) (hw : w < 6) : Mt G l mX0_stepsAt (1, 0, 0, false) [.ref a, .int (nI w), .int t] ly M (Is (some (.int (stpAt t (M.1 (a + 3) w) (M.1 (a + 2) w)))) ly M) := by
  obtain ⟨h0, h1, h2, h3, h4, h5, p0, p1, p2, p3, p4⟩ := hS
  refine Mt.is (fun Q hQ => ?_)
  refine Mt.of (lv := [some (.ref a), some (.int (nI w)), some (.int t), none]) rfl ?_
  refine Rn.iload_n dX0_stepsAt_0 rfl ?_
  refine Rn.aload_n dX0_stepsAt_1 rfl ?_
  refine Rn.getR dX0_stepsAt_2 fX0_18 rfl h0 p2 ?_
  refine Rn.iload_n dX0_stepsAt_5 rfl ?_
  refine Rn.ialdN (k0 := w) dX0_stepsAt_6 h3 (by omega) (by decide) ?_
  refine Rn.isub dX0_stepsAt_7 ?_
  refine Rn.istore_n (lv' := [some (.ref a), some (.int (nI w)), some (.int t), some (.int (t - (M.1 (a + 3) w)))]) dX0_stepsAt_8 (by decide) rfl ?_
  refine Rn.iload_n dX0_stepsAt_9 rfl ?_
  refine Rn.if_lt dX0_stepsAt_10 (fun h10 => ?_) (fun h10 => ?_)
  · skip
    refine Rn.iconstv (v := 0) dX0_stepsAt_37 ic_0 ?_
    have hv : stpAt t (M.1 (a + 3) w) (M.1 (a + 2) w) = 0 := by simp only [stpAt, h10, ↓reduceIte]
    rw [hv] at hQ
    exact Rn.iret (ty := .boolean) dX0_stepsAt_38 rfl rfl hQ
  · skip
    refine Rn.aload_n dX0_stepsAt_13 rfl ?_
    refine Rn.getR dX0_stepsAt_14 fX0_15 rfl h0 p1 ?_
    refine Rn.iload_n dX0_stepsAt_17 rfl ?_
    refine Rn.ialdN (k0 := w) dX0_stepsAt_18 h2 (by omega) (by decide) ?_
    refine Rn.if_le dX0_stepsAt_19 (fun h19 => ?_) (fun h19 => ?_)
    · skip
      refine Rn.iconstv (v := 0) dX0_stepsAt_37 ic_0 ?_
      have hv : stpAt t (M.1 (a + 3) w) (M.1 (a + 2) w) = 0 := by simp only [stpAt, h10, h19, ↓reduceIte]
      rw [hv] at hQ
      exact Rn.iret (ty := .boolean) dX0_stepsAt_38 rfl rfl hQ
    · skip
      refine Rn.iload_n dX0_stepsAt_22 rfl ?_
      refine Rn.aload_n dX0_stepsAt_23 rfl ?_
      refine Rn.getR dX0_stepsAt_24 fX0_15 rfl h0 p1 ?_
      refine Rn.iload_n dX0_stepsAt_27 rfl ?_
      refine Rn.ialdN (k0 := w) dX0_stepsAt_28 h2 (by omega) (by decide) ?_
      refine Rn.irem dX0_stepsAt_29 (fun z => h19 (by rw [z]; decide)) ?_
      refine Rn.if_ne dX0_stepsAt_30 (fun h30 => ?_) (fun h30 => ?_)
      · skip
        refine Rn.iconstv (v := 0) dX0_stepsAt_37 ic_0 ?_
        have hv : stpAt t (M.1 (a + 3) w) (M.1 (a + 2) w) = 0 := by simp only [stpAt, h10, h19, h30, ↓reduceIte]
        rw [hv] at hQ
        exact Rn.iret (ty := .boolean) dX0_stepsAt_38 rfl rfl hQ
      · skip
        refine Rn.iconstv (v := 1) dX0_stepsAt_33 ic_1 ?_
        refine Rn.goto dX0_stepsAt_34 ?_
        have hv : stpAt t (M.1 (a + 3) w) (M.1 (a + 2) w) = 1 := by simp only [stpAt, h10, h19, h30, ↓reduceIte]
        rw [hv] at hQ
        exact Rn.iret (ty := .boolean) dX0_stepsAt_38 rfl rfl hQ
def fstC (wy sy n : Int32) : Int32 := if wy = 0 then sy else if wy ≤ 0 then n - 1 else 0
theorem tX0_firstCell {G : Gx} {l : Launch} {ly : Ly} {M : Mm} {a w : Nat} {n : Int32} (hS : iCrowd ly M a) (hw : w < 6) : Mt G l mX0_firstCell (1, 0, 0, false) [.ref a, .int (nI w), .int n] ly M (Is (some (.int (fstC (M.1 (a + 4) w) (M.1 (a + 5) w) n))) ly M) := by
  obtain ⟨h0, h1, h2, h3, h4, h5, p0, p1, p2, p3, p4⟩ := hS
  refine Mt.is (fun Q hQ => ?_)
  refine Mt.of (lv := [some (.ref a), some (.int (nI w)), some (.int n)]) rfl ?_
  refine Rn.aload_n dX0_firstCell_0 rfl ?_
  refine Rn.getR dX0_firstCell_1 fX0_21 rfl h0 p3 ?_
  refine Rn.iload_n dX0_firstCell_4 rfl ?_
  refine Rn.ialdN (k0 := w) dX0_firstCell_5 h4 (by omega) (by decide) ?_
  refine Rn.if_ne dX0_firstCell_6 (fun h6 => ?_) (fun h6 => ?_)
  · skip
    refine Rn.aload_n dX0_firstCell_16 rfl ?_
    refine Rn.getR dX0_firstCell_17 fX0_21 rfl h0 p3 ?_
    refine Rn.iload_n dX0_firstCell_20 rfl ?_
    refine Rn.ialdN (k0 := w) dX0_firstCell_21 h4 (by omega) (by decide) ?_
    refine Rn.if_le dX0_firstCell_22 (fun h22 => ?_) (fun h22 => ?_)
    · skip
      refine Rn.iload_n dX0_firstCell_29 rfl ?_
      refine Rn.iconstv (v := 1) dX0_firstCell_30 ic_1 ?_
      refine Rn.isub dX0_firstCell_31 ?_
      have hv : fstC (M.1 (a + 4) w) (M.1 (a + 5) w) n = n - 1 := by simp only [fstC, h6, h22, ↓reduceIte]
      rw [hv] at hQ
      exact Rn.iret (ty := .int) dX0_firstCell_32 rfl rfl hQ
    · skip
      refine Rn.iconstv (v := 0) dX0_firstCell_25 ic_0 ?_
      refine Rn.goto dX0_firstCell_26 ?_
      have hv : fstC (M.1 (a + 4) w) (M.1 (a + 5) w) n = 0 := by simp only [fstC, h6, h22, ↓reduceIte]
      rw [hv] at hQ
      exact Rn.iret (ty := .int) dX0_firstCell_32 rfl rfl hQ
  · skip
    refine Rn.aload_n dX0_firstCell_9 rfl ?_
    refine Rn.getR dX0_firstCell_10 fX0_24 rfl h0 p4 ?_
    refine Rn.iload_n dX0_firstCell_13 rfl ?_
    refine Rn.ialdN (k0 := w) dX0_firstCell_14 h5 (by omega) (by decide) ?_
    have hv : fstC (M.1 (a + 4) w) (M.1 (a + 5) w) n = M.1 (a + 5) w := by simp only [fstC, h6, ↓reduceIte]
    rw [hv] at hQ
    exact Rn.iret (ty := .int) dX0_firstCell_15 rfl rfl hQ
def iDeeds (ly : Ly) (M : Mm) (a : Nat) : Prop := ly[a]? = some (.inr 1) ∧ ly[a + 1]? = some (.inl (0, 20)) ∧ ly[a + 2]? = some (.inl (0, 20)) ∧ ly[a + 3]? = some (.inl (0, 20)) ∧ M.2.2 a 1 = some (a + 1) ∧ M.2.2 a 2 = some (a + 2) ∧ M.2.2 a 3 = some (a + 3)
theorem tX1_clear {G : Gx} {l : Launch} {ly : Ly} {M : Mm} {a : Nat} (hS : iDeeds ly M a) : Mt G l mX1_clear (1, 0, 0, false) [.ref a] ly M (Is none ly (sI M a (upd (M.1 a) 0 0))) := by
  obtain ⟨h0, h1, h2, h3, p0, p1, p2⟩ := hS
  refine Mt.is (fun Q hQ => ?_)
  refine Mt.of (lv := [some (.ref a)]) rfl ?_
  refine Rn.aload_n dX1_clear_0 rfl ?_
  refine Rn.iconstv (v := 0) dX1_clear_1 ic_0 ?_
  refine Rn.putI dX1_clear_2 fX1_21 rfl rfl rfl h0 ?_
  exact Rn.vret dX1_clear_5 rfl hQ
theorem tX1_forgetFirst {G : Gx} {l : Launch} {ly : Ly} {M : Mm} {a : Nat} (hS : iDeeds ly M a) : Mt G l mX1_forgetFirst (1, 0, 0, false) [.ref a] ly M (Is none ly (sI (sI (sI (sI (M) (a + 1) (va_cpy (M.1 (a + 1)) (M.1 (a + 1)) 1 0 19)) (a + 2) (va_cpy (M.1 (a + 2)) (M.1 (a + 2)) 1 0 19)) (a + 3) (va_cpy (M.1 (a + 3)) (M.1 (a + 3)) 1 0 19)) a (upd (M.1 a) 0 19))) := by
  obtain ⟨h0, h1, h2, h3, p0, p1, p2⟩ := hS
  refine Mt.is (fun Q hQ => ?_)
  refine Mt.of (lv := [some (.ref a)]) rfl ?_
  refine Rn.aload_n dX1_forgetFirst_0 rfl ?_
  refine Rn.getR dX1_forgetFirst_1 fX1_9 rfl h0 p0 ?_
  refine Rn.iconstv (v := 1) dX1_forgetFirst_4 ic_1 ?_
  refine Rn.aload_n dX1_forgetFirst_5 rfl ?_
  refine Rn.getR dX1_forgetFirst_6 fX1_9 rfl h0 p0 ?_
  refine Rn.iconstv (v := 0) dX1_forgetFirst_9 ic_0 ?_
  refine Rn.bipushv (v := 19) dX1_forgetFirst_10 bp_19 ?_
  refine Rn.copy dX1_forgetFirst_12 jX1_28 jw_copy h1 h1 (by decide) (by decide) (by decide) (by decide) (by decide) ⟨(Nat.le_of_ble_eq_true rfl), (Nat.le_of_ble_eq_true rfl)⟩ ?_
  refine Rn.meq (M2 := sI M (a + 1) (va_cpy (M.1 (a + 1)) (M.1 (a + 1)) 1 0 19)) (congrArg (fun r9 => sI M (a + 1) r9) ((congr (congrArg (fun u v => va_cpy u v 1 0 19) (rfl)) (rfl)).trans (rfl))) ?_
  refine Rn.aload_n dX1_forgetFirst_15 rfl ?_
  refine Rn.getR dX1_forgetFirst_16 fX1_15 rfl h0 p1 ?_
  refine Rn.iconstv (v := 1) dX1_forgetFirst_19 ic_1 ?_
  refine Rn.aload_n dX1_forgetFirst_20 rfl ?_
  refine Rn.getR dX1_forgetFirst_21 fX1_15 rfl h0 p1 ?_
  refine Rn.iconstv (v := 0) dX1_forgetFirst_24 ic_0 ?_
  refine Rn.bipushv (v := 19) dX1_forgetFirst_25 bp_19 ?_
  refine Rn.copy dX1_forgetFirst_27 jX1_28 jw_copy h2 h2 (by decide) (by decide) (by decide) (by decide) (by decide) ⟨(Nat.le_of_ble_eq_true rfl), (Nat.le_of_ble_eq_true rfl)⟩ ?_
  refine Rn.meq (M2 := sI (sI M (a + 1) (va_cpy (M.1 (a + 1)) (M.1 (a + 1)) 1 0 19)) (a + 2) (va_cpy (M.1 (a + 2)) (M.1 (a + 2)) 1 0 19)) (congrArg (fun r9 => sI (sI M (a + 1) (va_cpy (M.1 (a + 1)) (M.1 (a + 1)) 1 0 19)) (a + 2) r9) ((congr (congrArg (fun u v => va_cpy u v 1 0 19) (sI_ne (show a + 2 ≠ a + 1 by omega))) (sI_ne (show a + 2 ≠ a + 1 by omega))).trans (rfl))) ?_
  refine Rn.aload_n dX1_forgetFirst_30 rfl ?_
  refine Rn.getR dX1_forgetFirst_31 fX1_18 rfl h0 p2 ?_
  refine Rn.iconstv (v := 1) dX1_forgetFirst_34 ic_1 ?_
  refine Rn.aload_n dX1_forgetFirst_35 rfl ?_
  refine Rn.getR dX1_forgetFirst_36 fX1_18 rfl h0 p2 ?_
  refine Rn.iconstv (v := 0) dX1_forgetFirst_39 ic_0 ?_
  refine Rn.bipushv (v := 19) dX1_forgetFirst_40 bp_19 ?_
  refine Rn.copy dX1_forgetFirst_42 jX1_28 jw_copy h3 h3 (by decide) (by decide) (by decide) (by decide) (by decide) ⟨(Nat.le_of_ble_eq_true rfl), (Nat.le_of_ble_eq_true rfl)⟩ ?_
  refine Rn.meq (M2 := sI (sI (sI M (a + 1) (va_cpy (M.1 (a + 1)) (M.1 (a + 1)) 1 0 19)) (a + 2) (va_cpy (M.1 (a + 2)) (M.1 (a + 2)) 1 0 19)) (a + 3) (va_cpy (M.1 (a + 3)) (M.1 (a + 3)) 1 0 19)) (congrArg (fun r9 => sI (sI (sI M (a + 1) (va_cpy (M.1 (a + 1)) (M.1 (a + 1)) 1 0 19)) (a + 2) (va_cpy (M.1 (a + 2)) (M.1 (a + 2)) 1 0 19)) (a + 3) r9) ((congr (congrArg (fun u v => va_cpy u v 1 0 19) ((sI_ne (show a + 3 ≠ a + 2 by omega)).trans (sI_ne (show a + 3 ≠ a + 1 by omega)))) ((sI_ne (show a + 3 ≠ a + 2 by omega)).trans (sI_ne (show a + 3 ≠ a + 1 by omega)))).trans (rfl))) ?_
  refine Rn.aload_n dX1_forgetFirst_45 rfl ?_
  refine Rn.bipushv (v := 19) dX1_forgetFirst_46 bp_19 ?_
  refine Rn.putI dX1_forgetFirst_48 fX1_21 rfl rfl rfl h0 ?_
  refine Rn.meq (M2 := sI (sI (sI (sI M (a + 1) (va_cpy (M.1 (a + 1)) (M.1 (a + 1)) 1 0 19)) (a + 2) (va_cpy (M.1 (a + 2)) (M.1 (a + 2)) 1 0 19)) (a + 3) (va_cpy (M.1 (a + 3)) (M.1 (a + 3)) 1 0 19)) a (upd (M.1 a) 0 19)) (congrArg (fun r9 => sI (sI (sI (sI M (a + 1) (va_cpy (M.1 (a + 1)) (M.1 (a + 1)) 1 0 19)) (a + 2) (va_cpy (M.1 (a + 2)) (M.1 (a + 2)) 1 0 19)) (a + 3) (va_cpy (M.1 (a + 3)) (M.1 (a + 3)) 1 0 19)) a (upd r9 0 19)) ((sI_ne (show a ≠ a + 3 by omega)).trans ((sI_ne (show a ≠ a + 2 by omega)).trans (sI_ne (show a ≠ a + 1 by omega))))) ?_
  exact Rn.vret dX1_forgetFirst_51 rfl hQ
theorem tX1_add {G : Gx} {l : Launch} {ly : Ly} {M : Mm} {a k : Nat} {x y z : Int32} (hS : iDeeds ly M a) (hk : M.1 a 0 = nI k) (hk20 : k < 20) : Mt G l mX1_add (2, 0, 0, false) [.ref a, .int x, .int y, .int z] ly M (Is none ly (sI (sI (sI (sI (M) (a + 1) (upd (M.1 (a + 1)) k x)) (a + 2) (upd (M.1 (a + 2)) k y)) (a + 3) (upd (M.1 (a + 3)) k z)) a (upd (M.1 a) 0 (nI (k + 1))))) := by
  obtain ⟨h0, h1, h2, h3, p0, p1, p2⟩ := hS
  refine Mt.is (fun Q hQ => ?_)
  refine Mt.of (lv := [some (.ref a), some (.int x), some (.int y), some (.int z)]) rfl ?_
  refine Rn.aload_n dX1_add_0 rfl ?_
  refine Rn.getI dX1_add_1 fX1_21 rfl h0 ?_
  refine Rn.topI (y := nI k) (hk) ?_
  refine Rn.bipushv (v := 20) dX1_add_4 bp_20 ?_
  refine Rn.icmp_lt dX1_add_6 (fun hc => ?_) (fun hc => ?_)
  · skip
    refine Rn.aload_n dX1_add_13 rfl ?_
    refine Rn.getR dX1_add_14 fX1_9 rfl h0 p0 ?_
    refine Rn.aload_n dX1_add_17 rfl ?_
    refine Rn.getI dX1_add_18 fX1_21 rfl h0 ?_
    refine Rn.topI (y := nI k) (hk) ?_
    refine Rn.iload_n dX1_add_21 rfl ?_
    refine Rn.iastN (k0 := k) dX1_add_22 h1 (by omega) (by decide) ?_
    refine Rn.aload_n dX1_add_23 rfl ?_
    refine Rn.getR dX1_add_24 fX1_15 rfl h0 p1 ?_
    refine Rn.aload_n dX1_add_27 rfl ?_
    refine Rn.getI dX1_add_28 fX1_21 rfl h0 ?_
    refine Rn.topI (y := M.1 a 0) ((congrFun (sI_ne (show a ≠ a + 1 by omega)) 0)) ?_
    refine Rn.topI (y := nI k) (hk) ?_
    refine Rn.iload_n dX1_add_31 rfl ?_
    refine Rn.iastN (k0 := k) dX1_add_32 h2 (by omega) (by decide) ?_
    refine Rn.meq (M2 := sI (sI M (a + 1) (upd (M.1 (a + 1)) k x)) (a + 2) (upd (M.1 (a + 2)) k y)) (congrArg (fun r9 => sI (sI M (a + 1) (upd (M.1 (a + 1)) k x)) (a + 2) (upd r9 k y)) (sI_ne (show a + 2 ≠ a + 1 by omega))) ?_
    refine Rn.aload_n dX1_add_33 rfl ?_
    refine Rn.getR dX1_add_34 fX1_18 rfl h0 p2 ?_
    refine Rn.aload_n dX1_add_37 rfl ?_
    refine Rn.getI dX1_add_38 fX1_21 rfl h0 ?_
    refine Rn.topI (y := M.1 a 0) ((congrFun ((sI_ne (show a ≠ a + 2 by omega)).trans (sI_ne (show a ≠ a + 1 by omega))) 0)) ?_
    refine Rn.topI (y := nI k) (hk) ?_
    refine Rn.iload_n dX1_add_41 rfl ?_
    refine Rn.iastN (k0 := k) dX1_add_42 h3 (by omega) (by decide) ?_
    refine Rn.meq (M2 := sI (sI (sI M (a + 1) (upd (M.1 (a + 1)) k x)) (a + 2) (upd (M.1 (a + 2)) k y)) (a + 3) (upd (M.1 (a + 3)) k z)) (congrArg (fun r9 => sI (sI (sI M (a + 1) (upd (M.1 (a + 1)) k x)) (a + 2) (upd (M.1 (a + 2)) k y)) (a + 3) (upd r9 k z)) ((sI_ne (show a + 3 ≠ a + 2 by omega)).trans (sI_ne (show a + 3 ≠ a + 1 by omega)))) ?_
    refine Rn.aload_n dX1_add_43 rfl ?_
    refine Rn.dup dX1_add_44 rfl ?_
    refine Rn.getI dX1_add_45 fX1_21 rfl h0 ?_
    refine Rn.topI (y := M.1 a 0) ((congrFun ((sI_ne (show a ≠ a + 3 by omega)).trans ((sI_ne (show a ≠ a + 2 by omega)).trans (sI_ne (show a ≠ a + 1 by omega)))) 0)) ?_
    refine Rn.topI (y := nI k) (hk) ?_
    refine Rn.iconstv (v := 1) dX1_add_48 ic_1 ?_
    refine Rn.iadd dX1_add_49 ?_
    refine Rn.topI (y := nI (k + 1)) ((nI_succ k).symm) ?_
    refine Rn.putI dX1_add_50 fX1_21 rfl rfl rfl h0 ?_
    refine Rn.meq (M2 := sI (sI (sI (sI M (a + 1) (upd (M.1 (a + 1)) k x)) (a + 2) (upd (M.1 (a + 2)) k y)) (a + 3) (upd (M.1 (a + 3)) k z)) a (upd (M.1 a) 0 (nI (k + 1)))) (congrArg (fun r9 => sI (sI (sI (sI M (a + 1) (upd (M.1 (a + 1)) k x)) (a + 2) (upd (M.1 (a + 2)) k y)) (a + 3) (upd (M.1 (a + 3)) k z)) a (upd r9 0 (nI (k + 1)))) ((sI_ne (show a ≠ a + 3 by omega)).trans ((sI_ne (show a ≠ a + 2 by omega)).trans (sI_ne (show a ≠ a + 1 by omega))))) ?_
    exact Rn.vret dX1_add_53 rfl hQ
  · exact absurd (nI_lt (b := 20) (by omega) (by omega)) hc
theorem tX1_addFull {G : Gx} {l : Launch} {ly : Ly} {M : Mm} {a : Nat} {x y z : Int32} (hS : iDeeds ly M a) (hk : M.1 a 0 = nI 20) : Mt G l mX1_add (2, 0, 0, false) [.ref a, .int x, .int y, .int z] ly M (Is none ly (sI (sI (sI (sI (M) (a + 1) (upd (va_cpy (M.1 (a + 1)) (M.1 (a + 1)) 1 0 19) 19 x)) (a + 2) (upd (va_cpy (M.1 (a + 2)) (M.1 (a + 2)) 1 0 19) 19 y)) (a + 3) (upd (va_cpy (M.1 (a + 3)) (M.1 (a + 3)) 1 0 19) 19 z)) a (upd (upd (M.1 a) 0 19) 0 20))) := by
  have hS0 := hS
  obtain ⟨h0, h1, h2, h3, p0, p1, p2⟩ := hS
  refine Mt.is (fun Q hQ => ?_)
  refine Mt.of (lv := [some (.ref a), some (.int x), some (.int y), some (.int z)]) rfl ?_
  refine Rn.aload_n dX1_add_0 rfl ?_
  refine Rn.getI dX1_add_1 fX1_21 rfl h0 ?_
  refine Rn.topI (y := nI 20) (hk) ?_
  refine Rn.bipushv (v := 20) dX1_add_4 bp_20 ?_
  refine Rn.icmp_lt dX1_add_6 (fun hc => ?_) (fun hc => ?_)
  · exact absurd hc (by decide)
  · skip
    refine Rn.aload_n dX1_add_9 rfl ?_
    refine Rn.callV0 dX1_add_10 vX1_25 h0 (by decide) rfl (tX1_forgetFirst hS0) (by decide) ⟨(Nat.le_of_ble_eq_true rfl), (Nat.le_of_ble_eq_true rfl), (Nat.le_of_ble_eq_true rfl)⟩ (fun h => by cases h) (fun v1 ly1 M1 ⟨q1, q2, q3⟩ => ?_)
    rw [q1, q2, q3]
    refine Rn.aload_n dX1_add_13 rfl ?_
    refine Rn.getR dX1_add_14 fX1_9 rfl h0 p0 ?_
    refine Rn.aload_n dX1_add_17 rfl ?_
    refine Rn.getI dX1_add_18 fX1_21 rfl h0 ?_
    refine Rn.topI (y := 19) ((congrFun (sI_at _ _ _) 0).trans (pk_us)) ?_
    refine Rn.iload_n dX1_add_21 rfl ?_
    refine Rn.iast dX1_add_22 h1 (by unfold vp_in; decide) ?_
    refine Rn.meq (M2 := sI (sI (sI (sI M (a + 1) (upd (va_cpy (M.1 (a + 1)) (M.1 (a + 1)) 1 0 19) 19 x)) (a + 2) (va_cpy (M.1 (a + 2)) (M.1 (a + 2)) 1 0 19)) (a + 3) (va_cpy (M.1 (a + 3)) (M.1 (a + 3)) 1 0 19)) a (upd (M.1 a) 0 19)) ((congrArg (fun r9 => sI (sI (sI (sI (sI M (a + 1) (va_cpy (M.1 (a + 1)) (M.1 (a + 1)) 1 0 19)) (a + 2) (va_cpy (M.1 (a + 2)) (M.1 (a + 2)) 1 0 19)) (a + 3) (va_cpy (M.1 (a + 3)) (M.1 (a + 3)) 1 0 19)) a (upd (M.1 a) 0 19)) (a + 1) (upd r9 19 x)) ((sI_ne (show a + 1 ≠ a by omega)).trans ((sI_ne (show a + 1 ≠ a + 3 by omega)).trans ((sI_ne (show a + 1 ≠ a + 2 by omega)).trans (sI_at _ _ _))))).trans ((sI_comm (show a ≠ a + 1 by omega)).trans (congrArg (fun m9 => sI m9 a (upd (M.1 a) 0 19)) ((sI_comm (show a + 3 ≠ a + 1 by omega)).trans (congrArg (fun m9 => sI m9 (a + 3) (va_cpy (M.1 (a + 3)) (M.1 (a + 3)) 1 0 19)) ((sI_comm (show a + 2 ≠ a + 1 by omega)).trans (congrArg (fun m9 => sI m9 (a + 2) (va_cpy (M.1 (a + 2)) (M.1 (a + 2)) 1 0 19)) (sI_sI _ _ _ _)))))))) ?_
    refine Rn.aload_n dX1_add_23 rfl ?_
    refine Rn.getR dX1_add_24 fX1_15 rfl h0 p1 ?_
    refine Rn.aload_n dX1_add_27 rfl ?_
    refine Rn.getI dX1_add_28 fX1_21 rfl h0 ?_
    refine Rn.topI (y := 19) ((congrFun (sI_at _ _ _) 0).trans (pk_us)) ?_
    refine Rn.iload_n dX1_add_31 rfl ?_
    refine Rn.iast dX1_add_32 h2 (by unfold vp_in; decide) ?_
    refine Rn.meq (M2 := sI (sI (sI (sI M (a + 1) (upd (va_cpy (M.1 (a + 1)) (M.1 (a + 1)) 1 0 19) 19 x)) (a + 2) (upd (va_cpy (M.1 (a + 2)) (M.1 (a + 2)) 1 0 19) 19 y)) (a + 3) (va_cpy (M.1 (a + 3)) (M.1 (a + 3)) 1 0 19)) a (upd (M.1 a) 0 19)) ((congrArg (fun r9 => sI (sI (sI (sI (sI M (a + 1) (upd (va_cpy (M.1 (a + 1)) (M.1 (a + 1)) 1 0 19) 19 x)) (a + 2) (va_cpy (M.1 (a + 2)) (M.1 (a + 2)) 1 0 19)) (a + 3) (va_cpy (M.1 (a + 3)) (M.1 (a + 3)) 1 0 19)) a (upd (M.1 a) 0 19)) (a + 2) (upd r9 19 y)) ((sI_ne (show a + 2 ≠ a by omega)).trans ((sI_ne (show a + 2 ≠ a + 3 by omega)).trans (sI_at _ _ _)))).trans ((sI_comm (show a ≠ a + 2 by omega)).trans (congrArg (fun m9 => sI m9 a (upd (M.1 a) 0 19)) ((sI_comm (show a + 3 ≠ a + 2 by omega)).trans (congrArg (fun m9 => sI m9 (a + 3) (va_cpy (M.1 (a + 3)) (M.1 (a + 3)) 1 0 19)) (sI_sI _ _ _ _)))))) ?_
    refine Rn.aload_n dX1_add_33 rfl ?_
    refine Rn.getR dX1_add_34 fX1_18 rfl h0 p2 ?_
    refine Rn.aload_n dX1_add_37 rfl ?_
    refine Rn.getI dX1_add_38 fX1_21 rfl h0 ?_
    refine Rn.topI (y := 19) ((congrFun (sI_at _ _ _) 0).trans (pk_us)) ?_
    refine Rn.iload_n dX1_add_41 rfl ?_
    refine Rn.iast dX1_add_42 h3 (by unfold vp_in; decide) ?_
    refine Rn.meq (M2 := sI (sI (sI (sI M (a + 1) (upd (va_cpy (M.1 (a + 1)) (M.1 (a + 1)) 1 0 19) 19 x)) (a + 2) (upd (va_cpy (M.1 (a + 2)) (M.1 (a + 2)) 1 0 19) 19 y)) (a + 3) (upd (va_cpy (M.1 (a + 3)) (M.1 (a + 3)) 1 0 19) 19 z)) a (upd (M.1 a) 0 19)) ((congrArg (fun r9 => sI (sI (sI (sI (sI M (a + 1) (upd (va_cpy (M.1 (a + 1)) (M.1 (a + 1)) 1 0 19) 19 x)) (a + 2) (upd (va_cpy (M.1 (a + 2)) (M.1 (a + 2)) 1 0 19) 19 y)) (a + 3) (va_cpy (M.1 (a + 3)) (M.1 (a + 3)) 1 0 19)) a (upd (M.1 a) 0 19)) (a + 3) (upd r9 19 z)) ((sI_ne (show a + 3 ≠ a by omega)).trans (sI_at _ _ _))).trans ((sI_comm (show a ≠ a + 3 by omega)).trans (congrArg (fun m9 => sI m9 a (upd (M.1 a) 0 19)) (sI_sI _ _ _ _)))) ?_
    refine Rn.aload_n dX1_add_43 rfl ?_
    refine Rn.dup dX1_add_44 rfl ?_
    refine Rn.getI dX1_add_45 fX1_21 rfl h0 ?_
    refine Rn.topI (y := 19) ((congrFun (sI_at _ _ _) 0).trans (pk_us)) ?_
    refine Rn.iconstv (v := 1) dX1_add_48 ic_1 ?_
    refine Rn.iadd dX1_add_49 ?_
    refine Rn.topI (y := 20) (by decide) ?_
    refine Rn.putI dX1_add_50 fX1_21 rfl rfl rfl h0 ?_
    refine Rn.meq (M2 := sI (sI (sI (sI M (a + 1) (upd (va_cpy (M.1 (a + 1)) (M.1 (a + 1)) 1 0 19) 19 x)) (a + 2) (upd (va_cpy (M.1 (a + 2)) (M.1 (a + 2)) 1 0 19) 19 y)) (a + 3) (upd (va_cpy (M.1 (a + 3)) (M.1 (a + 3)) 1 0 19) 19 z)) a (upd (upd (M.1 a) 0 19) 0 20)) ((congrArg (fun r9 => sI (sI (sI (sI (sI M (a + 1) (upd (va_cpy (M.1 (a + 1)) (M.1 (a + 1)) 1 0 19) 19 x)) (a + 2) (upd (va_cpy (M.1 (a + 2)) (M.1 (a + 2)) 1 0 19) 19 y)) (a + 3) (upd (va_cpy (M.1 (a + 3)) (M.1 (a + 3)) 1 0 19) 19 z)) a (upd (M.1 a) 0 19)) a (upd r9 0 20)) (sI_at _ _ _)).trans (sI_sI _ _ _ _)) ?_
    exact Rn.vret dX1_add_53 rfl hQ
