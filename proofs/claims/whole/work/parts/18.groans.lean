def iGroans (ly : Ly) (M : Mm) (a : Nat) : Prop := ly[a]? = some (.inr 4) ∧ ly[a + 1]? = some (.inl (0, 24)) ∧ ly[a + 2]? = some (.inl (0, 24)) ∧ ly[a + 3]? = some (.inl (0, 24)) ∧ ly[a + 4]? = some (.inl (2, 24)) ∧ ly[a + 5]? = some (.inl (0, 24)) ∧ M.2.2 a 2 = some (a + 1) ∧ M.2.2 a 3 = some (a + 2) ∧ M.2.2 a 4 = some (a + 3) ∧ M.2.2 a 5 = some (a + 4) ∧ M.2.2 a 6 = some (a + 5)
theorem narZ {z : Int32} (h : z = 0 ∨ z = 1) : vp_nar .boolean z = z := by rcases h with rfl | rfl <;> decide
theorem tX4_clear {G : Gx} {l : Launch} {ly : Ly} {M : Mm} {a : Nat} (hS : iGroans ly M a) : Mt G l mX4_clear (1, 0, 0, false) [.ref a] ly M (Is none ly (sI M a (upd (upd (M.1 a) 0 0) 1 (-1)))) := by
  obtain ⟨h0, h1, h2, h3, h4, h5, p0, p1, p2, p3, p4⟩ := hS
  refine Mt.is (fun Q hQ => ?_)
  refine Mt.of (lv := [some (.ref a)]) rfl ?_
  refine Rn.aload_n dX4_clear_0 rfl ?_
  refine Rn.iconstv (v := 0) dX4_clear_1 ic_0 ?_
  refine Rn.putI dX4_clear_2 fX4_32 rfl rfl rfl h0 ?_
  refine Rn.aload_n dX4_clear_5 rfl ?_
  refine Rn.iconstv (v := -1) dX4_clear_6 ic_m1 ?_
  refine Rn.putI dX4_clear_7 fX4_9 rfl rfl rfl h0 ?_
  refine Rn.meq (M2 := sI M a (upd (upd (M.1 a) 0 0) 1 (-1))) ((congrArg (fun r9 => sI (sI M a (upd (M.1 a) 0 0)) a (upd r9 1 (-1))) (sI_at _ _ _)).trans (sI_sI _ _ _ _)) ?_
  exact Rn.vret dX4_clear_10 rfl hQ
theorem tX4_add {G : Gx} {l : Launch} {ly : Ly} {M : Mm} {a k : Nat} {x1 x2 x3 z : Int32} (hS : iGroans ly M a) (hk : M.1 a 0 = nI k) (hk24 : k < 24) (hz : z = 0 ∨ z = 1) : Mt G l mX4_add (1, 0, 0, false) [.ref a, .int x1, .int x2, .int x3, .int z] ly M (Is (some (.int (nI k))) ly (sI (sI (sI (sI (sI (sI (M) (a + 1) (upd (M.1 (a + 1)) k x1)) (a + 2) (upd (M.1 (a + 2)) k x2)) (a + 3) (upd (M.1 (a + 3)) k x3)) (a + 4) (upd (M.1 (a + 4)) k z)) (a + 5) (upd (M.1 (a + 5)) k (-1))) a (upd (M.1 a) 0 (nI (k + 1))))) := by
  obtain ⟨h0, h1, h2, h3, h4, h5, p0, p1, p2, p3, p4⟩ := hS
  refine Mt.is (fun Q hQ => ?_)
  refine Mt.of (lv := [some (.ref a), some (.int x1), some (.int x2), some (.int x3), some (.int z)]) rfl ?_
  refine Rn.aload_n dX4_add_0 rfl ?_
  refine Rn.getI dX4_add_1 fX4_32 rfl h0 ?_
  refine Rn.topI (y := nI k) (hk) ?_
  refine Rn.bipushv (v := 24) dX4_add_4 bp_24 ?_
  refine Rn.icmp_lt dX4_add_6 (fun hc => ?_) (fun hc => ?_)
  · skip
    refine Rn.aload_n dX4_add_11 rfl ?_
    refine Rn.getR dX4_add_12 fX4_15 rfl h0 p0 ?_
    refine Rn.aload_n dX4_add_15 rfl ?_
    refine Rn.getI dX4_add_16 fX4_32 rfl h0 ?_
    refine Rn.topI (y := nI k) (hk) ?_
    refine Rn.iload_n dX4_add_19 rfl ?_
    refine Rn.iastN (k0 := k) dX4_add_20 h1 (by omega) (by decide) ?_
    refine Rn.aload_n dX4_add_21 rfl ?_
    refine Rn.getR dX4_add_22 fX4_19 rfl h0 p1 ?_
    refine Rn.aload_n dX4_add_25 rfl ?_
    refine Rn.getI dX4_add_26 fX4_32 rfl h0 ?_
    refine Rn.topI (y := M.1 a 0) ((congrFun (sI_ne (show a ≠ a + 1 by omega)) 0)) ?_
    refine Rn.topI (y := nI k) (hk) ?_
    refine Rn.iload_n dX4_add_29 rfl ?_
    refine Rn.iastN (k0 := k) dX4_add_30 h2 (by omega) (by decide) ?_
    refine Rn.meq (M2 := sI (sI M (a + 1) (upd (M.1 (a + 1)) k x1)) (a + 2) (upd (M.1 (a + 2)) k x2)) (congrArg (fun r9 => sI (sI M (a + 1) (upd (M.1 (a + 1)) k x1)) (a + 2) (upd r9 k x2)) (sI_ne (show a + 2 ≠ a + 1 by omega))) ?_
    refine Rn.aload_n dX4_add_31 rfl ?_
    refine Rn.getR dX4_add_32 fX4_22 rfl h0 p2 ?_
    refine Rn.aload_n dX4_add_35 rfl ?_
    refine Rn.getI dX4_add_36 fX4_32 rfl h0 ?_
    refine Rn.topI (y := M.1 a 0) ((congrFun ((sI_ne (show a ≠ a + 2 by omega)).trans (sI_ne (show a ≠ a + 1 by omega))) 0)) ?_
    refine Rn.topI (y := nI k) (hk) ?_
    refine Rn.iload_n dX4_add_39 rfl ?_
    refine Rn.iastN (k0 := k) dX4_add_40 h3 (by omega) (by decide) ?_
    refine Rn.meq (M2 := sI (sI (sI M (a + 1) (upd (M.1 (a + 1)) k x1)) (a + 2) (upd (M.1 (a + 2)) k x2)) (a + 3) (upd (M.1 (a + 3)) k x3)) (congrArg (fun r9 => sI (sI (sI M (a + 1) (upd (M.1 (a + 1)) k x1)) (a + 2) (upd (M.1 (a + 2)) k x2)) (a + 3) (upd r9 k x3)) ((sI_ne (show a + 3 ≠ a + 2 by omega)).trans (sI_ne (show a + 3 ≠ a + 1 by omega)))) ?_
    refine Rn.aload_n dX4_add_41 rfl ?_
    refine Rn.getR dX4_add_42 fX4_25 rfl h0 p3 ?_
    refine Rn.aload_n dX4_add_45 rfl ?_
    refine Rn.getI dX4_add_46 fX4_32 rfl h0 ?_
    refine Rn.topI (y := M.1 a 0) ((congrFun ((sI_ne (show a ≠ a + 3 by omega)).trans ((sI_ne (show a ≠ a + 2 by omega)).trans (sI_ne (show a ≠ a + 1 by omega)))) 0)) ?_
    refine Rn.topI (y := nI k) (hk) ?_
    refine Rn.iload dX4_add_49 rfl ?_
    refine Rn.zastN (k0 := k) dX4_add_51 h4 (by omega) (by decide) ?_
    refine Rn.meq (M2 := sI (sI (sI (sI M (a + 1) (upd (M.1 (a + 1)) k x1)) (a + 2) (upd (M.1 (a + 2)) k x2)) (a + 3) (upd (M.1 (a + 3)) k x3)) (a + 4) (upd (M.1 (a + 4)) k (vp_nar .boolean z))) (congrArg (fun r9 => sI (sI (sI (sI M (a + 1) (upd (M.1 (a + 1)) k x1)) (a + 2) (upd (M.1 (a + 2)) k x2)) (a + 3) (upd (M.1 (a + 3)) k x3)) (a + 4) (upd r9 k (vp_nar .boolean z))) ((sI_ne (show a + 4 ≠ a + 3 by omega)).trans ((sI_ne (show a + 4 ≠ a + 2 by omega)).trans (sI_ne (show a + 4 ≠ a + 1 by omega))))) ?_
    refine Rn.meq (M2 := sI (sI (sI (sI M (a + 1) (upd (M.1 (a + 1)) k x1)) (a + 2) (upd (M.1 (a + 2)) k x2)) (a + 3) (upd (M.1 (a + 3)) k x3)) (a + 4) (upd (M.1 (a + 4)) k z)) (by rw [narZ hz]) ?_
    refine Rn.aload_n dX4_add_52 rfl ?_
    refine Rn.getR dX4_add_53 fX4_29 rfl h0 p4 ?_
    refine Rn.aload_n dX4_add_56 rfl ?_
    refine Rn.getI dX4_add_57 fX4_32 rfl h0 ?_
    refine Rn.topI (y := M.1 a 0) ((congrFun ((sI_ne (show a ≠ a + 4 by omega)).trans ((sI_ne (show a ≠ a + 3 by omega)).trans ((sI_ne (show a ≠ a + 2 by omega)).trans (sI_ne (show a ≠ a + 1 by omega))))) 0)) ?_
    refine Rn.topI (y := nI k) (hk) ?_
    refine Rn.iconstv (v := -1) dX4_add_60 ic_m1 ?_
    refine Rn.iastN (k0 := k) dX4_add_61 h5 (by omega) (by decide) ?_
    refine Rn.meq (M2 := sI (sI (sI (sI (sI M (a + 1) (upd (M.1 (a + 1)) k x1)) (a + 2) (upd (M.1 (a + 2)) k x2)) (a + 3) (upd (M.1 (a + 3)) k x3)) (a + 4) (upd (M.1 (a + 4)) k z)) (a + 5) (upd (M.1 (a + 5)) k (-1))) (congrArg (fun r9 => sI (sI (sI (sI (sI M (a + 1) (upd (M.1 (a + 1)) k x1)) (a + 2) (upd (M.1 (a + 2)) k x2)) (a + 3) (upd (M.1 (a + 3)) k x3)) (a + 4) (upd (M.1 (a + 4)) k z)) (a + 5) (upd r9 k (-1))) ((sI_ne (show a + 5 ≠ a + 4 by omega)).trans ((sI_ne (show a + 5 ≠ a + 3 by omega)).trans ((sI_ne (show a + 5 ≠ a + 2 by omega)).trans (sI_ne (show a + 5 ≠ a + 1 by omega)))))) ?_
    refine Rn.aload_n dX4_add_62 rfl ?_
    refine Rn.dup dX4_add_63 rfl ?_
    refine Rn.getI dX4_add_64 fX4_32 rfl h0 ?_
    refine Rn.topI (y := M.1 a 0) ((congrFun ((sI_ne (show a ≠ a + 5 by omega)).trans ((sI_ne (show a ≠ a + 4 by omega)).trans ((sI_ne (show a ≠ a + 3 by omega)).trans ((sI_ne (show a ≠ a + 2 by omega)).trans (sI_ne (show a ≠ a + 1 by omega)))))) 0)) ?_
    refine Rn.topI (y := nI k) (hk) ?_
    refine Rn.iconstv (v := 1) dX4_add_67 ic_1 ?_
    refine Rn.iadd dX4_add_68 ?_
    refine Rn.topI (y := nI (k + 1)) ((nI_succ k).symm) ?_
    refine Rn.putI dX4_add_69 fX4_32 rfl rfl rfl h0 ?_
    refine Rn.meq (M2 := sI (sI (sI (sI (sI (sI M (a + 1) (upd (M.1 (a + 1)) k x1)) (a + 2) (upd (M.1 (a + 2)) k x2)) (a + 3) (upd (M.1 (a + 3)) k x3)) (a + 4) (upd (M.1 (a + 4)) k z)) (a + 5) (upd (M.1 (a + 5)) k (-1))) a (upd (M.1 a) 0 (nI (k + 1)))) (congrArg (fun r9 => sI (sI (sI (sI (sI (sI M (a + 1) (upd (M.1 (a + 1)) k x1)) (a + 2) (upd (M.1 (a + 2)) k x2)) (a + 3) (upd (M.1 (a + 3)) k x3)) (a + 4) (upd (M.1 (a + 4)) k z)) (a + 5) (upd (M.1 (a + 5)) k (-1))) a (upd r9 0 (nI (k + 1)))) ((sI_ne (show a ≠ a + 5 by omega)).trans ((sI_ne (show a ≠ a + 4 by omega)).trans ((sI_ne (show a ≠ a + 3 by omega)).trans ((sI_ne (show a ≠ a + 2 by omega)).trans (sI_ne (show a ≠ a + 1 by omega))))))) ?_
    refine Rn.aload_n dX4_add_72 rfl ?_
    refine Rn.getI dX4_add_73 fX4_32 rfl h0 ?_
    refine Rn.topI (y := nI (k + 1)) ((congrFun (sI_at _ _ _) 0).trans (pk_us)) ?_
    refine Rn.iconstv (v := 1) dX4_add_76 ic_1 ?_
    refine Rn.isub dX4_add_77 ?_
    refine Rn.topI (y := nI k) (nI_pred k) ?_
    exact Rn.iret (ty := .int) dX4_add_78 rfl rfl hQ
  · exact absurd (nI_lt (b := 24) (by omega) (by omega)) hc
theorem tX4_addFull {G : Gx} {l : Launch} {ly : Ly} {M : Mm} {a : Nat} {x1 x2 x3 z : Int32} (hS : iGroans ly M a) (hk : M.1 a 0 = nI 24) : Mt G l mX4_add (1, 0, 0, false) [.ref a, .int x1, .int x2, .int x3, .int z] ly M (Is (some (.int (-1))) ly M) := by
  obtain ⟨h0, h1, h2, h3, h4, h5, p0, p1, p2, p3, p4⟩ := hS
  refine Mt.is (fun Q hQ => ?_)
  refine Mt.of (lv := [some (.ref a), some (.int x1), some (.int x2), some (.int x3), some (.int z)]) rfl ?_
  refine Rn.aload_n dX4_add_0 rfl ?_
  refine Rn.getI dX4_add_1 fX4_32 rfl h0 ?_
  refine Rn.topI (y := nI 24) (hk) ?_
  refine Rn.bipushv (v := 24) dX4_add_4 bp_24 ?_
  refine Rn.icmp_lt dX4_add_6 (fun hc => ?_) (fun hc => ?_)
  · exact absurd hc (by decide)
  · skip
    refine Rn.iconstv (v := -1) dX4_add_9 ic_m1 ?_
    exact Rn.iret (ty := .int) dX4_add_10 rfl rfl hQ
theorem tX4_addStrike {G : Gx} {l : Launch} {ly : Ly} {M : Mm} {a k : Nat} {x : Int32} (hS : iGroans ly M a) (hk : M.1 a 0 = nI k) (hk24 : k ≤ 24) {Q : Qt} (hQ : (x < 0 ∨ nI k ≤ x ∨ k = 24 → Q (some (.int (-1))) ly M) ∧ (¬ x < 0 → ¬ nI k ≤ x → k < 24 → Q (some (.int (nI k))) ly (sI (sI M (a + 5) (upd (M.1 (a + 5)) k x)) a (upd (M.1 a) 0 (nI (k + 1)))))) : Mt G l mX4_addStrike (1, 0, 0, false) [.ref a, .int x] ly M Q := by
  obtain ⟨h0, h1, h2, h3, h4, h5, p0, p1, p2, p3, p4⟩ := hS
  refine Mt.of (lv := [some (.ref a), some (.int x)]) rfl ?_
  refine Rn.iload_n dX4_addStrike_0 rfl ?_
  refine Rn.if_lt dX4_addStrike_1 (fun g1 => ?_) (fun g1 => ?_)
  · skip
    refine Rn.iconstv (v := -1) dX4_addStrike_21 ic_m1 ?_
    exact Rn.iret (ty := .int) dX4_addStrike_22 rfl rfl (hQ.1 (Or.inl g1))
  · skip
    refine Rn.iload_n dX4_addStrike_4 rfl ?_
    refine Rn.aload_n dX4_addStrike_5 rfl ?_
    refine Rn.getI dX4_addStrike_6 fX4_32 rfl h0 ?_
    refine Rn.topI (y := nI k) (hk) ?_
    refine Rn.icmp_ge dX4_addStrike_9 (fun g2 => ?_) (fun g2 => ?_)
    · skip
      refine Rn.iconstv (v := -1) dX4_addStrike_21 ic_m1 ?_
      exact Rn.iret (ty := .int) dX4_addStrike_22 rfl rfl (hQ.1 (Or.inr (Or.inl g2)))
    · skip
      refine Rn.aload_n dX4_addStrike_12 rfl ?_
      refine Rn.getI dX4_addStrike_13 fX4_32 rfl h0 ?_
      refine Rn.topI (y := nI k) (hk) ?_
      refine Rn.bipushv (v := 24) dX4_addStrike_16 bp_24 ?_
      refine Rn.icmp_lt dX4_addStrike_18 (fun g3 => ?_) (fun g3 => ?_)
      · have hlt : k < 24 := by rcases Nat.lt_or_ge k 24 with h | h; exact h; exact absurd g3 (nI_nlt (b := 24) h (by omega))
        refine Rn.aload_n dX4_addStrike_23 rfl ?_
        refine Rn.getR dX4_addStrike_24 fX4_29 rfl h0 p4 ?_
        refine Rn.aload_n dX4_addStrike_27 rfl ?_
        refine Rn.getI dX4_addStrike_28 fX4_32 rfl h0 ?_
        refine Rn.topI (y := nI k) (hk) ?_
        refine Rn.iload_n dX4_addStrike_31 rfl ?_
        refine Rn.iastN (k0 := k) dX4_addStrike_32 h5 (by omega) (by decide) ?_
        refine Rn.aload_n dX4_addStrike_33 rfl ?_
        refine Rn.dup dX4_addStrike_34 rfl ?_
        refine Rn.getI dX4_addStrike_35 fX4_32 rfl h0 ?_
        refine Rn.topI (y := M.1 a 0) ((congrFun (sI_ne (show a ≠ a + 5 by omega)) 0)) ?_
        refine Rn.topI (y := nI k) (hk) ?_
        refine Rn.iconstv (v := 1) dX4_addStrike_38 ic_1 ?_
        refine Rn.iadd dX4_addStrike_39 ?_
        refine Rn.topI (y := nI (k + 1)) ((nI_succ k).symm) ?_
        refine Rn.putI dX4_addStrike_40 fX4_32 rfl rfl rfl h0 ?_
        refine Rn.meq (M2 := sI (sI M (a + 5) (upd (M.1 (a + 5)) k x)) a (upd (M.1 a) 0 (nI (k + 1)))) (congrArg (fun r9 => sI (sI M (a + 5) (upd (M.1 (a + 5)) k x)) a (upd r9 0 (nI (k + 1)))) (sI_ne (show a ≠ a + 5 by omega))) ?_
        refine Rn.aload_n dX4_addStrike_43 rfl ?_
        refine Rn.getI dX4_addStrike_44 fX4_32 rfl h0 ?_
        refine Rn.topI (y := nI (k + 1)) ((congrFun (sI_at _ _ _) 0).trans (pk_us)) ?_
        refine Rn.iconstv (v := 1) dX4_addStrike_47 ic_1 ?_
        refine Rn.isub dX4_addStrike_48 ?_
        refine Rn.topI (y := nI k) (nI_pred k) ?_
        exact Rn.iret (ty := .int) dX4_addStrike_49 rfl rfl (hQ.2 g1 g2 hlt)
      · have hlt : k = 24 := by rcases Nat.lt_or_ge k 24 with h | h; exact absurd (nI_lt (b := 24) h (by omega)) g3; omega
        refine Rn.iconstv (v := -1) dX4_addStrike_21 ic_m1 ?_
        exact Rn.iret (ty := .int) dX4_addStrike_22 rfl rfl (hQ.1 (Or.inr (Or.inr hlt)))
def knN (kn sz : Int32) : Int32 := if kn = -1 then sz else kn
theorem tX4_knownSize {G : Gx} {l : Launch} {ly : Ly} {M : Mm} {a : Nat} (hS : iGroans ly M a) : Mt G l mX4_knownSize (1, 0, 0, false) [.ref a] ly M (Is (some (.int (knN (M.1 a 1) (M.1 a 0)))) ly M) := by
  obtain ⟨h0, h1, h2, h3, h4, h5, p0, p1, p2, p3, p4⟩ := hS
  refine Mt.is (fun Q hQ => ?_)
  refine Mt.of (lv := [some (.ref a)]) rfl ?_
  refine Rn.aload_n dX4_knownSize_0 rfl ?_
  refine Rn.getI dX4_knownSize_1 fX4_9 rfl h0 ?_
  refine Rn.iconstv (v := -1) dX4_knownSize_4 ic_m1 ?_
  refine Rn.icmp_ne dX4_knownSize_5 (fun h5 => ?_) (fun h5 => ?_)
  · skip
    refine Rn.aload_n dX4_knownSize_15 rfl ?_
    refine Rn.getI dX4_knownSize_16 fX4_9 rfl h0 ?_
    have hv : knN (M.1 a 1) (M.1 a 0) = M.1 a 1 := if_neg h5
    rw [hv] at hQ
    exact Rn.iret (ty := .int) dX4_knownSize_19 rfl rfl hQ
  · skip
    refine Rn.aload_n dX4_knownSize_8 rfl ?_
    refine Rn.getI dX4_knownSize_9 fX4_32 rfl h0 ?_
    refine Rn.goto dX4_knownSize_12 ?_
    have hv : knN (M.1 a 1) (M.1 a 0) = M.1 a 0 := if_pos h5
    rw [hv] at hQ
    exact Rn.iret (ty := .int) dX4_knownSize_19 rfl rfl hQ
/-- who is known: from the last one on; b the bits, s who is struck -/
def knB (st : Nat → Int32) : Nat → Int32 → Int32 → Int32
  | 0, b, _ => b
  | m + 1, b, s => if (s >>> (nI m &&& 31)) &&& 1 = 1 then knB st m b s else if st m = -1 then knB st m (b ||| ((1 : Int32) <<< (nI m &&& 31))) s else knB st m b (s ||| ((1 : Int32) <<< (st m &&& 31)))
theorem tX4_knownBits {G : Gx} {l : Launch} {ly : Ly} {M : Mm} {a m : Nat} (hS : iGroans ly M a) (hm : knN (M.1 a 1) (M.1 a 0) = nI m) (hm24 : m ≤ 24) : Mt G l mX4_knownBits (2, 0, 0, false) [.ref a] ly M (Is (some (.int (knB (M.1 (a + 5)) m 0 0))) ly M) := by
  have hS0 := hS
  obtain ⟨h0, h1, h2, h3, h4, h5, p0, p1, p2, p3, p4⟩ := hS
  refine Mt.is (fun Q hQ => ?_)
  refine Mt.of (lv := [some (.ref a), none, none, none]) rfl ?_
  refine Rn.iconstv (v := 0) dX4_knownBits_0 ic_0 ?_
  refine Rn.istore_n (lv' := [some (.ref a), some (.int 0), none, none]) dX4_knownBits_1 (by decide) rfl ?_
  refine Rn.iconstv (v := 0) dX4_knownBits_2 ic_0 ?_
  refine Rn.istore_n (lv' := [some (.ref a), some (.int 0), some (.int 0), none]) dX4_knownBits_3 (by decide) rfl ?_
  refine Rn.aload_n dX4_knownBits_4 rfl ?_
  refine Rn.callV0 dX4_knownBits_5 vX4_35 h0 (by decide) rfl (tX4_knownSize hS0) (by decide) ⟨(Nat.le_of_ble_eq_true rfl), (Nat.le_of_ble_eq_true rfl), (Nat.le_of_ble_eq_true rfl)⟩ (fun h => by cases h) (fun v1 ly1 M1 ⟨q1, q2, q3⟩ => ?_)
  rw [q1, q2, q3]
  refine Rn.topI (y := nI m) (hm) ?_
  refine Rn.iconstv (v := 1) dX4_knownBits_8 ic_1 ?_
  refine Rn.isub dX4_knownBits_9 ?_
  refine Rn.topI (y := nI m + (-1)) (Int32.sub_eq_add_neg _ _) ?_
  refine Rn.istore_n (lv' := [some (.ref a), some (.int 0), some (.int 0), some (.int (nI m + (-1)))]) dX4_knownBits_10 (by decide) rfl ?_
  have loop : ∀ (i : Nat) (b s : Int32), i ≤ 24 → knB (M.1 (a + 5)) i b s = knB (M.1 (a + 5)) m 0 0 → Rn G l mX4_knownBits (2, 0, 0, false) 11 [some (.ref a), some (.int b), some (.int s), some (.int (nI i + (-1)))] [] ly M Q := by
    intro i
    induction i with
    | zero =>
      intro b s _ he
      refine Rn.iload_n dX4_knownBits_11 rfl ?_
      refine Rn.if_lt dX4_knownBits_12 (fun hc => ?_) (fun hc => ?_)
      · rw [← he] at hQ
        refine Rn.iload_n dX4_knownBits_63 rfl ?_
        exact Rn.iret (ty := .int) dX4_knownBits_64 rfl rfl hQ
      · exact absurd (by decide) hc
    | succ i ih =>
      intro b s hi he
      rw [pk_m1]
      refine Rn.iload_n dX4_knownBits_11 rfl ?_
      refine Rn.if_lt dX4_knownBits_12 (fun hc => ?_) (fun hc => ?_)
      · exact absurd hc (nI_pos (by omega))
      · skip
        refine Rn.iload_n dX4_knownBits_15 rfl ?_
        refine Rn.iload_n dX4_knownBits_16 rfl ?_
        refine Rn.ishr dX4_knownBits_17 ?_
        refine Rn.iconstv (v := 1) dX4_knownBits_18 ic_1 ?_
        refine Rn.iand dX4_knownBits_19 ?_
        refine Rn.iconstv (v := 1) dX4_knownBits_20 ic_1 ?_
        refine Rn.icmp_ne dX4_knownBits_21 (fun g1 => ?_) (fun g1 => ?_)
        · skip
          refine Rn.aload_n dX4_knownBits_27 rfl ?_
          refine Rn.getR dX4_knownBits_28 fX4_29 rfl h0 p4 ?_
          refine Rn.iload_n dX4_knownBits_31 rfl ?_
          refine Rn.ialdN (k0 := i) dX4_knownBits_32 h5 (by omega) (by decide) ?_
          refine Rn.iconstv (v := -1) dX4_knownBits_33 ic_m1 ?_
          refine Rn.icmp_ne dX4_knownBits_34 (fun g2 => ?_) (fun g2 => ?_)
          · skip
            refine Rn.iload_n dX4_knownBits_46 rfl ?_
            refine Rn.iconstv (v := 1) dX4_knownBits_47 ic_1 ?_
            refine Rn.aload_n dX4_knownBits_48 rfl ?_
            refine Rn.getR dX4_knownBits_49 fX4_29 rfl h0 p4 ?_
            refine Rn.iload_n dX4_knownBits_52 rfl ?_
            refine Rn.ialdN (k0 := i) dX4_knownBits_53 h5 (by omega) (by decide) ?_
            refine Rn.ishl dX4_knownBits_54 ?_
            refine Rn.ior dX4_knownBits_55 ?_
            refine Rn.istore_n (lv' := [some (.ref a), some (.int b), some (.int (s ||| (1 <<< ((M.1 (a + 5) i) &&& 31)))), some (.int (nI i))]) dX4_knownBits_56 (by decide) rfl ?_
            refine Rn.iincv (j' := -1) (lv' := [some (.ref a), some (.int b), some (.int (s ||| (1 <<< ((M.1 (a + 5) i) &&& 31)))), some (.int (nI i + (-1)))]) dX4_knownBits_57 rfl rfl (by decide) rfl ?_
            refine Rn.goto dX4_knownBits_60 ?_
            exact ih _ _ (by omega) (((if_neg g1).trans (if_neg g2)).symm.trans he)
          · skip
            refine Rn.iload_n dX4_knownBits_37 rfl ?_
            refine Rn.iconstv (v := 1) dX4_knownBits_38 ic_1 ?_
            refine Rn.iload_n dX4_knownBits_39 rfl ?_
            refine Rn.ishl dX4_knownBits_40 ?_
            refine Rn.ior dX4_knownBits_41 ?_
            refine Rn.istore_n (lv' := [some (.ref a), some (.int (b ||| (1 <<< ((nI i) &&& 31)))), some (.int s), some (.int (nI i))]) dX4_knownBits_42 (by decide) rfl ?_
            refine Rn.goto dX4_knownBits_43 ?_
            refine Rn.iincv (j' := -1) (lv' := [some (.ref a), some (.int (b ||| (1 <<< ((nI i) &&& 31)))), some (.int s), some (.int (nI i + (-1)))]) dX4_knownBits_57 rfl rfl (by decide) rfl ?_
            refine Rn.goto dX4_knownBits_60 ?_
            exact ih _ _ (by omega) (((if_neg g1).trans (if_pos g2)).symm.trans he)
        · skip
          refine Rn.goto dX4_knownBits_24 ?_
          refine Rn.iincv (j' := -1) (lv' := [some (.ref a), some (.int b), some (.int s), some (.int (nI i + (-1)))]) dX4_knownBits_57 rfl rfl (by decide) rfl ?_
          refine Rn.goto dX4_knownBits_60 ?_
          exact ih _ _ (by omega) ((if_pos g1).symm.trans he)
  exact loop m 0 0 hm24 rfl
def lsT (b : Int32) (tm : Nat → Int32) : Nat → Int32
  | 0 => -1
  | i + 1 => if (b >>> (nI i &&& 31)) &&& 1 = 1 then mx (lsT b tm i) (tm i) else lsT b tm i
theorem tX4_lastTime {G : Gx} {l : Launch} {ly : Ly} {M : Mm} {a n : Nat} {b : Int32} (hS : iGroans ly M a) (hn : M.1 a 0 = nI n) (hn24 : n ≤ 24) : Mt G l mX4_lastTime (1, 0, 0, false) [.ref a, .int b] ly M (Is (some (.int (lsT b (M.1 (a + 1)) n))) ly M) := by
  obtain ⟨h0, h1, h2, h3, h4, h5, p0, p1, p2, p3, p4⟩ := hS
  refine Mt.is (fun Q hQ => ?_)
  refine Mt.of (lv := [some (.ref a), some (.int b), none, none]) rfl ?_
  refine Rn.iconstv (v := -1) dX4_lastTime_0 ic_m1 ?_
  refine Rn.istore_n (lv' := [some (.ref a), some (.int b), some (.int (-1)), none]) dX4_lastTime_1 (by decide) rfl ?_
  refine Rn.iconstv (v := 0) dX4_lastTime_2 ic_0 ?_
  refine Rn.istore_n (lv' := [some (.ref a), some (.int b), some (.int (-1)), some (.int 0)]) dX4_lastTime_3 (by decide) rfl ?_
  have loop : ∀ (k i : Nat) , i + k = n → Rn G l mX4_lastTime (1, 0, 0, false) 4 [some (.ref a), some (.int b), some (.int (lsT b (M.1 (a + 1)) i)), some (.int (nI i))] [] ly M Q := by
    intro k
    induction k with
    | zero =>
      intro i  hi 
      refine Rn.iload_n dX4_lastTime_4 rfl ?_
      refine Rn.aload_n dX4_lastTime_5 rfl ?_
      refine Rn.getI dX4_lastTime_6 fX4_32 rfl h0 ?_
      refine Rn.topI (y := nI n) (hn) ?_
      refine Rn.icmp_ge dX4_lastTime_9 (fun hc => ?_) (fun hc => ?_)
      · skip
        have hi : i = n := by omega
        subst hi
        refine Rn.iload_n dX4_lastTime_38 rfl ?_
        exact Rn.iret (ty := .int) dX4_lastTime_39 rfl rfl hQ
      · exact absurd (nI_le (a := n) (b := i) (by omega) (by omega)) hc
    | succ k ih =>
      intro i  hi 
      refine Rn.iload_n dX4_lastTime_4 rfl ?_
      refine Rn.aload_n dX4_lastTime_5 rfl ?_
      refine Rn.getI dX4_lastTime_6 fX4_32 rfl h0 ?_
      refine Rn.topI (y := nI n) (hn) ?_
      refine Rn.icmp_ge dX4_lastTime_9 (fun hc => ?_) (fun hc => ?_)
      · exact absurd hc (nI_ge (a := i) (b := n) (by omega) (by omega))
      · skip
        refine Rn.iload_n dX4_lastTime_12 rfl ?_
        refine Rn.iload_n dX4_lastTime_13 rfl ?_
        refine Rn.ishr dX4_lastTime_14 ?_
        refine Rn.iconstv (v := 1) dX4_lastTime_15 ic_1 ?_
        refine Rn.iand dX4_lastTime_16 ?_
        refine Rn.iconstv (v := 1) dX4_lastTime_17 ic_1 ?_
        refine Rn.icmp_ne dX4_lastTime_18 (fun g1 => ?_) (fun g1 => ?_)
        · skip
          rw [show lsT b (M.1 (a + 1)) i = lsT b (M.1 (a + 1)) (i + 1) from (if_neg g1).symm]
          refine Rn.iincN (lv' := [some (.ref a), some (.int b), some (.int (lsT b (M.1 (a + 1)) (i + 1))), some (.int (nI (i + 1)))]) dX4_lastTime_32 rfl (by decide) rfl ?_
          refine Rn.goto dX4_lastTime_35 ?_
          exact ih (i + 1) (by omega)
        · skip
          refine Rn.iload_n dX4_lastTime_21 rfl ?_
          refine Rn.aload_n dX4_lastTime_22 rfl ?_
          refine Rn.getR dX4_lastTime_23 fX4_15 rfl h0 p0 ?_
          refine Rn.iload_n dX4_lastTime_26 rfl ?_
          refine Rn.ialdN (k0 := i) dX4_lastTime_27 h1 (by omega) (by decide) ?_
          refine Rn.mmax dX4_lastTime_28 jX4_39 jw_mmax ⟨(Nat.le_of_ble_eq_true rfl), (Nat.le_of_ble_eq_true rfl)⟩ ?_
          refine Rn.topI (y := lsT b (M.1 (a + 1)) (i + 1)) ((if_pos g1).symm) ?_
          refine Rn.istore_n (lv' := [some (.ref a), some (.int b), some (.int (lsT b (M.1 (a + 1)) (i + 1))), some (.int (nI i))]) dX4_lastTime_31 (by decide) rfl ?_
          refine Rn.iincN (lv' := [some (.ref a), some (.int b), some (.int (lsT b (M.1 (a + 1)) (i + 1))), some (.int (nI (i + 1)))]) dX4_lastTime_32 rfl (by decide) rfl ?_
          refine Rn.goto dX4_lastTime_35 ?_
          exact ih (i + 1) (by omega)
  exact loop n 0 (by omega)
def okG (b t : Int32) (tm ce mu al up : Nat → Int32) (i : Nat) : Prop := (b >>> (nI i &&& 31)) &&& 1 = 1 → tm i = t → (if ab (up (ce i).toNatClampNeg) < mu i then (0 : Int32) else 1) = al i
theorem tX4_areSo {G : Gx} {l : Launch} {ly : Ly} {M : Mm} {a n q : Nat} {b t : Int32} (hS : iGroans ly M a) (hn : M.1 a 0 = nI n) (hn24 : n ≤ 24) (hq : ly[q]? = some (.inl (0, 12))) (hce : ∀ i, i < n → (b >>> (nI i &&& 31)) &&& 1 = 1 → vp_in (M.1 (a + 2) i) 12) {Q : Qt} (hQ : ((∀ i, i < n → okG b t (M.1 (a + 1)) (M.1 (a + 2)) (M.1 (a + 3)) (M.1 (a + 4)) (M.1 q) i) → Q (some (.int 1)) ly M) ∧ ((∃ i, i < n ∧ ¬ okG b t (M.1 (a + 1)) (M.1 (a + 2)) (M.1 (a + 3)) (M.1 (a + 4)) (M.1 q) i) → Q (some (.int 0)) ly M)) : Mt G l mX4_areSo (2, 0, 0, false) [.ref a, .int b, .int t, .ref q] ly M Q := by
  obtain ⟨h0, h1, h2, h3, h4, h5, p0, p1, p2, p3, p4⟩ := hS
  refine Mt.of (lv := [some (.ref a), some (.int b), some (.int t), some (.ref q), none, none]) rfl ?_
  refine Rn.iconstv (v := 0) dX4_areSo_0 ic_0 ?_
  refine Rn.istore (lv' := [some (.ref a), some (.int b), some (.int t), some (.ref q), some (.int 0), none]) dX4_areSo_1 (by decide) rfl ?_
  have loop : ∀ (k i : Nat) , i + k = n → (∀ j, j < i → okG b t (M.1 (a + 1)) (M.1 (a + 2)) (M.1 (a + 3)) (M.1 (a + 4)) (M.1 q) j) → Rn G l mX4_areSo (2, 0, 0, false) 3 [some (.ref a), some (.int b), some (.int t), some (.ref q), some (.int (nI i)), none] [] ly M Q := by
    intro k
    induction k with
    | zero =>
      intro i  hi hall
      refine Rn.iload dX4_areSo_3 rfl ?_
      refine Rn.aload_n dX4_areSo_5 rfl ?_
      refine Rn.getI dX4_areSo_6 fX4_32 rfl h0 ?_
      refine Rn.topI (y := nI n) (hn) ?_
      refine Rn.icmp_ge dX4_areSo_9 (fun hc => ?_) (fun hc => ?_)
      · skip
        have hi : i = n := by omega
        subst hi
        refine Rn.iconstv (v := 1) dX4_areSo_90 ic_1 ?_
        exact Rn.iret (ty := .boolean) dX4_areSo_91 rfl rfl (hQ.1 hall)
      · exact absurd (nI_le (a := n) (b := i) (by omega) (by omega)) hc
    | succ k ih =>
      intro i  hi hall
      refine Rn.iload dX4_areSo_3 rfl ?_
      refine Rn.aload_n dX4_areSo_5 rfl ?_
      refine Rn.getI dX4_areSo_6 fX4_32 rfl h0 ?_
      refine Rn.topI (y := nI n) (hn) ?_
      refine Rn.icmp_ge dX4_areSo_9 (fun hc => ?_) (fun hc => ?_)
      · exact absurd hc (nI_ge (a := i) (b := n) (by omega) (by omega))
      · skip
        refine Rn.iload_n dX4_areSo_12 rfl ?_
        refine Rn.iload dX4_areSo_13 rfl ?_
        refine Rn.ishr dX4_areSo_15 ?_
        refine Rn.iconstv (v := 1) dX4_areSo_16 ic_1 ?_
        refine Rn.iand dX4_areSo_17 ?_
        refine Rn.iconstv (v := 1) dX4_areSo_18 ic_1 ?_
        refine Rn.icmp_ne dX4_areSo_19 (fun g1 => ?_) (fun g1 => ?_)
        · skip
          refine Rn.iconstv (v := 0) dX4_areSo_37 ic_0 ?_
          refine Rn.istore (lv' := [some (.ref a), some (.int b), some (.int t), some (.ref q), some (.int (nI i)), some (.int 0)]) dX4_areSo_38 (by decide) rfl ?_
          refine Rn.iload dX4_areSo_40 rfl ?_
          refine Rn.if_eq dX4_areSo_42 (fun k1 => ?_) (fun k1 => ?_)
          · skip
            refine Rn.iincN (lv' := [some (.ref a), some (.int b), some (.int t), some (.ref q), some (.int (nI (i + 1))), some (.int 0)]) dX4_areSo_84 rfl (by decide) rfl ?_
            refine Rn.goto dX4_areSo_87 ?_
            refine Rn.forget (lv' := [some (.ref a), some (.int b), some (.int t), some (.ref q), some (.int (nI (i + 1))), none]) (⟨rfl, ⟨rfl, ⟨rfl, ⟨rfl, ⟨rfl, trivial⟩⟩⟩⟩⟩) ?_
            exact ih (i + 1) (by omega) (lt_s hall (fun h => absurd h g1))
          · exact absurd rfl k1
        · skip
          refine Rn.aload_n dX4_areSo_22 rfl ?_
          refine Rn.getR dX4_areSo_23 fX4_15 rfl h0 p0 ?_
          refine Rn.iload dX4_areSo_26 rfl ?_
          refine Rn.ialdN (k0 := i) dX4_areSo_28 h1 (by omega) (by decide) ?_
          refine Rn.iload_n dX4_areSo_29 rfl ?_
          refine Rn.icmp_ne dX4_areSo_30 (fun g2 => ?_) (fun g2 => ?_)
          · skip
            refine Rn.iconstv (v := 0) dX4_areSo_37 ic_0 ?_
            refine Rn.istore (lv' := [some (.ref a), some (.int b), some (.int t), some (.ref q), some (.int (nI i)), some (.int 0)]) dX4_areSo_38 (by decide) rfl ?_
            refine Rn.iload dX4_areSo_40 rfl ?_
            refine Rn.if_eq dX4_areSo_42 (fun k2 => ?_) (fun k2 => ?_)
            · skip
              refine Rn.iincN (lv' := [some (.ref a), some (.int b), some (.int t), some (.ref q), some (.int (nI (i + 1))), some (.int 0)]) dX4_areSo_84 rfl (by decide) rfl ?_
              refine Rn.goto dX4_areSo_87 ?_
              refine Rn.forget (lv' := [some (.ref a), some (.int b), some (.int t), some (.ref q), some (.int (nI (i + 1))), none]) (⟨rfl, ⟨rfl, ⟨rfl, ⟨rfl, ⟨rfl, trivial⟩⟩⟩⟩⟩) ?_
              exact ih (i + 1) (by omega) (lt_s hall (fun _ h => absurd h g2))
            · exact absurd rfl k2
          · skip
            refine Rn.iconstv (v := 1) dX4_areSo_33 ic_1 ?_
            refine Rn.goto dX4_areSo_34 ?_
            refine Rn.istore (lv' := [some (.ref a), some (.int b), some (.int t), some (.ref q), some (.int (nI i)), some (.int 1)]) dX4_areSo_38 (by decide) rfl ?_
            refine Rn.iload dX4_areSo_40 rfl ?_
            refine Rn.if_eq dX4_areSo_42 (fun k3 => ?_) (fun k3 => ?_)
            · exact absurd k3 (by decide)
            · skip
              refine Rn.aload_n dX4_areSo_45 rfl ?_
              refine Rn.getR dX4_areSo_46 fX4_25 rfl h0 p3 ?_
              refine Rn.iload dX4_areSo_49 rfl ?_
              refine Rn.zaldN (k0 := i) dX4_areSo_51 h4 (by omega) (by decide) ?_
              refine Rn.aload_n dX4_areSo_52 rfl ?_
              refine Rn.aload_n dX4_areSo_53 rfl ?_
              refine Rn.getR dX4_areSo_54 fX4_19 rfl h0 p1 ?_
              refine Rn.iload dX4_areSo_57 rfl ?_
              refine Rn.ialdN (k0 := i) dX4_areSo_59 h2 (by omega) (by decide) ?_
              refine Rn.iald dX4_areSo_60 hq (hce i (by omega) g1) ?_
              refine Rn.mabs dX4_areSo_61 jX4_45 jw_mabs ⟨(Nat.le_of_ble_eq_true rfl), (Nat.le_of_ble_eq_true rfl)⟩ ?_
              refine Rn.aload_n dX4_areSo_64 rfl ?_
              refine Rn.getR dX4_areSo_65 fX4_22 rfl h0 p2 ?_
              refine Rn.iload dX4_areSo_68 rfl ?_
              refine Rn.ialdN (k0 := i) dX4_areSo_70 h3 (by omega) (by decide) ?_
              have join : ∀ y : Int32, y = (if ab (M.1 q (Int32.toNatClampNeg (M.1 (a + 2) i))) < M.1 (a + 3) i then 0 else 1) → Rn G l mX4_areSo (2, 0, 0, false) 79 [some (.ref a), some (.int b), some (.int t), some (.ref q), some (.int (nI i)), some (.int 1)] [.int y, .int (M.1 (a + 4) i)] ly M Q := by
                intro y hy
                refine Rn.icmp_eq dX4_areSo_79 (fun g4 => ?_) (fun g4 => ?_)
                · skip
                  refine Rn.iincN (lv' := [some (.ref a), some (.int b), some (.int t), some (.ref q), some (.int (nI (i + 1))), some (.int 1)]) dX4_areSo_84 rfl (by decide) rfl ?_
                  refine Rn.goto dX4_areSo_87 ?_
                  refine Rn.forget (lv' := [some (.ref a), some (.int b), some (.int t), some (.ref q), some (.int (nI (i + 1))), none]) (⟨rfl, ⟨rfl, ⟨rfl, ⟨rfl, ⟨rfl, trivial⟩⟩⟩⟩⟩) ?_
                  exact ih (i + 1) (by omega) (lt_s hall (fun _ _ => hy.symm.trans g4.symm))
                · skip
                  refine Rn.iconstv (v := 0) dX4_areSo_82 ic_0 ?_
                  exact Rn.iret (ty := .boolean) dX4_areSo_83 rfl rfl (hQ.2 ⟨i, by omega, fun h => g4 (hy.trans (h g1 g2)).symm⟩)
              refine Rn.icmp_lt dX4_areSo_71 (fun g3 => ?_) (fun g3 => ?_)
              · skip
                refine Rn.iconstv (v := 0) dX4_areSo_78 ic_0 ?_
                exact join 0 (if_pos g3).symm
              · skip
                refine Rn.iconstv (v := 1) dX4_areSo_74 ic_1 ?_
                refine Rn.goto dX4_areSo_75 ?_
                exact join 1 (if_neg g3).symm
  exact loop n 0 (by omega) lt_0
