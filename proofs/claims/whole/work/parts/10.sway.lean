
/-- the greatest without sign of n -/
def gr (f : Nat → Int32) : Nat → Int32
  | 0 => 0
  | n + 1 => mx (gr f n) (ab (f n))
/-- a Sway at a: its three rows behind it -/
def iSway (ly : Ly) (M : Mm) (a : Nat) : Prop := ly[a]? = some (.inr 10) ∧ ly[a + 1]? = some (.inl (0, 12)) ∧ ly[a + 2]? = some (.inl (0, 12)) ∧ ly[a + 3]? = some (.inl (0, 12)) ∧ M.2.2 a 0 = some (a + 1) ∧ M.2.2 a 1 = some (a + 2) ∧ M.2.2 a 2 = some (a + 3)

theorem tX10_greatest {G : Gx} {l : Launch} {ly : Ly} {M : Mm} {a n : Nat} (hS : iSway ly M a) (hn : n ≤ 12) : Mt G l mX10_greatest (1, 0, 0, false) [.ref a, .int (nI n)] ly M (Is (some (.int (gr (M.1 (a + 1)) n))) ly M) := by
  obtain ⟨h0, h1, h2, h3, p0, p1, p2⟩ := hS
  refine Mt.of (lv := [some (.ref (a)), some (.int (nI n)), none, none]) rfl ?_
  refine Rn.iconstv (v := 0) dX10_greatest_0 ic_0 ?_
  refine Rn.istore_n (lv' := [some (.ref (a)), some (.int (nI n)), some (.int (0)), none]) dX10_greatest_1 (by decide) rfl ?_
  refine Rn.iconstv (v := 0) dX10_greatest_2 ic_0 ?_
  refine Rn.istore_n (lv' := [some (.ref (a)), some (.int (nI n)), some (.int (0)), some (.int (0))]) dX10_greatest_3 (by decide) rfl ?_
  have loop : ∀ k i : Nat, i + k = n → Rn G l mX10_greatest (1, 0, 0, false) 4 [some (.ref (a)), some (.int (nI n)), some (.int (gr (M.1 (a + 1)) i)), some (.int (nI i))] [] ly (M) (Is (some (.int (gr (M.1 (a + 1)) n))) ly M) := by
    intro k
    induction k with
    | zero =>
      intro i hi
      refine Rn.iload_n dX10_greatest_4 rfl ?_
      refine Rn.iload_n dX10_greatest_5 rfl ?_
      refine Rn.icmp_ge dX10_greatest_6 (fun hc => ?_) (fun hc => ?_)
      · subst hi
        refine Rn.iload_n dX10_greatest_29 rfl ?_
        exact Rn.iret (ty := .int) dX10_greatest_30 rfl rfl ⟨rfl, rfl, rfl⟩
      · exact absurd (nI_le (by omega) (by omega)) hc
    | succ k ih =>
      intro i hi
      refine Rn.iload_n dX10_greatest_4 rfl ?_
      refine Rn.iload_n dX10_greatest_5 rfl ?_
      refine Rn.icmp_ge dX10_greatest_6 (fun hc => ?_) (fun hc => ?_)
      · exact absurd hc (nI_ge (by omega) (by omega))
      · skip
        refine Rn.iload_n dX10_greatest_9 rfl ?_
        refine Rn.aload_n dX10_greatest_10 rfl ?_
        refine Rn.getR dX10_greatest_11 fX10_9 rfl h0 p0 ?_
        refine Rn.iload_n dX10_greatest_14 rfl ?_
        refine Rn.ialdN (k0 := i) dX10_greatest_15 h1 (by omega) (by decide) ?_
        refine Rn.mabs dX10_greatest_16 jX10_38 jw_mabs ⟨(Nat.le_of_ble_eq_true rfl), (Nat.le_of_ble_eq_true rfl)⟩ ?_
        refine Rn.mmax dX10_greatest_19 jX10_44 jw_mmax ⟨(Nat.le_of_ble_eq_true rfl), (Nat.le_of_ble_eq_true rfl)⟩ ?_
        refine Rn.istore_n (lv' := [some (.ref (a)), some (.int (nI n)), some (.int ((mx (gr (M.1 (a + 1)) i) (ab ((M).1 (a + 1) i))))), some (.int (nI i))]) dX10_greatest_22 (by decide) rfl ?_
        refine Rn.iincN (lv' := [some (.ref (a)), some (.int (nI n)), some (.int ((mx (gr (M.1 (a + 1)) i) (ab ((M).1 (a + 1) i))))), some (.int (nI (i + 1)))]) dX10_greatest_23 rfl (by decide) rfl ?_
        refine Rn.goto dX10_greatest_26 ?_
        exact ih (i + 1) (by omega)
  exact loop n 0 (by omega)
