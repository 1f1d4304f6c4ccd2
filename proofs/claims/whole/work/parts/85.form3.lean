theorem tX3_readOpen {G : Gx} {l : Launch} {ly : Ly} {M : Mm} {op k : Nat} (ho : M.1 5 5 = nI op ∧ op ≤ 8) (hk : M.1 5 4 = nI k ∧ k < 72) (hX : XW ly M.2.2) {Q : Qt} (hQ : (op = 8 → Q (some (.int 2)) ly M) ∧ (op < 8 → ∀ K : Mm, K.2.2 = M.2.2 → (∀ a, a ≠ 5 → a ≠ 6 → K.1 a = M.1 a) → K.1 6 = upd (M.1 6) k 35 → K.1 5 4 = nI (k + 1) → K.1 5 5 = nI (op + 1) → K.1 5 6 = M.1 5 6 &&& (((1 : Int32) <<< (nI (op + 1) &&& 31)) ^^^ (-1)) → K.1 5 8 = 1 → (∀ j, (j < 4 ∨ j = 7 ∨ 8 < j) → K.1 5 j = M.1 5 j) → Q (some (.int 0)) ly K)) : Mt G l mX3_readOpen (1, 0, 0, false) [.ref 5] ly M Q := by
  refine Mt.of (lv := [some (.ref 5)]) rfl ?_
  refine Rn.aload_n dX3_readOpen_0 rfl ?_
  refine Rn.getI dX3_readOpen_1 fX3_36 rfl (xc5 hX) ?_
  refine Rn.topI (y := nI op) (ho.1) ?_
  refine Rn.bipushv (v := 8) dX3_readOpen_4 bp_8 ?_
  refine Rn.icmp_lt dX3_readOpen_6 (fun g => ?_) (fun g => ?_)
  · skip
    have hlt : op < 8 := (nI_ltI (b := 8) (by omega) (by decide)).mp g
    refine Rn.aload_n dX3_readOpen_11 rfl ?_
    refine Rn.dup dX3_readOpen_12 rfl ?_
    refine Rn.getI dX3_readOpen_13 fX3_36 rfl (xc5 hX) ?_
    refine Rn.topI (y := nI op) (ho.1) ?_
    refine Rn.iconstv (v := 1) dX3_readOpen_16 ic_1 ?_
    refine Rn.iadd dX3_readOpen_17 ?_
    refine Rn.topI (y := nI (op + 1)) (nI_add op 1) ?_
    refine Rn.putI dX3_readOpen_18 fX3_36 rfl rfl rfl (xc5 hX) ?_
    refine Rn.aload_n dX3_readOpen_21 rfl ?_
    refine Rn.dup dX3_readOpen_22 rfl ?_
    refine Rn.getI dX3_readOpen_23 fX3_39 rfl (xc5 hX) ?_
    refine Rn.iconstv (v := 1) dX3_readOpen_26 ic_1 ?_
    refine Rn.aload_n dX3_readOpen_27 rfl ?_
    refine Rn.getI dX3_readOpen_28 fX3_36 rfl (xc5 hX) ?_
    refine Rn.ishl dX3_readOpen_31 ?_
    refine Rn.iconstv (v := -1) dX3_readOpen_32 ic_m1 ?_
    refine Rn.ixor dX3_readOpen_33 ?_
    refine Rn.iand dX3_readOpen_34 ?_
    refine Rn.putI dX3_readOpen_35 fX3_39 rfl rfl rfl (xc5 hX) ?_
    refine Rn.meq (M2 := sI M 5 (upd (upd (M.1 5) 5 (nI (op + 1))) 6 ((M.1 5 6) &&& ((1 <<< ((nI (op + 1)) &&& 31)) ^^^ (-1))))) (sI_sI _ _ _ _) ?_
    refine Rn.aload_n dX3_readOpen_38 rfl ?_
    refine Rn.bipushv (v := 35) dX3_readOpen_39 bp_35 ?_
    refine Rn.callV1 dX3_readOpen_41 vX3_80 (xc5 hX) (by decide) rfl (tX3_await (M := sI M 5 (upd (upd (M.1 5) 5 (nI (op + 1))) 6 ((M.1 5 6) &&& ((1 <<< ((nI (op + 1)) &&& 31)) ^^^ (-1))))) (k := k) (x := 35) (Q := fun v0 ly0 K => v0 = none ∧ ly0 = ly ∧ K = sI (sI (sI M 5 (upd (upd (M.1 5) 5 (nI (op + 1))) 6 ((M.1 5 6) &&& ((1 <<< ((nI (op + 1)) &&& 31)) ^^^ (-1))))) 6 (upd (M.1 6) k 35)) 5 (upd ((sI M 5 (upd (upd (M.1 5) 5 (nI (op + 1))) 6 ((M.1 5 6) &&& ((1 <<< ((nI (op + 1)) &&& 31)) ^^^ (-1))))).1 5) 4 (nI (k + 1)))) hk hX ⟨rfl, rfl, rfl⟩) (by decide) ⟨(Nat.le_of_ble_eq_true rfl), (Nat.le_of_ble_eq_true rfl), (Nat.le_of_ble_eq_true rfl)⟩ (fun h => by cases h) (fun v1 ly1 N1 ⟨q1, q2, q3⟩ => ?_)
    rw [q1, q2]
    have f5 : N1.1 5 = upd ((sI M 5 (upd (upd (M.1 5) 5 (nI (op + 1))) 6 ((M.1 5 6) &&& ((1 <<< ((nI (op + 1)) &&& 31)) ^^^ (-1))))).1 5) 4 (nI (k + 1)) := by rw [q3]; exact sI_at _ _ _
    have f6 : N1.1 6 = upd (M.1 6) k 35 := by rw [q3, sI_ne (by decide)]; exact sI_at _ _ _
    have fo : ∀ a, a ≠ 5 → a ≠ 6 → N1.1 a = M.1 a := fun a a1 a2 => by rw [q3, sI_ne a1, sI_ne a2, sI_ne a1]
    have fr : N1.2.2 = M.2.2 := by rw [q3]; rfl
    clear q3
    have hXN1 : XW ly N1.2.2 := by rw [fr]; exact hX
    refine Rn.aload_n dX3_readOpen_44 rfl ?_
    refine Rn.iconstv (v := 1) dX3_readOpen_45 ic_1 ?_
    refine Rn.putZ dX3_readOpen_46 fX3_46 rfl rfl rfl (by decide) (xc5 hXN1) ?_
    refine Rn.iconstv (v := 0) dX3_readOpen_49 ic_0 ?_
    refine Rn.iret (ty := .int) dX3_readOpen_50 rfl rfl (hQ.2 hlt _ fr (fun a a1 a2 => (sI_ne a1).trans (fo a a1 a2)) ((sI_ne (by decide)).trans f6) ?_ ?_ ?_ rfl (fun j hj => ?_))
    · show upd (N1.1 5) 8 1 4 = _
      rw [pk_un (by decide), f5]; exact pk_us
    · show upd (N1.1 5) 8 1 5 = _
      rw [pk_un (by decide), f5, pk_un (by decide)]; rfl
    · show upd (N1.1 5) 8 1 6 = _
      rw [pk_un (by decide), f5, pk_un (by decide)]; rfl
    · show upd (N1.1 5) 8 1 j = _
      rw [pk_un (by omega), f5, pk_un (by omega)]
      show upd (upd (M.1 5) 5 _) 6 _ j = _
      rw [pk_un (by omega), pk_un (by omega)]
  · skip
    refine Rn.iconstv (v := 2) dX3_readOpen_9 ic_2 ?_
    exact Rn.iret (ty := .int) dX3_readOpen_10 rfl rfl (hQ.1 (by have h9 : ¬ op < 8 := fun h => g ((nI_ltI (b := 8) (by omega) (by decide)).mpr h); omega))
