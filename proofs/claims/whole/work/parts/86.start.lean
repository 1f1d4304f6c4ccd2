theorem tX8_start {G : Gx} {l : Launch} {ly : Ly} {M : Mm} {n : Nat} {f : Nat → Int32} (hn : n ≤ 700) (hf : tpR (M.1 1) f n) (hby : byA f n) (hX : XW ly M.2.2) {Q : Qt} (hQ : ∀ K : Mm, K.2.2 = M.2.2 → (∀ a, a ≠ 3 → K.1 a = M.1 a) → K.1 3 5 = nI n → K.1 3 1 = nI (tkP f n 0) → K.1 3 6 = nI (nx f n 0) → kdA M K f n (tkP f n 0) → Q none ly K) : Mt G l mX8_start (3, 0, 0, false) [.ref 3, .int (nI n)] ly M Q := by
  refine Mt.of (lv := [some (.ref 3), some (.int (nI n))]) rfl ?_
  refine Rn.aload_n dX8_start_0 rfl ?_
  refine Rn.iload_n dX8_start_1 rfl ?_
  refine Rn.aload_n dX8_start_2 rfl ?_
  refine Rn.getR dX8_start_3 fX8_15 rfl (xc3 hX) (show M.2.2 3 4 = some 1 from (xp3_4 hX)) ?_
  refine Rn.alen dX8_start_6 (xc1 hX) (by decide) ?_
  refine Rn.mmin dX8_start_7 jX8_35 jw_mmin ⟨(Nat.le_of_ble_eq_true rfl), (Nat.le_of_ble_eq_true rfl)⟩ ?_
  refine Rn.topI (y := nI n) ((mn_nI (a := n) (b := 700) (by omega) (by decide)).trans (by rw [show (if 700 < n then 700 else n) = n from if_neg (by omega)])) ?_
  refine Rn.putI dX8_start_10 fX8_40 rfl rfl rfl (xc3 hX) ?_
  refine Rn.aload_n dX8_start_13 rfl ?_
  refine Rn.iconstv (v := 0) dX8_start_14 ic_0 ?_
  refine Rn.putI dX8_start_15 fX8_43 rfl rfl rfl (xc3 hX) ?_
  refine Rn.meq (M2 := sI M 3 (upd (upd (M.1 3) 5 (nI n)) 6 0)) (sI_sI _ _ _ _) ?_
  refine Rn.aload_n dX8_start_18 rfl ?_
  refine Rn.callV0 dX8_start_19 vX8_46 (xc3 hX) (by decide) rfl (tX8_advance (M := sI M 3 (upd (upd (M.1 3) 5 (nI n)) 6 0)) (n := n) (i := 0) (f := f) (Q := fun v0 ly0 K => v0 = none ∧ ly0 = ly ∧ xrF (sI M 3 (upd (upd (M.1 3) 5 (nI n)) 6 0)) K ∧ K.1 3 1 = nI (tkP f n 0) ∧ K.1 3 6 = nI (nx f n 0) ∧ kdA M K f n (tkP f n 0)) ⟨rfl, hn⟩ ⟨rfl, Nat.zero_le n⟩ hf hby hX (fun K t1 t2 t3 t4 => ⟨rfl, rfl, t1, t2, t3, t4⟩)) (by decide) ⟨(Nat.le_of_ble_eq_true rfl), (Nat.le_of_ble_eq_true rfl), (Nat.le_of_ble_eq_true rfl)⟩ (fun h => by cases h) (fun v1 ly1 N1 ⟨q1, q2, t1, t2, t3, t4⟩ => ?_)
  rw [q1, q2]
  exact Rn.vret dX8_start_22 rfl (hQ N1 t1.1 (fun a a1 => (t1.2.1 a a1).trans (sI_ne a1)) (t1.2.2 5 (by omega)) t2 t3 t4)
