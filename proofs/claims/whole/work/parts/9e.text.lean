def D0p (r j : Nat) : Int32 := if r = 0 then (if j = 0 then 8 else if j = 1 ∨ j = 2 then 4 else if j = 3 then 5 else 0) else 0
/-- the plan before its first line -/
def p0 : Pl := (D0p, fun _ => 0, fun _ => [], 0, fun _ => false, false)
theorem tX7_clear {G : Gx} {l : Launch} {ly : Ly} {M : Mm} {pl : Nat} (hp7 : pl = 7 ∨ pl = 41) (hX : XW ly M.2.2) : Mt G l mX7_clear (2, 0, 0, false) [.ref pl] ly M (fun v ly2 K => v = none ∧ ly2 = ly ∧ K.2.2 = M.2.2 ∧ (∀ a, ¬ (pl ≤ a ∧ a ≤ pl + 33) → K.1 a = M.1 a) ∧ CPl K pl p0) := by
  refine Mt.of (lv := [some (.ref pl), none]) rfl ?_
  refine Rn.aload_n dX7_clear_0 rfl ?_
  refine Rn.bipushv (v := 8) dX7_clear_1 bp_8 ?_
  refine Rn.putI dX7_clear_3 fX7_57 rfl rfl rfl (pc0 hX hp7) ?_
  refine Rn.aload_n dX7_clear_6 rfl ?_
  refine Rn.iconstv (v := 4) dX7_clear_7 ic_4 ?_
  refine Rn.putI dX7_clear_8 fX7_61 rfl rfl rfl (pc0 hX hp7) ?_
  refine Rn.meq (M2 := sI M pl (upd (upd (M.1 pl) 0 8) 1 4)) ((congrArg (fun r9 => sI (sI M pl (upd (M.1 pl) 0 8)) pl (upd r9 1 4)) (sI_at _ _ _)).trans (sI_sI _ _ _ _)) ?_
  refine Rn.aload_n dX7_clear_11 rfl ?_
  refine Rn.iconstv (v := 4) dX7_clear_12 ic_4 ?_
  refine Rn.putI dX7_clear_13 fX7_64 rfl rfl rfl (pc0 hX hp7) ?_
  refine Rn.meq (M2 := sI M pl (upd (upd (upd (M.1 pl) 0 8) 1 4) 2 4)) ((congrArg (fun r9 => sI (sI M pl (upd (upd (M.1 pl) 0 8) 1 4)) pl (upd r9 2 4)) (sI_at _ _ _)).trans (sI_sI _ _ _ _)) ?_
  refine Rn.aload_n dX7_clear_16 rfl ?_
  refine Rn.iconstv (v := 5) dX7_clear_17 ic_5 ?_
  refine Rn.putI dX7_clear_18 fX7_67 rfl rfl rfl (pc0 hX hp7) ?_
  refine Rn.meq (M2 := sI M pl (upd (upd (upd (upd (M.1 pl) 0 8) 1 4) 2 4) 3 5)) ((congrArg (fun r9 => sI (sI M pl (upd (upd (upd (M.1 pl) 0 8) 1 4) 2 4)) pl (upd r9 3 5)) (sI_at _ _ _)).trans (sI_sI _ _ _ _)) ?_
  refine Rn.aload_n dX7_clear_21 rfl ?_
  refine Rn.iconstv (v := 0) dX7_clear_22 ic_0 ?_
  refine Rn.putI dX7_clear_23 fX7_70 rfl rfl rfl (pc0 hX hp7) ?_
  refine Rn.meq (M2 := sI M pl (upd (upd (upd (upd (upd (M.1 pl) 0 8) 1 4) 2 4) 3 5) 4 0)) ((congrArg (fun r9 => sI (sI M pl (upd (upd (upd (upd (M.1 pl) 0 8) 1 4) 2 4) 3 5)) pl (upd r9 4 0)) (sI_at _ _ _)).trans (sI_sI _ _ _ _)) ?_
  refine Rn.aload_n dX7_clear_26 rfl ?_
  refine Rn.iconstv (v := 0) dX7_clear_27 ic_0 ?_
  refine Rn.putI dX7_clear_28 fX7_73 rfl rfl rfl (pc0 hX hp7) ?_
  refine Rn.meq (M2 := sI M pl (upd (upd (upd (upd (upd (upd (M.1 pl) 0 8) 1 4) 2 4) 3 5) 4 0) 5 0)) ((congrArg (fun r9 => sI (sI M pl (upd (upd (upd (upd (upd (M.1 pl) 0 8) 1 4) 2 4) 3 5) 4 0)) pl (upd r9 5 0)) (sI_at _ _ _)).trans (sI_sI _ _ _ _)) ?_
  refine Rn.aload_n dX7_clear_31 rfl ?_
  refine Rn.iconstv (v := 0) dX7_clear_32 ic_0 ?_
  refine Rn.putI dX7_clear_33 fX7_76 rfl rfl rfl (pc0 hX hp7) ?_
  refine Rn.meq (M2 := sI M pl (upd (upd (upd (upd (upd (upd (upd (M.1 pl) 0 8) 1 4) 2 4) 3 5) 4 0) 5 0) 6 0)) ((congrArg (fun r9 => sI (sI M pl (upd (upd (upd (upd (upd (upd (M.1 pl) 0 8) 1 4) 2 4) 3 5) 4 0) 5 0)) pl (upd r9 6 0)) (sI_at _ _ _)).trans (sI_sI _ _ _ _)) ?_
  refine Rn.aload_n dX7_clear_36 rfl ?_
  refine Rn.iconstv (v := 0) dX7_clear_37 ic_0 ?_
  refine Rn.putI dX7_clear_38 fX7_79 rfl rfl rfl (pc0 hX hp7) ?_
  refine Rn.meq (M2 := sI M pl (upd (upd (upd (upd (upd (upd (upd (upd (M.1 pl) 0 8) 1 4) 2 4) 3 5) 4 0) 5 0) 6 0) 7 0)) ((congrArg (fun r9 => sI (sI M pl (upd (upd (upd (upd (upd (upd (upd (M.1 pl) 0 8) 1 4) 2 4) 3 5) 4 0) 5 0) 6 0)) pl (upd r9 7 0)) (sI_at _ _ _)).trans (sI_sI _ _ _ _)) ?_
  refine Rn.aload_n dX7_clear_41 rfl ?_
  refine Rn.iconstv (v := 0) dX7_clear_42 ic_0 ?_
  refine Rn.putI dX7_clear_43 fX7_82 rfl rfl rfl (pc0 hX hp7) ?_
  refine Rn.meq (M2 := sI M pl (upd (upd (upd (upd (upd (upd (upd (upd (upd (M.1 pl) 0 8) 1 4) 2 4) 3 5) 4 0) 5 0) 6 0) 7 0) 8 0)) ((congrArg (fun r9 => sI (sI M pl (upd (upd (upd (upd (upd (upd (upd (upd (M.1 pl) 0 8) 1 4) 2 4) 3 5) 4 0) 5 0) 6 0) 7 0)) pl (upd r9 8 0)) (sI_at _ _ _)).trans (sI_sI _ _ _ _)) ?_
  refine Rn.aload_n dX7_clear_46 rfl ?_
  refine Rn.getR dX7_clear_47 fX7_9 rfl (pc0 hX hp7) (show M.2.2 pl 9 = some (pl + 1) from (pp0_9 hX hp7)) ?_
  refine Rn.iconstv (v := 0) dX7_clear_50 ic_0 ?_
  refine Rn.callS2 dX7_clear_51 vX7_85 (tJ7_fill (M := sI M pl (upd (upd (upd (upd (upd (upd (upd (upd (upd (M.1 pl) 0 8) 1 4) 2 4) 3 5) 4 0) 5 0) 6 0) 7 0) 8 0)) (a := pl + 1) (N := 4) (v := 0) (pc1 hX hp7) (by decide)) (by decide) ⟨(Nat.le_of_ble_eq_true rfl), (Nat.le_of_ble_eq_true rfl), (Nat.le_of_ble_eq_true rfl)⟩ (fun h => by cases h) (fun v1 ly1 M1 ⟨q1, q2, q3⟩ => ?_)
  rw [q1, q2, q3]
  refine Rn.meq (M2 := sI (sI M pl (upd (upd (upd (upd (upd (upd (upd (upd (upd (M.1 pl) 0 8) 1 4) 2 4) 3 5) 4 0) 5 0) 6 0) 7 0) 8 0)) (pl + 1) (pre 4 (fun _ => 0) (M.1 (pl + 1)))) (congrArg (fun r9 => sI (sI M pl (upd (upd (upd (upd (upd (upd (upd (upd (upd (M.1 pl) 0 8) 1 4) 2 4) 3 5) 4 0) 5 0) 6 0) 7 0) 8 0)) (pl + 1) (pre 4 (fun _ => 0) r9)) (sI_ne (by omega))) ?_
  refine Rn.aload_n dX7_clear_54 rfl ?_
  refine Rn.getR dX7_clear_55 fX7_23 rfl (pc0 hX hp7) (show M.2.2 pl 11 = some (pl + 7) from (pp0_11 hX hp7)) ?_
  refine Rn.iconstv (v := 0) dX7_clear_58 ic_0 ?_
  refine Rn.putI dX7_clear_59 fX7_91 rfl rfl rfl (pc7 hX hp7) ?_
  refine Rn.meq (M2 := sI (sI (sI M pl (upd (upd (upd (upd (upd (upd (upd (upd (upd (M.1 pl) 0 8) 1 4) 2 4) 3 5) 4 0) 5 0) 6 0) 7 0) 8 0)) (pl + 1) (pre 4 (fun _ => 0) (M.1 (pl + 1)))) (pl + 7) (upd (M.1 (pl + 7)) 0 0)) (congrArg (fun r9 => sI (sI (sI M pl (upd (upd (upd (upd (upd (upd (upd (upd (upd (M.1 pl) 0 8) 1 4) 2 4) 3 5) 4 0) 5 0) 6 0) 7 0) 8 0)) (pl + 1) (pre 4 (fun _ => 0) (M.1 (pl + 1)))) (pl + 7) (upd r9 0 0)) ((sI_ne (show pl + 7 ≠ pl + 1 by omega)).trans (sI_ne (show pl + 7 ≠ pl by omega)))) ?_
  refine Rn.aload_n dX7_clear_62 rfl ?_
  refine Rn.getR dX7_clear_63 fX7_30 rfl (pc0 hX hp7) (show M.2.2 pl 12 = some (pl + 13) from (pp0_12 hX hp7)) ?_
  refine Rn.iconstv (v := 0) dX7_clear_66 ic_0 ?_
  refine Rn.putI dX7_clear_67 fX7_94 rfl rfl rfl (pc13 hX hp7) ?_
  refine Rn.meq (M2 := sI (sI (sI (sI M pl (upd (upd (upd (upd (upd (upd (upd (upd (upd (M.1 pl) 0 8) 1 4) 2 4) 3 5) 4 0) 5 0) 6 0) 7 0) 8 0)) (pl + 1) (pre 4 (fun _ => 0) (M.1 (pl + 1)))) (pl + 7) (upd (M.1 (pl + 7)) 0 0)) (pl + 13) (upd (M.1 (pl + 13)) 0 0)) (congrArg (fun r9 => sI (sI (sI (sI M pl (upd (upd (upd (upd (upd (upd (upd (upd (upd (M.1 pl) 0 8) 1 4) 2 4) 3 5) 4 0) 5 0) 6 0) 7 0) 8 0)) (pl + 1) (pre 4 (fun _ => 0) (M.1 (pl + 1)))) (pl + 7) (upd (M.1 (pl + 7)) 0 0)) (pl + 13) (upd r9 0 0)) ((sI_ne (show pl + 13 ≠ pl + 7 by omega)).trans ((sI_ne (show pl + 13 ≠ pl + 1 by omega)).trans (sI_ne (show pl + 13 ≠ pl by omega))))) ?_
  refine Rn.aload_n dX7_clear_70 rfl ?_
  refine Rn.getR dX7_clear_71 fX7_43 rfl (pc0 hX hp7) (show M.2.2 pl 15 = some (pl + 18) from (pp0_15 hX hp7)) ?_
  refine Rn.iconstv (v := 0) dX7_clear_74 ic_0 ?_
  refine Rn.putI dX7_clear_75 fX7_95 rfl rfl rfl (pc18 hX hp7) ?_
  refine Rn.meq (M2 := sI (sI (sI (sI (sI M pl (upd (upd (upd (upd (upd (upd (upd (upd (upd (M.1 pl) 0 8) 1 4) 2 4) 3 5) 4 0) 5 0) 6 0) 7 0) 8 0)) (pl + 1) (pre 4 (fun _ => 0) (M.1 (pl + 1)))) (pl + 7) (upd (M.1 (pl + 7)) 0 0)) (pl + 13) (upd (M.1 (pl + 13)) 0 0)) (pl + 18) (upd (M.1 (pl + 18)) 0 0)) (congrArg (fun r9 => sI (sI (sI (sI (sI M pl (upd (upd (upd (upd (upd (upd (upd (upd (upd (M.1 pl) 0 8) 1 4) 2 4) 3 5) 4 0) 5 0) 6 0) 7 0) 8 0)) (pl + 1) (pre 4 (fun _ => 0) (M.1 (pl + 1)))) (pl + 7) (upd (M.1 (pl + 7)) 0 0)) (pl + 13) (upd (M.1 (pl + 13)) 0 0)) (pl + 18) (upd r9 0 0)) ((sI_ne (show pl + 18 ≠ pl + 13 by omega)).trans ((sI_ne (show pl + 18 ≠ pl + 7 by omega)).trans ((sI_ne (show pl + 18 ≠ pl + 1 by omega)).trans (sI_ne (show pl + 18 ≠ pl by omega)))))) ?_
  refine Rn.aload_n dX7_clear_78 rfl ?_
  refine Rn.getR dX7_clear_79 fX7_47 rfl (pc0 hX hp7) (show M.2.2 pl 16 = some (pl + 21) from (pp0_16 hX hp7)) ?_
  refine Rn.iconstv (v := 0) dX7_clear_82 ic_0 ?_
  refine Rn.putI dX7_clear_83 fX7_95 rfl rfl rfl (pc21 hX hp7) ?_
  refine Rn.meq (M2 := sI (sI (sI (sI (sI (sI M pl (upd (upd (upd (upd (upd (upd (upd (upd (upd (M.1 pl) 0 8) 1 4) 2 4) 3 5) 4 0) 5 0) 6 0) 7 0) 8 0)) (pl + 1) (pre 4 (fun _ => 0) (M.1 (pl + 1)))) (pl + 7) (upd (M.1 (pl + 7)) 0 0)) (pl + 13) (upd (M.1 (pl + 13)) 0 0)) (pl + 18) (upd (M.1 (pl + 18)) 0 0)) (pl + 21) (upd (M.1 (pl + 21)) 0 0)) (congrArg (fun r9 => sI (sI (sI (sI (sI (sI M pl (upd (upd (upd (upd (upd (upd (upd (upd (upd (M.1 pl) 0 8) 1 4) 2 4) 3 5) 4 0) 5 0) 6 0) 7 0) 8 0)) (pl + 1) (pre 4 (fun _ => 0) (M.1 (pl + 1)))) (pl + 7) (upd (M.1 (pl + 7)) 0 0)) (pl + 13) (upd (M.1 (pl + 13)) 0 0)) (pl + 18) (upd (M.1 (pl + 18)) 0 0)) (pl + 21) (upd r9 0 0)) ((sI_ne (show pl + 21 ≠ pl + 18 by omega)).trans ((sI_ne (show pl + 21 ≠ pl + 13 by omega)).trans ((sI_ne (show pl + 21 ≠ pl + 7 by omega)).trans ((sI_ne (show pl + 21 ≠ pl + 1 by omega)).trans (sI_ne (show pl + 21 ≠ pl by omega))))))) ?_
  refine Rn.iconstv (v := 0) dX7_clear_86 ic_0 ?_
  refine Rn.istore_n (lv' := [some (.ref pl), some (.int 0)]) dX7_clear_87 (by decide) rfl ?_
  refine Rn.iload_n dX7_clear_88 rfl ?_
  refine Rn.iconstv (v := 3) dX7_clear_89 ic_3 ?_
  show Rn G l mX7_clear (2, 0, 0, false) 90 [some (.ref pl), some (.int 0)] [.int 3, .int 0] ly (sI (sI (sI (sI (sI (sI M pl (upd (upd (upd (upd (upd (upd (upd (upd (upd (M.1 pl) 0 8) 1 4) 2 4) 3 5) 4 0) 5 0) 6 0) 7 0) 8 0)) (pl + 1) (pre 4 (fun _ => 0) (M.1 (pl + 1)))) (pl + 7) (upd (M.1 (pl + 7)) 0 0)) (pl + 13) (upd (M.1 (pl + 13)) 0 0)) (pl + 18) (upd (M.1 (pl + 18)) 0 0)) (pl + 21) (upd (M.1 (pl + 21)) 0 0)) (fun v ly2 K => v = none ∧ ly2 = ly ∧ K.2.2 = M.2.2 ∧ (∀ a, ¬ (pl ≤ a ∧ a ≤ pl + 33) → K.1 a = M.1 a) ∧ CPl K pl p0)
  refine Rn.icmp_ge dX7_clear_90 (fun h9 => (by first | exact absurd h9 (by decide) | exact absurd (by decide) h9)) (fun h9 => ?_)
  refine Rn.aload_n dX7_clear_93 rfl ?_
  refine Rn.getR dX7_clear_94 fX7_50 rfl (pc0 hX hp7) (show M.2.2 pl 17 = some (pl + 24) from (pp0_17 hX hp7)) ?_
  refine Rn.iload_n dX7_clear_97 rfl ?_
  refine Rn.aldq (a2 := pl + 25) dX7_clear_98 (pc24 hX hp7) (by unfold vp_in; decide) (pp24_0 hX hp7) ?_
  refine Rn.iconstv (v := 0) dX7_clear_99 ic_0 ?_
  refine Rn.putI dX7_clear_100 fX7_95 rfl rfl rfl (pc25 hX hp7) ?_
  refine Rn.meq (M2 := sI (sI (sI (sI (sI (sI (sI M pl (upd (upd (upd (upd (upd (upd (upd (upd (upd (M.1 pl) 0 8) 1 4) 2 4) 3 5) 4 0) 5 0) 6 0) 7 0) 8 0)) (pl + 1) (pre 4 (fun _ => 0) (M.1 (pl + 1)))) (pl + 7) (upd (M.1 (pl + 7)) 0 0)) (pl + 13) (upd (M.1 (pl + 13)) 0 0)) (pl + 18) (upd (M.1 (pl + 18)) 0 0)) (pl + 21) (upd (M.1 (pl + 21)) 0 0)) (pl + 25) (upd (M.1 (pl + 25)) 0 0)) (congrArg (fun r9 => sI (sI (sI (sI (sI (sI (sI M pl (upd (upd (upd (upd (upd (upd (upd (upd (upd (M.1 pl) 0 8) 1 4) 2 4) 3 5) 4 0) 5 0) 6 0) 7 0) 8 0)) (pl + 1) (pre 4 (fun _ => 0) (M.1 (pl + 1)))) (pl + 7) (upd (M.1 (pl + 7)) 0 0)) (pl + 13) (upd (M.1 (pl + 13)) 0 0)) (pl + 18) (upd (M.1 (pl + 18)) 0 0)) (pl + 21) (upd (M.1 (pl + 21)) 0 0)) (pl + 25) (upd r9 0 0)) ((sI_ne (show pl + 25 ≠ pl + 21 by omega)).trans ((sI_ne (show pl + 25 ≠ pl + 18 by omega)).trans ((sI_ne (show pl + 25 ≠ pl + 13 by omega)).trans ((sI_ne (show pl + 25 ≠ pl + 7 by omega)).trans ((sI_ne (show pl + 25 ≠ pl + 1 by omega)).trans (sI_ne (show pl + 25 ≠ pl by omega)))))))) ?_
  refine Rn.iincv (j' := 1) (lv' := [some (.ref pl), some (.int (0 + 1))]) dX7_clear_103 rfl rfl (by decide) rfl ?_
  show Rn G l mX7_clear (2, 0, 0, false) 106 [some (.ref pl), some (.int 1)] [] ly (sI (sI (sI (sI (sI (sI (sI M pl (upd (upd (upd (upd (upd (upd (upd (upd (upd (M.1 pl) 0 8) 1 4) 2 4) 3 5) 4 0) 5 0) 6 0) 7 0) 8 0)) (pl + 1) (pre 4 (fun _ => 0) (M.1 (pl + 1)))) (pl + 7) (upd (M.1 (pl + 7)) 0 0)) (pl + 13) (upd (M.1 (pl + 13)) 0 0)) (pl + 18) (upd (M.1 (pl + 18)) 0 0)) (pl + 21) (upd (M.1 (pl + 21)) 0 0)) (pl + 25) (upd (M.1 (pl + 25)) 0 0)) (fun v ly2 K => v = none ∧ ly2 = ly ∧ K.2.2 = M.2.2 ∧ (∀ a, ¬ (pl ≤ a ∧ a ≤ pl + 33) → K.1 a = M.1 a) ∧ CPl K pl p0)
  refine Rn.goto dX7_clear_106 ?_
  refine Rn.iload_n dX7_clear_88 rfl ?_
  refine Rn.iconstv (v := 3) dX7_clear_89 ic_3 ?_
  show Rn G l mX7_clear (2, 0, 0, false) 90 [some (.ref pl), some (.int 1)] [.int 3, .int 1] ly (sI (sI (sI (sI (sI (sI (sI M pl (upd (upd (upd (upd (upd (upd (upd (upd (upd (M.1 pl) 0 8) 1 4) 2 4) 3 5) 4 0) 5 0) 6 0) 7 0) 8 0)) (pl + 1) (pre 4 (fun _ => 0) (M.1 (pl + 1)))) (pl + 7) (upd (M.1 (pl + 7)) 0 0)) (pl + 13) (upd (M.1 (pl + 13)) 0 0)) (pl + 18) (upd (M.1 (pl + 18)) 0 0)) (pl + 21) (upd (M.1 (pl + 21)) 0 0)) (pl + 25) (upd (M.1 (pl + 25)) 0 0)) (fun v ly2 K => v = none ∧ ly2 = ly ∧ K.2.2 = M.2.2 ∧ (∀ a, ¬ (pl ≤ a ∧ a ≤ pl + 33) → K.1 a = M.1 a) ∧ CPl K pl p0)
  refine Rn.icmp_ge dX7_clear_90 (fun h9 => (by first | exact absurd h9 (by decide) | exact absurd (by decide) h9)) (fun h9 => ?_)
  refine Rn.aload_n dX7_clear_93 rfl ?_
  refine Rn.getR dX7_clear_94 fX7_50 rfl (pc0 hX hp7) (show M.2.2 pl 17 = some (pl + 24) from (pp0_17 hX hp7)) ?_
  refine Rn.iload_n dX7_clear_97 rfl ?_
  refine Rn.aldq (a2 := pl + 28) dX7_clear_98 (pc24 hX hp7) (by unfold vp_in; decide) (pp24_1 hX hp7) ?_
  refine Rn.iconstv (v := 0) dX7_clear_99 ic_0 ?_
  refine Rn.putI dX7_clear_100 fX7_95 rfl rfl rfl (pc28 hX hp7) ?_
  refine Rn.meq (M2 := sI (sI (sI (sI (sI (sI (sI (sI M pl (upd (upd (upd (upd (upd (upd (upd (upd (upd (M.1 pl) 0 8) 1 4) 2 4) 3 5) 4 0) 5 0) 6 0) 7 0) 8 0)) (pl + 1) (pre 4 (fun _ => 0) (M.1 (pl + 1)))) (pl + 7) (upd (M.1 (pl + 7)) 0 0)) (pl + 13) (upd (M.1 (pl + 13)) 0 0)) (pl + 18) (upd (M.1 (pl + 18)) 0 0)) (pl + 21) (upd (M.1 (pl + 21)) 0 0)) (pl + 25) (upd (M.1 (pl + 25)) 0 0)) (pl + 28) (upd (M.1 (pl + 28)) 0 0)) (congrArg (fun r9 => sI (sI (sI (sI (sI (sI (sI (sI M pl (upd (upd (upd (upd (upd (upd (upd (upd (upd (M.1 pl) 0 8) 1 4) 2 4) 3 5) 4 0) 5 0) 6 0) 7 0) 8 0)) (pl + 1) (pre 4 (fun _ => 0) (M.1 (pl + 1)))) (pl + 7) (upd (M.1 (pl + 7)) 0 0)) (pl + 13) (upd (M.1 (pl + 13)) 0 0)) (pl + 18) (upd (M.1 (pl + 18)) 0 0)) (pl + 21) (upd (M.1 (pl + 21)) 0 0)) (pl + 25) (upd (M.1 (pl + 25)) 0 0)) (pl + 28) (upd r9 0 0)) ((sI_ne (show pl + 28 ≠ pl + 25 by omega)).trans ((sI_ne (show pl + 28 ≠ pl + 21 by omega)).trans ((sI_ne (show pl + 28 ≠ pl + 18 by omega)).trans ((sI_ne (show pl + 28 ≠ pl + 13 by omega)).trans ((sI_ne (show pl + 28 ≠ pl + 7 by omega)).trans ((sI_ne (show pl + 28 ≠ pl + 1 by omega)).trans (sI_ne (show pl + 28 ≠ pl by omega))))))))) ?_
  refine Rn.iincv (j' := 1) (lv' := [some (.ref pl), some (.int (1 + 1))]) dX7_clear_103 rfl rfl (by decide) rfl ?_
  show Rn G l mX7_clear (2, 0, 0, false) 106 [some (.ref pl), some (.int 2)] [] ly (sI (sI (sI (sI (sI (sI (sI (sI M pl (upd (upd (upd (upd (upd (upd (upd (upd (upd (M.1 pl) 0 8) 1 4) 2 4) 3 5) 4 0) 5 0) 6 0) 7 0) 8 0)) (pl + 1) (pre 4 (fun _ => 0) (M.1 (pl + 1)))) (pl + 7) (upd (M.1 (pl + 7)) 0 0)) (pl + 13) (upd (M.1 (pl + 13)) 0 0)) (pl + 18) (upd (M.1 (pl + 18)) 0 0)) (pl + 21) (upd (M.1 (pl + 21)) 0 0)) (pl + 25) (upd (M.1 (pl + 25)) 0 0)) (pl + 28) (upd (M.1 (pl + 28)) 0 0)) (fun v ly2 K => v = none ∧ ly2 = ly ∧ K.2.2 = M.2.2 ∧ (∀ a, ¬ (pl ≤ a ∧ a ≤ pl + 33) → K.1 a = M.1 a) ∧ CPl K pl p0)
  refine Rn.goto dX7_clear_106 ?_
  refine Rn.iload_n dX7_clear_88 rfl ?_
  refine Rn.iconstv (v := 3) dX7_clear_89 ic_3 ?_
  show Rn G l mX7_clear (2, 0, 0, false) 90 [some (.ref pl), some (.int 2)] [.int 3, .int 2] ly (sI (sI (sI (sI (sI (sI (sI (sI M pl (upd (upd (upd (upd (upd (upd (upd (upd (upd (M.1 pl) 0 8) 1 4) 2 4) 3 5) 4 0) 5 0) 6 0) 7 0) 8 0)) (pl + 1) (pre 4 (fun _ => 0) (M.1 (pl + 1)))) (pl + 7) (upd (M.1 (pl + 7)) 0 0)) (pl + 13) (upd (M.1 (pl + 13)) 0 0)) (pl + 18) (upd (M.1 (pl + 18)) 0 0)) (pl + 21) (upd (M.1 (pl + 21)) 0 0)) (pl + 25) (upd (M.1 (pl + 25)) 0 0)) (pl + 28) (upd (M.1 (pl + 28)) 0 0)) (fun v ly2 K => v = none ∧ ly2 = ly ∧ K.2.2 = M.2.2 ∧ (∀ a, ¬ (pl ≤ a ∧ a ≤ pl + 33) → K.1 a = M.1 a) ∧ CPl K pl p0)
  refine Rn.icmp_ge dX7_clear_90 (fun h9 => (by first | exact absurd h9 (by decide) | exact absurd (by decide) h9)) (fun h9 => ?_)
  refine Rn.aload_n dX7_clear_93 rfl ?_
  refine Rn.getR dX7_clear_94 fX7_50 rfl (pc0 hX hp7) (show M.2.2 pl 17 = some (pl + 24) from (pp0_17 hX hp7)) ?_
  refine Rn.iload_n dX7_clear_97 rfl ?_
  refine Rn.aldq (a2 := pl + 31) dX7_clear_98 (pc24 hX hp7) (by unfold vp_in; decide) (pp24_2 hX hp7) ?_
  refine Rn.iconstv (v := 0) dX7_clear_99 ic_0 ?_
  refine Rn.putI dX7_clear_100 fX7_95 rfl rfl rfl (pc31 hX hp7) ?_
  refine Rn.meq (M2 := sI (sI (sI (sI (sI (sI (sI (sI (sI M pl (upd (upd (upd (upd (upd (upd (upd (upd (upd (M.1 pl) 0 8) 1 4) 2 4) 3 5) 4 0) 5 0) 6 0) 7 0) 8 0)) (pl + 1) (pre 4 (fun _ => 0) (M.1 (pl + 1)))) (pl + 7) (upd (M.1 (pl + 7)) 0 0)) (pl + 13) (upd (M.1 (pl + 13)) 0 0)) (pl + 18) (upd (M.1 (pl + 18)) 0 0)) (pl + 21) (upd (M.1 (pl + 21)) 0 0)) (pl + 25) (upd (M.1 (pl + 25)) 0 0)) (pl + 28) (upd (M.1 (pl + 28)) 0 0)) (pl + 31) (upd (M.1 (pl + 31)) 0 0)) (congrArg (fun r9 => sI (sI (sI (sI (sI (sI (sI (sI (sI M pl (upd (upd (upd (upd (upd (upd (upd (upd (upd (M.1 pl) 0 8) 1 4) 2 4) 3 5) 4 0) 5 0) 6 0) 7 0) 8 0)) (pl + 1) (pre 4 (fun _ => 0) (M.1 (pl + 1)))) (pl + 7) (upd (M.1 (pl + 7)) 0 0)) (pl + 13) (upd (M.1 (pl + 13)) 0 0)) (pl + 18) (upd (M.1 (pl + 18)) 0 0)) (pl + 21) (upd (M.1 (pl + 21)) 0 0)) (pl + 25) (upd (M.1 (pl + 25)) 0 0)) (pl + 28) (upd (M.1 (pl + 28)) 0 0)) (pl + 31) (upd r9 0 0)) ((sI_ne (show pl + 31 ≠ pl + 28 by omega)).trans ((sI_ne (show pl + 31 ≠ pl + 25 by omega)).trans ((sI_ne (show pl + 31 ≠ pl + 21 by omega)).trans ((sI_ne (show pl + 31 ≠ pl + 18 by omega)).trans ((sI_ne (show pl + 31 ≠ pl + 13 by omega)).trans ((sI_ne (show pl + 31 ≠ pl + 7 by omega)).trans ((sI_ne (show pl + 31 ≠ pl + 1 by omega)).trans (sI_ne (show pl + 31 ≠ pl by omega)))))))))) ?_
  refine Rn.iincv (j' := 1) (lv' := [some (.ref pl), some (.int (2 + 1))]) dX7_clear_103 rfl rfl (by decide) rfl ?_
  show Rn G l mX7_clear (2, 0, 0, false) 106 [some (.ref pl), some (.int 3)] [] ly (sI (sI (sI (sI (sI (sI (sI (sI (sI M pl (upd (upd (upd (upd (upd (upd (upd (upd (upd (M.1 pl) 0 8) 1 4) 2 4) 3 5) 4 0) 5 0) 6 0) 7 0) 8 0)) (pl + 1) (pre 4 (fun _ => 0) (M.1 (pl + 1)))) (pl + 7) (upd (M.1 (pl + 7)) 0 0)) (pl + 13) (upd (M.1 (pl + 13)) 0 0)) (pl + 18) (upd (M.1 (pl + 18)) 0 0)) (pl + 21) (upd (M.1 (pl + 21)) 0 0)) (pl + 25) (upd (M.1 (pl + 25)) 0 0)) (pl + 28) (upd (M.1 (pl + 28)) 0 0)) (pl + 31) (upd (M.1 (pl + 31)) 0 0)) (fun v ly2 K => v = none ∧ ly2 = ly ∧ K.2.2 = M.2.2 ∧ (∀ a, ¬ (pl ≤ a ∧ a ≤ pl + 33) → K.1 a = M.1 a) ∧ CPl K pl p0)
  refine Rn.goto dX7_clear_106 ?_
  refine Rn.iload_n dX7_clear_88 rfl ?_
  refine Rn.iconstv (v := 3) dX7_clear_89 ic_3 ?_
  show Rn G l mX7_clear (2, 0, 0, false) 90 [some (.ref pl), some (.int 3)] [.int 3, .int 3] ly (sI (sI (sI (sI (sI (sI (sI (sI (sI M pl (upd (upd (upd (upd (upd (upd (upd (upd (upd (M.1 pl) 0 8) 1 4) 2 4) 3 5) 4 0) 5 0) 6 0) 7 0) 8 0)) (pl + 1) (pre 4 (fun _ => 0) (M.1 (pl + 1)))) (pl + 7) (upd (M.1 (pl + 7)) 0 0)) (pl + 13) (upd (M.1 (pl + 13)) 0 0)) (pl + 18) (upd (M.1 (pl + 18)) 0 0)) (pl + 21) (upd (M.1 (pl + 21)) 0 0)) (pl + 25) (upd (M.1 (pl + 25)) 0 0)) (pl + 28) (upd (M.1 (pl + 28)) 0 0)) (pl + 31) (upd (M.1 (pl + 31)) 0 0)) (fun v ly2 K => v = none ∧ ly2 = ly ∧ K.2.2 = M.2.2 ∧ (∀ a, ¬ (pl ≤ a ∧ a ≤ pl + 33) → K.1 a = M.1 a) ∧ CPl K pl p0)
  refine Rn.icmp_ge dX7_clear_90 (fun h9 => ?_) (fun h9 => (by first | exact absurd h9 (by decide) | exact absurd (by decide) h9))
  obtain ⟨K, e9⟩ : ∃ N9, N9 = sI (sI (sI (sI (sI (sI (sI (sI (sI M pl (upd (upd (upd (upd (upd (upd (upd (upd (upd (M.1 pl) 0 8) 1 4) 2 4) 3 5) 4 0) 5 0) 6 0) 7 0) 8 0)) (pl + 1) (pre 4 (fun _ => 0) (M.1 (pl + 1)))) (pl + 7) (upd (M.1 (pl + 7)) 0 0)) (pl + 13) (upd (M.1 (pl + 13)) 0 0)) (pl + 18) (upd (M.1 (pl + 18)) 0 0)) (pl + 21) (upd (M.1 (pl + 21)) 0 0)) (pl + 25) (upd (M.1 (pl + 25)) 0 0)) (pl + 28) (upd (M.1 (pl + 28)) 0 0)) (pl + 31) (upd (M.1 (pl + 31)) 0 0) := ⟨_, rfl⟩
  rw [← e9]
  have kr : K.2.2 = M.2.2 := by rw [e9]; rfl
  have ko : ∀ a, ¬ (pl ≤ a ∧ a ≤ pl + 33) → K.1 a = M.1 a := fun a ha => by rw [e9, sI_ne (show a ≠ pl + 31 by omega), sI_ne (show a ≠ pl + 28 by omega), sI_ne (show a ≠ pl + 25 by omega), sI_ne (show a ≠ pl + 21 by omega), sI_ne (show a ≠ pl + 18 by omega), sI_ne (show a ≠ pl + 13 by omega), sI_ne (show a ≠ pl + 7 by omega), sI_ne (show a ≠ pl + 1 by omega), sI_ne (show a ≠ pl by omega)]
  have kpl : K.1 (pl) = upd (upd (upd (upd (upd (upd (upd (upd (upd (M.1 pl) 0 8) 1 4) 2 4) 3 5) 4 0) 5 0) 6 0) 7 0) 8 0 := by rw [e9, sI_ne (show pl ≠ pl + 31 by omega), sI_ne (show pl ≠ pl + 28 by omega), sI_ne (show pl ≠ pl + 25 by omega), sI_ne (show pl ≠ pl + 21 by omega), sI_ne (show pl ≠ pl + 18 by omega), sI_ne (show pl ≠ pl + 13 by omega), sI_ne (show pl ≠ pl + 7 by omega), sI_ne (show pl ≠ pl + 1 by omega), sI_at]
  have kpl_1 : K.1 (pl + 1) = pre 4 (fun _ => 0) (M.1 (pl + 1)) := by rw [e9, sI_ne (show pl + 1 ≠ pl + 31 by omega), sI_ne (show pl + 1 ≠ pl + 28 by omega), sI_ne (show pl + 1 ≠ pl + 25 by omega), sI_ne (show pl + 1 ≠ pl + 21 by omega), sI_ne (show pl + 1 ≠ pl + 18 by omega), sI_ne (show pl + 1 ≠ pl + 13 by omega), sI_ne (show pl + 1 ≠ pl + 7 by omega), sI_at]
  have kpl_7 : K.1 (pl + 7) = upd (M.1 (pl + 7)) 0 0 := by rw [e9, sI_ne (show pl + 7 ≠ pl + 31 by omega), sI_ne (show pl + 7 ≠ pl + 28 by omega), sI_ne (show pl + 7 ≠ pl + 25 by omega), sI_ne (show pl + 7 ≠ pl + 21 by omega), sI_ne (show pl + 7 ≠ pl + 18 by omega), sI_ne (show pl + 7 ≠ pl + 13 by omega), sI_at]
  have kpl_13 : K.1 (pl + 13) = upd (M.1 (pl + 13)) 0 0 := by rw [e9, sI_ne (show pl + 13 ≠ pl + 31 by omega), sI_ne (show pl + 13 ≠ pl + 28 by omega), sI_ne (show pl + 13 ≠ pl + 25 by omega), sI_ne (show pl + 13 ≠ pl + 21 by omega), sI_ne (show pl + 13 ≠ pl + 18 by omega), sI_at]
  have kpl_18 : K.1 (pl + 18) = upd (M.1 (pl + 18)) 0 0 := by rw [e9, sI_ne (show pl + 18 ≠ pl + 31 by omega), sI_ne (show pl + 18 ≠ pl + 28 by omega), sI_ne (show pl + 18 ≠ pl + 25 by omega), sI_ne (show pl + 18 ≠ pl + 21 by omega), sI_at]
  have kpl_21 : K.1 (pl + 21) = upd (M.1 (pl + 21)) 0 0 := by rw [e9, sI_ne (show pl + 21 ≠ pl + 31 by omega), sI_ne (show pl + 21 ≠ pl + 28 by omega), sI_ne (show pl + 21 ≠ pl + 25 by omega), sI_at]
  have kpl_25 : K.1 (pl + 25) = upd (M.1 (pl + 25)) 0 0 := by rw [e9, sI_ne (show pl + 25 ≠ pl + 31 by omega), sI_ne (show pl + 25 ≠ pl + 28 by omega), sI_at]
  have kpl_28 : K.1 (pl + 28) = upd (M.1 (pl + 28)) 0 0 := by rw [e9, sI_ne (show pl + 28 ≠ pl + 31 by omega), sI_at]
  have kpl_31 : K.1 (pl + 31) = upd (M.1 (pl + 31)) 0 0 := by rw [e9, sI_at]
  clear e9
  refine Rn.vret dX7_clear_109 rfl ⟨rfl, rfl, kr, ko, ⟨?_, fun k hk => ?_, ⟨?_, ?_⟩, fun r _ _ j hj => absurd hj (Nat.not_lt_zero j), fun k hk => ?_⟩⟩
  · rw [kpl]; exact ⟨rfl, rfl, rfl, rfl, rfl, rfl, rfl, rfl, rfl⟩
  · rw [kpl_1]; exact if_pos hk
  · rw [kpl_7]; exact pk_us
  · rw [kpl_13]; exact pk_us
  · refine ⟨?_, trivial⟩
    match k, hk with
    | 0, _ => show K.1 (pl + 18) 0 = _; rw [kpl_18]; exact pk_us
    | 1, _ => show K.1 (pl + 21) 0 = _; rw [kpl_21]; exact pk_us
    | 2, _ => show K.1 (pl + 25) 0 = _; rw [kpl_25]; exact pk_us
    | 3, _ => show K.1 (pl + 28) 0 = _; rw [kpl_28]; exact pk_us
    | 4, _ => show K.1 (pl + 31) 0 = _; rw [kpl_31]; exact pk_us
theorem tX6_readLine {G : Gx} {l : Launch} {ly : Ly} {M : Mm} {f : Nat → Int32} {n i : Nat} {pl : Nat} {p : Pl} (hS : CPs ly M f n pl p i) (hX : XW ly M.2.2) : Mt G l mX6_readLine (5, 0, 0, false) [.ref 2] ly M (clP ly M f n pl (lnC (kdF f n) (nvF f n) (nx f n) p i)) := by
  refine Mt.of (lv := [some (.ref 2)]) rfl ?_
  have r6 := hS.1.2.2.1
  have r7 := hS.1.2.2.2.1
  refine Rn.aload_n dX6_readLine_0 rfl ?_
  refine Rn.getR dX6_readLine_1 fX6_20 rfl (xc2 hX) (show M.2.2 2 2 = some 3 from (xp2_2 hX)) ?_
  refine Rn.getI dX6_readLine_4 fX6_56 rfl (xc3 hX) ?_
  refine Rn.topI (y := kdF f n i) (r6) ?_
  by_cases c0 : kdF f n i = 0
  · skip
    rw [c0]
    refine Rn.tableIn (off := 57) (tgt := 64) dX6_readLine_7 (by decide) (by decide) (by decide) (by decide) ?_
    refine Rn.aload_n dX6_readLine_64 rfl ?_
    refine Rn.callV0 dX6_readLine_65 vX6_67 (xc2 hX) (by decide) rfl (rlBridge (M := M) hS c0 hX) (by decide) ⟨(Nat.le_of_ble_eq_true rfl), (Nat.le_of_ble_eq_true rfl), (Nat.le_of_ble_eq_true rfl)⟩ (fun h => by cases h) (fun v1 ly1 N1 ⟨q2, hF, hh⟩ => ?_)
    rw [q2]
    have hln := (if_pos c0 : lnC (kdF f n) (nvF f n) (nx f n) p i = _)
    rcases hh with ⟨p2, j, e9, q1, hS2⟩ | ⟨q, j, e9, q1, hfa⟩
    · skip
      rw [q1]
      exact Rn.iret (ty := .boolean) dX6_readLine_68 rfl rfl ⟨rfl, hF, Or.inl ⟨p2, j, hln.trans e9, rfl, hS2⟩⟩
    · skip
      rw [q1]
      exact Rn.iret (ty := .boolean) dX6_readLine_68 rfl rfl ⟨rfl, hF, Or.inr ⟨q, j, hln.trans e9, rfl, hfa⟩⟩
  · skip
    by_cases c1 : kdF f n i = 1
    · skip
      rw [c1]
      refine Rn.tableIn (off := 62) (tgt := 69) dX6_readLine_7 (by decide) (by decide) (by decide) (by decide) ?_
      refine Rn.aload_n dX6_readLine_69 rfl ?_
      refine Rn.bipushv (v := 99) dX6_readLine_70 bp_99 ?_
      refine Rn.callV1 dX6_readLine_72 vX6_70 (xc2 hX) (by decide) rfl (rlSet1 (M := M) hS c1 hX) (by decide) ⟨(Nat.le_of_ble_eq_true rfl), (Nat.le_of_ble_eq_true rfl), (Nat.le_of_ble_eq_true rfl)⟩ (fun h => by cases h) (fun v1 ly1 N1 ⟨q2, hF, hh⟩ => ?_)
      rw [q2]
      have hln := ((if_neg (show ¬ kdF f n i = 0 by rw [c1]; decide)).trans (if_pos c1) : lnC (kdF f n) (nvF f n) (nx f n) p i = _)
      rcases hh with ⟨p2, j, e9, q1, hS2⟩ | ⟨q, j, e9, q1, hfa⟩
      · skip
        rw [q1]
        exact Rn.iret (ty := .boolean) dX6_readLine_75 rfl rfl ⟨rfl, hF, Or.inl ⟨p2, j, hln.trans e9, rfl, hS2⟩⟩
      · skip
        rw [q1]
        exact Rn.iret (ty := .boolean) dX6_readLine_75 rfl rfl ⟨rfl, hF, Or.inr ⟨q, j, hln.trans e9, rfl, hfa⟩⟩
    · skip
      by_cases c2 : kdF f n i = 2
      · skip
        rw [c2]
        refine Rn.tableIn (off := 69) (tgt := 76) dX6_readLine_7 (by decide) (by decide) (by decide) (by decide) ?_
        refine Rn.aload_n dX6_readLine_76 rfl ?_
        refine Rn.bipushv (v := 9) dX6_readLine_77 bp_9 ?_
        refine Rn.callV1 dX6_readLine_79 vX6_70 (xc2 hX) (by decide) rfl (rlSet2 (M := M) hS c2 hX) (by decide) ⟨(Nat.le_of_ble_eq_true rfl), (Nat.le_of_ble_eq_true rfl), (Nat.le_of_ble_eq_true rfl)⟩ (fun h => by cases h) (fun v1 ly1 N1 ⟨q2, hF, hh⟩ => ?_)
        rw [q2]
        have hln := ((if_neg (show ¬ kdF f n i = 0 by rw [c2]; decide)).trans ((if_neg (show ¬ kdF f n i = 1 by rw [c2]; decide)).trans (if_pos c2)) : lnC (kdF f n) (nvF f n) (nx f n) p i = _)
        rcases hh with ⟨p2, j, e9, q1, hS2⟩ | ⟨q, j, e9, q1, hfa⟩
        · skip
          rw [q1]
          exact Rn.iret (ty := .boolean) dX6_readLine_82 rfl rfl ⟨rfl, hF, Or.inl ⟨p2, j, hln.trans e9, rfl, hS2⟩⟩
        · skip
          rw [q1]
          exact Rn.iret (ty := .boolean) dX6_readLine_82 rfl rfl ⟨rfl, hF, Or.inr ⟨q, j, hln.trans e9, rfl, hfa⟩⟩
      · skip
        by_cases c3 : kdF f n i = 3
        · skip
          rw [c3]
          refine Rn.tableIn (off := 76) (tgt := 83) dX6_readLine_7 (by decide) (by decide) (by decide) (by decide) ?_
          refine Rn.aload_n dX6_readLine_83 rfl ?_
          refine Rn.sipushv (v := 9999) dX6_readLine_84 sp_9999 ?_
          refine Rn.callV1 dX6_readLine_87 vX6_70 (xc2 hX) (by decide) rfl (rlSet3 (M := M) hS c3 hX) (by decide) ⟨(Nat.le_of_ble_eq_true rfl), (Nat.le_of_ble_eq_true rfl), (Nat.le_of_ble_eq_true rfl)⟩ (fun h => by cases h) (fun v1 ly1 N1 ⟨q2, hF, hh⟩ => ?_)
          rw [q2]
          have hln := ((if_neg (show ¬ kdF f n i = 0 by rw [c3]; decide)).trans ((if_neg (show ¬ kdF f n i = 1 by rw [c3]; decide)).trans ((if_neg (show ¬ kdF f n i = 2 by rw [c3]; decide)).trans (if_pos c3))) : lnC (kdF f n) (nvF f n) (nx f n) p i = _)
          rcases hh with ⟨p2, j, e9, q1, hS2⟩ | ⟨q, j, e9, q1, hfa⟩
          · skip
            rw [q1]
            exact Rn.iret (ty := .boolean) dX6_readLine_90 rfl rfl ⟨rfl, hF, Or.inl ⟨p2, j, hln.trans e9, rfl, hS2⟩⟩
          · skip
            rw [q1]
            exact Rn.iret (ty := .boolean) dX6_readLine_90 rfl rfl ⟨rfl, hF, Or.inr ⟨q, j, hln.trans e9, rfl, hfa⟩⟩
        · skip
          by_cases c4 : kdF f n i = 4
          · skip
            rw [c4]
            refine Rn.tableIn (off := 91) (tgt := 98) dX6_readLine_7 (by decide) (by decide) (by decide) (by decide) ?_
            refine Rn.aload_n dX6_readLine_98 rfl ?_
            refine Rn.callV0 dX6_readLine_99 vX6_74 (xc2 hX) (by decide) rfl (rlWalker (M := M) hS hX) (by decide) ⟨(Nat.le_of_ble_eq_true rfl), (Nat.le_of_ble_eq_true rfl), (Nat.le_of_ble_eq_true rfl)⟩ (fun h => by cases h) (fun v1 ly1 N1 ⟨q2, hF, hh⟩ => ?_)
            rw [q2]
            have hln := ((if_neg (show ¬ kdF f n i = 0 by rw [c4]; decide)).trans ((if_neg (show ¬ kdF f n i = 1 by rw [c4]; decide)).trans ((if_neg (show ¬ kdF f n i = 2 by rw [c4]; decide)).trans ((if_neg (show ¬ kdF f n i = 3 by rw [c4]; decide)).trans (if_pos c4)))) : lnC (kdF f n) (nvF f n) (nx f n) p i = _)
            rcases hh with ⟨p2, j, e9, q1, hS2⟩ | ⟨q, j, e9, q1, hfa⟩
            · skip
              rw [q1]
              exact Rn.iret (ty := .boolean) dX6_readLine_102 rfl rfl ⟨rfl, hF, Or.inl ⟨p2, j, hln.trans e9, rfl, hS2⟩⟩
            · skip
              rw [q1]
              exact Rn.iret (ty := .boolean) dX6_readLine_102 rfl rfl ⟨rfl, hF, Or.inr ⟨q, j, hln.trans e9, rfl, hfa⟩⟩
          · skip
            by_cases c5 : kdF f n i = 5
            · skip
              rw [c5]
              refine Rn.tableIn (off := 96) (tgt := 103) dX6_readLine_7 (by decide) (by decide) (by decide) (by decide) ?_
              refine Rn.aload_n dX6_readLine_103 rfl ?_
              refine Rn.callV0 dX6_readLine_104 vX6_77 (xc2 hX) (by decide) rfl (rlFat (M := M) hS hX) (by decide) ⟨(Nat.le_of_ble_eq_true rfl), (Nat.le_of_ble_eq_true rfl), (Nat.le_of_ble_eq_true rfl)⟩ (fun h => by cases h) (fun v1 ly1 N1 ⟨q2, hF, hh⟩ => ?_)
              rw [q2]
              have hln := ((if_neg (show ¬ kdF f n i = 0 by rw [c5]; decide)).trans ((if_neg (show ¬ kdF f n i = 1 by rw [c5]; decide)).trans ((if_neg (show ¬ kdF f n i = 2 by rw [c5]; decide)).trans ((if_neg (show ¬ kdF f n i = 3 by rw [c5]; decide)).trans ((if_neg (show ¬ kdF f n i = 4 by rw [c5]; decide)).trans (if_pos c5))))) : lnC (kdF f n) (nvF f n) (nx f n) p i = _)
              rcases hh with ⟨p2, j, e9, q1, hS2⟩ | ⟨q, j, e9, q1, hfa⟩
              · skip
                rw [q1]
                exact Rn.iret (ty := .boolean) dX6_readLine_107 rfl rfl ⟨rfl, hF, Or.inl ⟨p2, j, hln.trans e9, rfl, hS2⟩⟩
              · skip
                rw [q1]
                exact Rn.iret (ty := .boolean) dX6_readLine_107 rfl rfl ⟨rfl, hF, Or.inr ⟨q, j, hln.trans e9, rfl, hfa⟩⟩
            · skip
              by_cases c6 : kdF f n i = 6
              · skip
                rw [c6]
                refine Rn.tableIn (off := 101) (tgt := 108) dX6_readLine_7 (by decide) (by decide) (by decide) (by decide) ?_
                refine Rn.aload_n dX6_readLine_108 rfl ?_
                refine Rn.callV0 dX6_readLine_109 vX6_80 (xc2 hX) (by decide) rfl (rlSleep (M := M) hS hX) (by decide) ⟨(Nat.le_of_ble_eq_true rfl), (Nat.le_of_ble_eq_true rfl), (Nat.le_of_ble_eq_true rfl)⟩ (fun h => by cases h) (fun v1 ly1 N1 ⟨q2, hF, hh⟩ => ?_)
                rw [q2]
                have hln := ((if_neg (show ¬ kdF f n i = 0 by rw [c6]; decide)).trans ((if_neg (show ¬ kdF f n i = 1 by rw [c6]; decide)).trans ((if_neg (show ¬ kdF f n i = 2 by rw [c6]; decide)).trans ((if_neg (show ¬ kdF f n i = 3 by rw [c6]; decide)).trans ((if_neg (show ¬ kdF f n i = 4 by rw [c6]; decide)).trans ((if_neg (show ¬ kdF f n i = 5 by rw [c6]; decide)).trans (if_pos c6)))))) : lnC (kdF f n) (nvF f n) (nx f n) p i = _)
                rcases hh with ⟨p2, j, e9, q1, hS2⟩ | ⟨q, j, e9, q1, hfa⟩
                · skip
                  rw [q1]
                  exact Rn.iret (ty := .boolean) dX6_readLine_112 rfl rfl ⟨rfl, hF, Or.inl ⟨p2, j, hln.trans e9, rfl, hS2⟩⟩
                · skip
                  rw [q1]
                  exact Rn.iret (ty := .boolean) dX6_readLine_112 rfl rfl ⟨rfl, hF, Or.inr ⟨q, j, hln.trans e9, rfl, hfa⟩⟩
              · skip
                by_cases c7 : kdF f n i = 7
                · skip
                  rw [c7]
                  refine Rn.tableIn (off := 62) (tgt := 69) dX6_readLine_7 (by decide) (by decide) (by decide) (by decide) ?_
                  refine Rn.aload_n dX6_readLine_69 rfl ?_
                  refine Rn.bipushv (v := 99) dX6_readLine_70 bp_99 ?_
                  refine Rn.callV1 dX6_readLine_72 vX6_70 (xc2 hX) (by decide) rfl (rlSet7 (M := M) hS c7 hX) (by decide) ⟨(Nat.le_of_ble_eq_true rfl), (Nat.le_of_ble_eq_true rfl), (Nat.le_of_ble_eq_true rfl)⟩ (fun h => by cases h) (fun v1 ly1 N1 ⟨q2, hF, hh⟩ => ?_)
                  rw [q2]
                  have hln := ((if_neg (show ¬ kdF f n i = 0 by rw [c7]; decide)).trans ((if_neg (show ¬ kdF f n i = 1 by rw [c7]; decide)).trans ((if_neg (show ¬ kdF f n i = 2 by rw [c7]; decide)).trans ((if_neg (show ¬ kdF f n i = 3 by rw [c7]; decide)).trans ((if_neg (show ¬ kdF f n i = 4 by rw [c7]; decide)).trans ((if_neg (show ¬ kdF f n i = 5 by rw [c7]; decide)).trans ((if_neg (show ¬ kdF f n i = 6 by rw [c7]; decide)).trans (if_pos c7))))))) : lnC (kdF f n) (nvF f n) (nx f n) p i = _)
                  rcases hh with ⟨p2, j, e9, q1, hS2⟩ | ⟨q, j, e9, q1, hfa⟩
                  · skip
                    rw [q1]
                    exact Rn.iret (ty := .boolean) dX6_readLine_75 rfl rfl ⟨rfl, hF, Or.inl ⟨p2, j, hln.trans e9, rfl, hS2⟩⟩
                  · skip
                    rw [q1]
                    exact Rn.iret (ty := .boolean) dX6_readLine_75 rfl rfl ⟨rfl, hF, Or.inr ⟨q, j, hln.trans e9, rfl, hfa⟩⟩
                · skip
                  by_cases c8 : kdF f n i = 8
                  · skip
                    rw [c8]
                    refine Rn.tableIn (off := 84) (tgt := 91) dX6_readLine_7 (by decide) (by decide) (by decide) (by decide) ?_
                    refine Rn.aload_n dX6_readLine_91 rfl ?_
                    refine Rn.ldc dX6_readLine_92 kX6_73 ?_
                    refine Rn.callV1 dX6_readLine_94 vX6_70 (xc2 hX) (by decide) rfl (rlSet8 (M := M) hS c8 hX) (by decide) ⟨(Nat.le_of_ble_eq_true rfl), (Nat.le_of_ble_eq_true rfl), (Nat.le_of_ble_eq_true rfl)⟩ (fun h => by cases h) (fun v1 ly1 N1 ⟨q2, hF, hh⟩ => ?_)
                    rw [q2]
                    have hln := ((if_neg (show ¬ kdF f n i = 0 by rw [c8]; decide)).trans ((if_neg (show ¬ kdF f n i = 1 by rw [c8]; decide)).trans ((if_neg (show ¬ kdF f n i = 2 by rw [c8]; decide)).trans ((if_neg (show ¬ kdF f n i = 3 by rw [c8]; decide)).trans ((if_neg (show ¬ kdF f n i = 4 by rw [c8]; decide)).trans ((if_neg (show ¬ kdF f n i = 5 by rw [c8]; decide)).trans ((if_neg (show ¬ kdF f n i = 6 by rw [c8]; decide)).trans ((if_neg (show ¬ kdF f n i = 7 by rw [c8]; decide)).trans (if_pos c8)))))))) : lnC (kdF f n) (nvF f n) (nx f n) p i = _)
                    rcases hh with ⟨p2, j, e9, q1, hS2⟩ | ⟨q, j, e9, q1, hfa⟩
                    · skip
                      rw [q1]
                      exact Rn.iret (ty := .boolean) dX6_readLine_97 rfl rfl ⟨rfl, hF, Or.inl ⟨p2, j, hln.trans e9, rfl, hS2⟩⟩
                    · skip
                      rw [q1]
                      exact Rn.iret (ty := .boolean) dX6_readLine_97 rfl rfl ⟨rfl, hF, Or.inr ⟨q, j, hln.trans e9, rfl, hfa⟩⟩
                  · skip
                    by_cases c9 : kdF f n i = 9
                    · skip
                      rw [c9]
                      refine Rn.tableIn (off := 106) (tgt := 113) dX6_readLine_7 (by decide) (by decide) (by decide) (by decide) ?_
                      refine Rn.aload_n dX6_readLine_113 rfl ?_
                      refine Rn.callV0 dX6_readLine_114 vX6_83 (xc2 hX) (by decide) rfl (rlMay (M := M) hS hX) (by decide) ⟨(Nat.le_of_ble_eq_true rfl), (Nat.le_of_ble_eq_true rfl), (Nat.le_of_ble_eq_true rfl)⟩ (fun h => by cases h) (fun v1 ly1 N1 ⟨q2, hF, hh⟩ => ?_)
                      rw [q2]
                      have hln := ((if_neg (show ¬ kdF f n i = 0 by rw [c9]; decide)).trans ((if_neg (show ¬ kdF f n i = 1 by rw [c9]; decide)).trans ((if_neg (show ¬ kdF f n i = 2 by rw [c9]; decide)).trans ((if_neg (show ¬ kdF f n i = 3 by rw [c9]; decide)).trans ((if_neg (show ¬ kdF f n i = 4 by rw [c9]; decide)).trans ((if_neg (show ¬ kdF f n i = 5 by rw [c9]; decide)).trans ((if_neg (show ¬ kdF f n i = 6 by rw [c9]; decide)).trans ((if_neg (show ¬ kdF f n i = 7 by rw [c9]; decide)).trans ((if_neg (show ¬ kdF f n i = 8 by rw [c9]; decide)).trans (if_pos c9))))))))) : lnC (kdF f n) (nvF f n) (nx f n) p i = _)
                      rcases hh with ⟨p2, j, e9, q1, hS2⟩ | ⟨q, j, e9, q1, hfa⟩
                      · skip
                        rw [q1]
                        exact Rn.iret (ty := .boolean) dX6_readLine_117 rfl rfl ⟨rfl, hF, Or.inl ⟨p2, j, hln.trans e9, rfl, hS2⟩⟩
                      · skip
                        rw [q1]
                        exact Rn.iret (ty := .boolean) dX6_readLine_117 rfl rfl ⟨rfl, hF, Or.inr ⟨q, j, hln.trans e9, rfl, hfa⟩⟩
                    · skip
                      by_cases c10 : kdF f n i = 10
                      · skip
                        rw [c10]
                        refine Rn.tableIn (off := 111) (tgt := 118) dX6_readLine_7 (by decide) (by decide) (by decide) (by decide) ?_
                        refine Rn.aload_n dX6_readLine_118 rfl ?_
                        refine Rn.callV0 dX6_readLine_119 vX6_86 (xc2 hX) (by decide) rfl (rlLaw (M := M) hS hX) (by decide) ⟨(Nat.le_of_ble_eq_true rfl), (Nat.le_of_ble_eq_true rfl), (Nat.le_of_ble_eq_true rfl)⟩ (fun h => by cases h) (fun v1 ly1 N1 ⟨q2, hF, hh⟩ => ?_)
                        rw [q2]
                        have hln := ((if_neg (show ¬ kdF f n i = 0 by rw [c10]; decide)).trans ((if_neg (show ¬ kdF f n i = 1 by rw [c10]; decide)).trans ((if_neg (show ¬ kdF f n i = 2 by rw [c10]; decide)).trans ((if_neg (show ¬ kdF f n i = 3 by rw [c10]; decide)).trans ((if_neg (show ¬ kdF f n i = 4 by rw [c10]; decide)).trans ((if_neg (show ¬ kdF f n i = 5 by rw [c10]; decide)).trans ((if_neg (show ¬ kdF f n i = 6 by rw [c10]; decide)).trans ((if_neg (show ¬ kdF f n i = 7 by rw [c10]; decide)).trans ((if_neg (show ¬ kdF f n i = 8 by rw [c10]; decide)).trans ((if_neg (show ¬ kdF f n i = 9 by rw [c10]; decide)).trans (if_pos c10)))))))))) : lnC (kdF f n) (nvF f n) (nx f n) p i = _)
                        rcases hh with ⟨p2, j, e9, q1, hS2⟩ | ⟨q, j, e9, q1, hfa⟩
                        · skip
                          rw [q1]
                          exact Rn.iret (ty := .boolean) dX6_readLine_122 rfl rfl ⟨rfl, hF, Or.inl ⟨p2, j, hln.trans e9, rfl, hS2⟩⟩
                        · skip
                          rw [q1]
                          exact Rn.iret (ty := .boolean) dX6_readLine_122 rfl rfl ⟨rfl, hF, Or.inr ⟨q, j, hln.trans e9, rfl, hfa⟩⟩
                      · skip
                        have n0 : Int32.toInt (kdF f n i) ≠ 0 := fun h => c0 (Int32.toInt_inj.mp (h.trans (by decide)))
                        have n1 : Int32.toInt (kdF f n i) ≠ 1 := fun h => c1 (Int32.toInt_inj.mp (h.trans (by decide)))
                        have n2 : Int32.toInt (kdF f n i) ≠ 2 := fun h => c2 (Int32.toInt_inj.mp (h.trans (by decide)))
                        have n3 : Int32.toInt (kdF f n i) ≠ 3 := fun h => c3 (Int32.toInt_inj.mp (h.trans (by decide)))
                        have n4 : Int32.toInt (kdF f n i) ≠ 4 := fun h => c4 (Int32.toInt_inj.mp (h.trans (by decide)))
                        have n5 : Int32.toInt (kdF f n i) ≠ 5 := fun h => c5 (Int32.toInt_inj.mp (h.trans (by decide)))
                        have n6 : Int32.toInt (kdF f n i) ≠ 6 := fun h => c6 (Int32.toInt_inj.mp (h.trans (by decide)))
                        have n7 : Int32.toInt (kdF f n i) ≠ 7 := fun h => c7 (Int32.toInt_inj.mp (h.trans (by decide)))
                        have n8 : Int32.toInt (kdF f n i) ≠ 8 := fun h => c8 (Int32.toInt_inj.mp (h.trans (by decide)))
                        have n9 : Int32.toInt (kdF f n i) ≠ 9 := fun h => c9 (Int32.toInt_inj.mp (h.trans (by decide)))
                        have n10 : Int32.toInt (kdF f n i) ≠ 10 := fun h => c10 (Int32.toInt_inj.mp (h.trans (by decide)))
                        refine Rn.tableOut (tgt := 123) dX6_readLine_7 (by omega) (by decide) ?_
                        refine Rn.aload_n dX6_readLine_123 rfl ?_
                        refine Rn.iconstv (v := 1) dX6_readLine_124 ic_1 ?_
                        refine Rn.callV1 dX6_readLine_125 vX6_89 (xc2 hX) (by decide) rfl (tX6_fail (M := M) (x := 1) hX) (by decide) ⟨(Nat.le_of_ble_eq_true rfl), (Nat.le_of_ble_eq_true rfl), (Nat.le_of_ble_eq_true rfl)⟩ (fun h => by cases h) (fun v1 ly1 M1 ⟨q1, q2, q3⟩ => ?_)
                        rw [q1, q2, q3]
                        show Rn G l mX6_readLine (5, 0, 0, false) 128 [some (.ref 2)] [.int 0] ly (sI M 2 (upd (upd (M.1 2) 0 1) 1 (M.1 3 1))) (clP ly M f n pl (lnC (kdF f n) (nvF f n) (nx f n) p i))
                        exact Rn.iret (ty := .boolean) dX6_readLine_128 rfl rfl ⟨rfl, pcF.s (Or.inl rfl), Or.inr ⟨1, i, (if_neg c0).trans ((if_neg c1).trans ((if_neg c2).trans ((if_neg c3).trans ((if_neg c4).trans ((if_neg c5).trans ((if_neg c6).trans ((if_neg c7).trans ((if_neg c8).trans ((if_neg c9).trans (if_neg c10)))))))))), rfl, rfl, r7⟩⟩
/-- what reading a text may change, the plan's pointer too -/
def tcF (M K : Mm) (pl : Nat) : Prop := (∀ a j, ¬ ((a = 5 ∧ (j = 1 ∨ j = 2)) ∨ (a = 2 ∧ j = 4)) → K.2.2 a j = M.2.2 a j) ∧ ∀ a, ¬ (a = 2 ∨ a = 3 ∨ a = 5 ∨ a = 6 ∨ (pl ≤ a ∧ a ≤ pl + 33)) → K.1 a = M.1 a
theorem xFin_t : ∀ p ∈ xFin, ¬ ((p.1 = 5 ∧ (p.2.1 = 1 ∨ p.2.1 = 2)) ∨ (p.1 = 2 ∧ p.2.1 = 4)) := by decide +kernel
theorem tcF.xw {M K : Mm} {pl : Nat} {ly : Ly} (h : tcF M K pl) (hX : XW ly M.2.2) : XW ly K.2.2 := hX.of (fun p hp => h.1 _ _ (xFin_t p hp))
theorem tcF.p {M N K : Mm} {pl : Nat} (h : tcF M N pl) (g : pcF N K pl) : tcF M K pl := ⟨fun a j x => (g.1 a j (fun e => x (Or.inl e))).trans (h.1 a j x), fun a x => (g.2 a x).trans (h.2 a x)⟩
theorem qK_l {q : Int32} {i : Nat} {r : Rs} {x : Pl × Nat} (h : qK q i r = .inl x) : r = .inl x := by
  unfold qK at h
  by_cases g : q = 0
  · rw [if_pos g] at h; exact h
  · rw [if_neg g] at h; cases h
theorem mRes_le {kd nv : Nat → Int32} {nx : Nat → Nat} (hm : ∀ x, x ≤ nx x) : ∀ (k : Nat) (s : Ms) {j c : Nat} {e : List Int32}, mrn (mst kd nv nx) k s = some (mFin j c e) → s.i ≤ j
  | 0, s, _, _, _, h => by cases h
  | k + 1, s, j, c, e, h => by
    unfold mrn at h
    cases g : mst kd nv nx s with
    | inl a =>
      rw [g] at h
      cases h
      unfold mst at g
      repeat' split at g
      all_goals first | (cases g; exact Nat.le_refl _) | (cases g)
    | inr t =>
      rw [g] at h
      refine Nat.le_trans ?_ (mRes_le hm k t h)
      unfold mst at g
      repeat' split at g
      all_goals first | (cases g; exact hm _) | (cases g)
theorem mrn_ex {f : Nat → Int32} {n : Nat} (hby : byA f n) : ∀ (k : Nat) (s : Ms), s.i ≤ n → n - s.i < k → ∃ r, mrn (mst (kdF f n) (nvF f n) (nx f n)) k s = some r
  | 0, s, _, h => absurd h (by omega)
  | k + 1, s, hs, h => by
    unfold mrn
    cases g : mst (kdF f n) (nvF f n) (nx f n) s with
    | inl a => exact ⟨a, rfl⟩
    | inr t =>
      have hk40 : ¬ kdF f n s.i = 40 := fun e => by
        rcases s with ⟨i, c, em, wt, op, cb, due, nt⟩
        exact kd40 e g
      have h1 := nx_lt hby hs hk40
      have h2 := (nx_le hby hs).1
      have ht : t.i = nx f n s.i := by
        unfold mst at g
        repeat' split at g
        all_goals first | (cases g; rfl) | (cases g)
      exact mrn_ex hby k t (by rw [ht]; exact h2) (by rw [ht]; omega)
theorem Mrun.ex {f : Nat → Int32} {n i c : Nat} (hby : byA f n) (hi : i ≤ n) : ∃ r, Mrun (kdF f n) (nvF f n) (nx f n) (ms0 i c) r := (mrn_ex hby (n - i + 1) (ms0 i c) hi (Nat.lt_succ_self _)).elim (fun r h => ⟨r, _, h⟩)
theorem mR_le {f : Nat → Int32} {n i c : Nat} (hby : byA f n) (hi : i ≤ n) {g : Nat × Nat × List Int32 → Pl} {p2 : Pl} {j : Nat} (h : Sum.elim (fun x => (.inl (g x, x.1) : Rs)) .inr (mRes (kdF f n) (nvF f n) (nx f n) i c) = .inl (p2, j)) : i ≤ j := by
  obtain ⟨r, k, hr⟩ := Mrun.ex (c := c) hby hi
  rw [mRes_eq ⟨k, hr⟩] at h
  rcases r with ⟨a, b, e⟩ | ⟨q, a⟩
  · cases h; exact mRes_le (nx_mono hby) k _ hr
  · cases h
theorem ite_l {c : Prop} {d : Decidable c} {q : Int32 × Nat} {b : Rs} {x : Pl × Nat} (h : (@ite Rs c d (.inr q) b) = .inl x) : b = .inl x := by
  by_cases g : c
  · rw [if_pos g] at h; cases h
  · rw [if_neg g] at h; exact h
theorem lnS_le {kd nv : Nat → Int32} {nx : Nat → Nat} {w ix : Nat} {hi : Int32} {p p2 : Pl} {i j : Nat} (hm : ∀ x, x ≤ nx x) (h : lnS kd nv nx w ix hi p i = .inl (p2, j)) : i ≤ j := by
  have g := qK_l (ite_l h)
  cases g
  exact Nat.le_trans (hm i) (hm _)
theorem lnC_le {f : Nat → Int32} {n i j : Nat} {p p2 : Pl} (hby : byA f n) (hi : i ≤ n) (h : lnC (kdF f n) (nvF f n) (nx f n) p i = .inl (p2, j)) : i ≤ j := by
  have hm := nx_mono hby
  have up : ∀ {a b : Nat}, a ≤ b → a ≤ nx f n b := fun h => Nat.le_trans h (hm _)
  have i1 := (nx_le hby hi).1
  have i2 := (nx_le hby i1).1
  unfold lnC at h
  split at h
  · have g := qK_l (qK_l (qK_l (ite_l (ite_l h)))); cases g
    exact up (up (up (up (Nat.le_refl i))))
  split at h
  · exact lnS_le hm h
  split at h
  · exact lnS_le hm h
  split at h
  · exact lnS_le hm h
  split at h
  · have g := qK_l (qK_l (qK_l (qK_l (ite_l h))))
    split at g
    · have g2 := qK_l g; cases g2
      exact up (up (up (up (up (up (up (Nat.le_refl i)))))))
    · split at g
      · cases g; exact up (up (up (up (up (up (Nat.le_refl i))))))
      · cases g
  split at h
  · have g := qK_l (qK_l (ite_l h))
    split at g
    · have g2 := qK_l g; cases g2
      exact up (up (up (up (Nat.le_refl i))))
    · cases g
  split at h
  · have g := qK_l (qK_l (qK_l (ite_l h))); cases g
    exact up (up (up (up (Nat.le_refl i))))
  split at h
  · exact lnS_le hm h
  split at h
  · exact lnS_le hm h
  split at h
  · have g := qK_l (ite_l h)
    exact Nat.le_trans (up (up (Nat.le_refl i))) (mR_le (g := fun x => (set2 p.D 4 (p.ct 3) (nvF f n (nx f n i)), setN p.ct 3 (p.ct 3 + 1), setL p.lw (2 + p.ct 3) x.2.2, x.2.1, p.tb, p.hc)) hby i2 g)
  split at h
  · unfold lnL at h
    split at h
    · have g := ite_l h
      exact Nat.le_trans (up (up (Nat.le_refl i))) (mR_le (g := fun x => (p.D, p.ct, setL p.lw 0 x.2.2, x.2.1, setB p.tb 14 true, p.hc)) hby i2 g)
    · split at h
      · have g := ite_l h
        exact Nat.le_trans (up (up (Nat.le_refl i))) (mR_le (g := fun x => (p.D, p.ct, setL p.lw 1 x.2.2, x.2.1, setB p.tb 15 true, p.hc)) hby i2 g)
      · cases h
  · cases h
theorem tX6_read {G : Gx} {l : Launch} {ly : Ly} {M : Mm} {f : Nat → Int32} {n pl : Nat} (hn : n ≤ 700) (hby : byA f n) (hf : tpR (M.1 1) f n) (hw : ∀ w, w < 25 → M.1 4 w = wdP w) (hp7 : pl = 7 ∨ pl = 41) (hX : XW ly M.2.2) : Mt G l mX6_read (6, 0, 0, false) [.ref 2, .ref pl, .int (nI n)] ly M (fun v ly2 K => ly2 = ly ∧ tcF M K pl ∧ ((∃ p2 m j, txF (kdF f n) (nvF f n) (nx f n) 701 p0 0 0 = .inl (p2, m) ∧ m ≤ 700 ∧ v = some (.int (nI m)) ∧ CPs ly K f n pl p2 j) ∨ (∃ q j, txF (kdF f n) (nvF f n) (nx f n) 701 p0 0 0 = .inr (q, j) ∧ v = some (.int (-1)) ∧ faC f n K q j))) := by
  refine Mt.of (lv := [some (.ref 2), some (.ref pl), some (.int (nI n)), none]) rfl ?_
  have loop : ∀ (k : Nat) (KK : Mm) (p : Pl) (i m : Nat), m + k = 700 → m ≤ i → CPs ly KK f n pl p i → tcF M KK pl → txF (kdF f n) (nvF f n) (nx f n) 701 p0 0 0 = txF (kdF f n) (nvF f n) (nx f n) (k + 1) p i m → Rn G l mX6_read (6, 0, 0, false) 42 [some (.ref 2), some (.ref pl), some (.int (nI n)), some (.int (nI m))] [] ly KK (fun v ly2 K => ly2 = ly ∧ tcF M K pl ∧ ((∃ p2 m j, txF (kdF f n) (nvF f n) (nx f n) 701 p0 0 0 = .inl (p2, m) ∧ m ≤ 700 ∧ v = some (.int (nI m)) ∧ CPs ly K f n pl p2 j) ∨ (∃ q j, txF (kdF f n) (nvF f n) (nx f n) 701 p0 0 0 = .inr (q, j) ∧ v = some (.int (-1)) ∧ faC f n K q j))) := by
    intro k
    induction k with
    | zero =>
      intro KK p i m hk hmi hS hF ht
      have hXKK : XW ly KK.2.2 := hF.xw hX
      have r6 := hS.1.2.2.1
      have hin : i ≤ n := hS.1.1.2.1
      refine Rn.iload_n dX6_read_42 rfl ?_
      refine Rn.sipushv (v := 700) dX6_read_43 sp_700 ?_
      refine Rn.icmp_gt dX6_read_46 (fun h9 => absurd ((nI_ltI (a := 700) (b := m) (by decide) (by omega)).mp h9) (by omega)) (fun h9 => ?_)
      refine Rn.aload_n dX6_read_49 rfl ?_
      refine Rn.getR dX6_read_50 fX6_20 rfl (xc2 hXKK) (show KK.2.2 2 2 = some 3 from (xp2_2 hXKK)) ?_
      refine Rn.getI dX6_read_53 fX6_56 rfl (xc3 hXKK) ?_
      refine Rn.topI (y := kdF f n i) (r6) ?_
      refine Rn.bipushv (v := 40) dX6_read_56 bp_40 ?_
      refine Rn.icmp_ne dX6_read_58 (fun h40 => ?_) (fun h40 => ?_)
      · skip
        have hi : i = n := by omega
        have hk40 : kdF f n i = 40 := by
          have hP := tkP_le (f := f) hin
          exact kd_k (by unfold tkT; rw [if_pos (by omega)])
        exact absurd hk40 h40
      · skip
        refine Rn.iload_n dX6_read_61 rfl ?_
        exact Rn.iret (ty := .int) dX6_read_62 rfl rfl ⟨rfl, hF, Or.inl ⟨p, m, i, by rw [ht]; exact if_pos h40, by omega, rfl, hS⟩⟩
    | succ k ih =>
      intro KK p i m hk hmi hS hF ht
      have hXKK : XW ly KK.2.2 := hF.xw hX
      have r6 := hS.1.2.2.1
      have hin : i ≤ n := hS.1.1.2.1
      refine Rn.iload_n dX6_read_42 rfl ?_
      refine Rn.sipushv (v := 700) dX6_read_43 sp_700 ?_
      refine Rn.icmp_gt dX6_read_46 (fun h9 => absurd ((nI_ltI (a := 700) (b := m) (by decide) (by omega)).mp h9) (by omega)) (fun h9 => ?_)
      refine Rn.aload_n dX6_read_49 rfl ?_
      refine Rn.getR dX6_read_50 fX6_20 rfl (xc2 hXKK) (show KK.2.2 2 2 = some 3 from (xp2_2 hXKK)) ?_
      refine Rn.getI dX6_read_53 fX6_56 rfl (xc3 hXKK) ?_
      refine Rn.topI (y := kdF f n i) (r6) ?_
      refine Rn.bipushv (v := 40) dX6_read_56 bp_40 ?_
      refine Rn.icmp_ne dX6_read_58 (fun h40 => ?_) (fun h40 => ?_)
      · skip
        refine Rn.aload_n dX6_read_63 rfl ?_
        refine Rn.callV0 dX6_read_64 vX6_59 (xc2 hXKK) (by decide) rfl (tX6_readLine (M := KK) hS hXKK) (by decide) ⟨(Nat.le_of_ble_eq_true rfl), (Nat.le_of_ble_eq_true rfl), (Nat.le_of_ble_eq_true rfl)⟩ (fun h => by cases h) (fun v1 ly1 N1 ⟨q2, hF1, hh⟩ => ?_)
        rw [q2]
        have htx : txF (kdF f n) (nvF f n) (nx f n) (k + 1 + 1) p i m = Sum.elim (fun x => txF (kdF f n) (nvF f n) (nx f n) (k + 1) x.1 x.2 (m + 1)) .inr (lnF (kdF f n) (nvF f n) (nx f n) p i) := if_neg h40
        rcases hh with ⟨p2, j, e9, q1, hS2⟩ | ⟨q, j, e9, q1, hfa⟩
        · skip
          rw [q1]
          have hF2 := hF.p hF1
          have hXN1 : XW ly N1.2.2 := hF2.xw hX
          refine Rn.if_eq dX6_read_67 (fun h9 => (by first | exact absurd h9 (by decide) | exact absurd (by decide) h9)) (fun h9 => ?_)
          refine Rn.aload_n dX6_read_70 rfl ?_
          refine Rn.bipushv (v := 37) dX6_read_71 bp_37 ?_
          refine Rn.callV1 dX6_read_73 vX6_63 (xc2 hXN1) (by decide) rfl (tkTk (M := N1) (i := j) (x := 37) hS2.1 hXN1) (by decide) ⟨(Nat.le_of_ble_eq_true rfl), (Nat.le_of_ble_eq_true rfl), (Nat.le_of_ble_eq_true rfl)⟩ (fun h => by cases h) (fun v1 ly1 N2 ⟨q2, qr, hh⟩ => ?_)
          rw [q2]
          rcases hh with ⟨z4, q1, g4, hr4⟩ | ⟨z4, q1, g4, hfa⟩
          · skip
            rw [q1]
            have hF3 := hF2.p (pcF.o (pl := pl) qr (fun a hb => g4 a (fun e => hb (Or.inr (Or.inl e)))))
            have hXN2 : XW ly N2.2.2 := hF3.xw hX
            refine Rn.if_ne dX6_read_76 (fun h9 => ?_) (fun h9 => (by first | exact absurd h9 (by decide) | exact absurd (by decide) h9))
            refine Rn.iincN (lv' := [some (.ref 2), some (.ref pl), some (.int (nI n)), some (.int (nI (m + 1)))]) dX6_read_81 rfl (by decide) rfl ?_
            refine Rn.goto dX6_read_84 ?_
            have hln : lnF (kdF f n) (nvF f n) (nx f n) p i = .inl (p2, nx f n j) := by unfold lnF; rw [e9]; exact if_pos z4
            obtain ⟨k1, k2, k3, k4, k5, k6, k7, k8⟩ := hS2
            have hji : i < nx f n j := by have h1 := lnC_le hby hin e9; have h2 := nx_lt hby k1.1.2.1 (fun g => by rw [z4] at g; exact absurd g (by decide)); omega
            exact ih N2 p2 (nx f n j) (m + 1) (by omega) (by omega) ⟨hr4, k2, by rw [qr]; exact k3, k4.of (fun a a1 a2 => g4 a (by omega)), by rw [g4 2 (by decide)]; exact k5, by rw [g4 2 (by decide)]; exact k6, by rw [g4 2 (by decide)]; exact k7, k8⟩ hF3 (by rw [ht, htx, hln]; rfl)
          · skip
            rw [q1]
            have hF3 := hF2.p (pcF.o (pl := pl) qr (fun a hb => g4 a (fun e => hb (Or.inl e))))
            have hXN2 : XW ly N2.2.2 := hF3.xw hX
            refine Rn.if_ne dX6_read_76 (fun h9 => (by first | exact absurd h9 (by decide) | exact absurd (by decide) h9)) (fun h9 => ?_)
            refine Rn.iconstv (v := -1) dX6_read_79 ic_m1 ?_
            exact Rn.iret (ty := .int) dX6_read_80 rfl rfl ⟨rfl, hF3, Or.inr ⟨1, j, by rw [ht, htx]; unfold lnF; rw [e9]; show Sum.elim _ _ (if kdF f n j = 37 then _ else _) = _; rw [if_neg z4]; rfl, rfl, hfa⟩⟩
        · skip
          rw [q1]
          have hF2 := hF.p hF1
          have hXN1 : XW ly N1.2.2 := hF2.xw hX
          refine Rn.if_eq dX6_read_67 (fun h9 => ?_) (fun h9 => (by first | exact absurd h9 (by decide) | exact absurd (by decide) h9))
          refine Rn.iconstv (v := -1) dX6_read_79 ic_m1 ?_
          exact Rn.iret (ty := .int) dX6_read_80 rfl rfl ⟨rfl, hF2, Or.inr ⟨q, j, by rw [ht, htx]; unfold lnF; rw [e9]; rfl, rfl, hfa⟩⟩
      · skip
        refine Rn.iload_n dX6_read_61 rfl ?_
        exact Rn.iret (ty := .int) dX6_read_62 rfl rfl ⟨rfl, hF, Or.inl ⟨p, m, i, by rw [ht]; exact if_pos h40, by omega, rfl, hS⟩⟩
  refine Rn.aload_n dX6_read_0 rfl ?_
  refine Rn.aload_n dX6_read_1 rfl ?_
  refine Rn.putR dX6_read_2 fX6_33 rfl rfl (by decide +kernel) (xc2 hX) ?_
  obtain ⟨N0, e0⟩ : ∃ N9, N9 = sR M 2 (va_up (M.2.2 2) 4 (some pl)) := ⟨_, rfl⟩
  rw [← e0]
  have n1 : N0.1 = M.1 := by rw [e0]; rfl
  have n2 : N0.2.2 2 4 = some pl := by rw [e0]; rfl
  have n3 : ∀ a j, ¬ ((a = 5 ∧ (j = 1 ∨ j = 2)) ∨ (a = 2 ∧ j = 4)) → N0.2.2 a j = M.2.2 a j := by
    intro a j h
    rw [e0]
    by_cases ha : a = 2
    · subst ha
      show va_up (M.2.2 2) 4 (some pl) j = M.2.2 2 j
      exact upR_n (fun e => h (Or.inr ⟨rfl, e⟩))
    · exact congrFun (sR_ne ha) j
  clear e0
  have hF0 : tcF M N0 pl := ⟨n3, fun a _ => by rw [n1]⟩
  have hXN0 : XW ly N0.2.2 := hF0.xw hX
  refine Rn.aload_n dX6_read_5 rfl ?_
  refine Rn.getR dX6_read_6 fX6_33 rfl (xc2 hXN0) (show N0.2.2 2 4 = some pl from n2) ?_
  refine Rn.callV0 dX6_read_9 vX6_37 (pc0 hXN0 hp7) (by decide) rfl (tX7_clear (M := N0) hp7 hXN0) (by decide) ⟨(Nat.le_of_ble_eq_true rfl), (Nat.le_of_ble_eq_true rfl), (Nat.le_of_ble_eq_true rfl)⟩ (fun h => by cases h) (fun v1 ly1 N1 ⟨q1, q2, f1, g1, hP1⟩ => ?_)
  rw [q1, q2]
  have hF1 : tcF M N1 pl := hF0.p (pcF.o f1 (fun a ha => g1 a (fun e => ha (Or.inr (Or.inr (Or.inr (Or.inr e)))))))
  have hXN1 : XW ly N1.2.2 := hF1.xw hX
  refine Rn.aload_n dX6_read_12 rfl ?_
  refine Rn.iconstv (v := 0) dX6_read_13 ic_0 ?_
  refine Rn.putI dX6_read_14 fX6_42 rfl rfl rfl (xc2 hXN1) ?_
  refine Rn.aload_n dX6_read_17 rfl ?_
  refine Rn.iconstv (v := -1) dX6_read_18 ic_m1 ?_
  refine Rn.putI dX6_read_19 fX6_9 rfl rfl rfl (xc2 hXN1) ?_
  refine Rn.meq (M2 := sI N1 2 (upd (upd (N1.1 2) 0 0) 1 (-1))) (sI_sI _ _ _ _) ?_
  refine Rn.aload_n dX6_read_22 rfl ?_
  refine Rn.iconstv (v := 0) dX6_read_23 ic_0 ?_
  refine Rn.putI dX6_read_24 fX6_45 rfl rfl rfl (xc2 hXN1) ?_
  refine Rn.meq (M2 := sI N1 2 (upd (upd (upd (N1.1 2) 0 0) 1 (-1)) 5 0)) (sI_sI _ _ _ _) ?_
  refine Rn.aload_n dX6_read_27 rfl ?_
  refine Rn.iconstv (v := 0) dX6_read_28 ic_0 ?_
  refine Rn.putZ dX6_read_29 fX6_48 rfl rfl rfl (by decide) (xc2 hXN1) ?_
  refine Rn.meq (M2 := sI N1 2 (upd (upd (upd (upd (N1.1 2) 0 0) 1 (-1)) 5 0) 6 0)) (sI_sI _ _ _ _) ?_
  refine Rn.aload_n dX6_read_32 rfl ?_
  refine Rn.getR dX6_read_33 fX6_20 rfl (xc2 hXN1) (show N1.2.2 2 2 = some 3 from (xp2_2 hXN1)) ?_
  refine Rn.iload_n dX6_read_36 rfl ?_
  obtain ⟨N2, e2⟩ : ∃ N9, N9 = sI N1 2 (upd (upd (upd (upd (N1.1 2) 0 0) 1 (-1)) 5 0) 6 0) := ⟨_, rfl⟩
  rw [← e2]
  have m2 : N2.1 2 0 = 0 ∧ N2.1 2 1 = -1 ∧ N2.1 2 5 = 0 ∧ N2.1 2 6 = 0 := by rw [e2]; exact ⟨rfl, rfl, rfl, rfl⟩
  have m3 : ∀ a, a ≠ 2 → N2.1 a = N1.1 a := fun a ha => by rw [e2]; exact sI_ne ha
  have m4 : N2.2.2 = N1.2.2 := by rw [e2]; rfl
  clear e2
  have hF2 : tcF M N2 pl := hF1.p (pcF.o m4 (fun a ha => m3 a (fun e => ha (Or.inl e))))
  have oM : ∀ a, a ≠ 2 → ¬ (pl ≤ a ∧ a ≤ pl + 33) → N2.1 a = M.1 a := fun a a1 a2 => (m3 a a1).trans ((g1 a a2).trans (by rw [n1]))
  have hXN2 : XW ly N2.2.2 := hF2.xw hX
  refine Rn.callV1 dX6_read_37 vX6_52 (xc3 hXN2) (by decide) rfl (startC (M := N2) hn hby (by rw [oM 1 (by decide) (by omega)]; exact hf) (fun w hw9 => by rw [oM 4 (by decide) (by omega)]; exact hw w hw9) hXN2) (by decide) ⟨(Nat.le_of_ble_eq_true rfl), (Nat.le_of_ble_eq_true rfl), (Nat.le_of_ble_eq_true rfl)⟩ (fun h => by cases h) (fun v1 ly1 N3 ⟨q1, q2, f3, hr3⟩ => ?_)
  rw [q1, q2]
  have hF3 : tcF M N3 pl := hF2.p (pcF.o f3.1 (fun a ha => f3.2 a (fun e => ha (Or.inr (Or.inl e)))))
  have hXN3 : XW ly N3.2.2 := hF3.xw hX
  refine Rn.iconstv (v := 0) dX6_read_40 ic_0 ?_
  refine Rn.istore_n (lv' := [some (.ref 2), some (.ref pl), some (.int (nI n)), some (.int 0)]) dX6_read_41 (by decide) rfl ?_
  exact loop 700 N3 p0 0 0 (by decide) (Nat.le_refl 0) ⟨hr3, hp7, by rw [f3.1, m4, f1]; exact n2, hP1.of (fun a a1 a2 => (f3.2 a (by omega)).trans (m3 a (by omega))), by rw [f3.2 2 (by decide), m2.2.2.1]; exact fun j hj => BitVec.getLsbD_zero, by rw [f3.2 2 (by decide)]; exact m2.2.2.2, by rw [f3.2 2 (by decide)]; exact ⟨m2.1, m2.2.1⟩, by decide, by decide, by decide, by decide, by decide, 8, rfl, by decide, by decide⟩ hF3 rfl
