/-- a scene's pointers to its plan, its crowd, its laws -/
def rSc (R : Nat → Nat → Option Nat) (a p c u v : Nat) : Nat → Nat → Option Nat := fun k => if k = a then va_up (va_up (va_up (va_up (R a) 0 (some p)) 1 (some c)) 2 (some u)) 3 (some v) else R k
theorem xFin_sc : ∀ q ∈ xFin, (q.1 = 75 ∨ q.1 = 92 ∨ q.1 = 109) → 5 ≤ q.2.1 := by decide +kernel
theorem rSc_hi {R : Nat → Nat → Option Nat} {a p c u v k j : Nat} (h : k ≠ a ∨ 4 ≤ j) : rSc R a p c u v k j = R k j := by
  unfold rSc
  by_cases e : k = a
  · subst e
    have h : 4 ≤ j := h.elim (fun h => absurd rfl h) id
    rw [if_pos rfl, upR_n (by omega), upR_n (by omega), upR_n (by omega), upR_n (by omega)]
  · rw [if_neg e]
theorem XW_rSc {ly : Ly} {R : Nat → Nat → Option Nat} {a p c u v : Nat} (h : XW ly R) (ha : a = 75 ∨ a = 92 ∨ a = 109) : XW ly (rSc R a p c u v) := by
  refine ⟨h.1, fun q hq => ?_⟩
  rw [rSc_hi]
  · exact h.2 q hq
  · by_cases e : q.1 = a
    · right
      have := xFin_sc q hq (by omega)
      omega
    · exact Or.inl e
/-- a row of a copy -/
def cpR (J : Nat → Nat → Int32) (n a c : Nat) : Nat → Int32 := pre n (J c) (J a)
theorem tX9_copy92_75 {G : Gx} {l : Launch} {ly : Ly} {M : Mm} {p cr u v : Nat} (hX : XW ly M.2.2) (q0 : M.2.2 75 0 = some p) (q1 : M.2.2 75 1 = some cr) (q2 : M.2.2 75 2 = some u) (q3 : M.2.2 75 3 = some v) (hb : (M.1 75 16 = 0 ∨ M.1 75 16 = 1) ∧ (M.1 75 17 = 0 ∨ M.1 75 17 = 1)) {Q : Qt} (hQ : ∀ I : Nat → Nat → Int32, (∀ k, (k < 92 ∨ 108 < k) → I k = M.1 k) → (∀ j, (j = 4 ∨ j = 7 ∨ j = 14 ∨ j = 15 ∨ j = 16 ∨ j = 17) → I 92 j = M.1 75 j) → I 94 = cpR M.1 12 94 77 → I 95 = cpR M.1 12 95 78 → I 96 = cpR M.1 12 96 79 → I 98 = cpR M.1 12 98 81 → I 99 = cpR M.1 12 99 82 → I 100 = cpR M.1 12 100 83 → I 107 = cpR M.1 12 107 90 → I 101 = cpR M.1 6 101 84 → I 102 = cpR M.1 6 102 85 → I 103 = cpR M.1 6 103 86 → I 105 = cpR M.1 8 105 88 → I 106 = cpR M.1 8 106 89 → I 104 = upd (M.1 104) 0 (M.1 87 0) → Q none ly (I, M.2.1, rSc M.2.2 92 p cr u v)) : Mt G l mX9_copy (3, 0, 0, false) [.ref 92, .ref 75] ly M Q := by
  refine Mt.of (lv := [some (.ref 92), some (.ref 75)]) rfl ?_
  refine Rn.aload_n dX9_copy_0 rfl ?_
  refine Rn.aload_n dX9_copy_1 rfl ?_
  refine Rn.getR dX9_copy_2 fX9_48 rfl (xc75 hX) (show M.2.2 75 0 = some p from q0) ?_
  refine Rn.putR dX9_copy_5 fX9_48 rfl rfl (by decide +kernel) (xc92 hX) ?_
  refine Rn.aload_n dX9_copy_8 rfl ?_
  refine Rn.aload_n dX9_copy_9 rfl ?_
  refine Rn.getR dX9_copy_10 fX9_58 rfl (xc75 hX) (show M.2.2 75 1 = some cr from q1) ?_
  refine Rn.putR dX9_copy_13 fX9_58 rfl rfl (by decide +kernel) (xc92 hX) ?_
  refine Rn.meq (M2 := sR M 92 (va_up (va_up (M.2.2 92) 0 (some p)) 1 (some cr))) (sR_sR _ _ _ _) ?_
  refine Rn.aload_n dX9_copy_16 rfl ?_
  refine Rn.aload_n dX9_copy_17 rfl ?_
  refine Rn.getR dX9_copy_18 fX9_63 rfl (xc75 hX) (show M.2.2 75 2 = some u from q2) ?_
  refine Rn.putR dX9_copy_21 fX9_63 rfl rfl (by decide +kernel) (xc92 hX) ?_
  refine Rn.meq (M2 := sR M 92 (va_up (va_up (va_up (M.2.2 92) 0 (some p)) 1 (some cr)) 2 (some u))) (sR_sR _ _ _ _) ?_
  refine Rn.aload_n dX9_copy_24 rfl ?_
  refine Rn.aload_n dX9_copy_25 rfl ?_
  refine Rn.getR dX9_copy_26 fX9_67 rfl (xc75 hX) (show M.2.2 75 3 = some v from q3) ?_
  refine Rn.putR dX9_copy_29 fX9_67 rfl rfl (by decide +kernel) (xc92 hX) ?_
  refine Rn.meq (M2 := sR M 92 (va_up (va_up (va_up (va_up (M.2.2 92) 0 (some p)) 1 (some cr)) 2 (some u)) 3 (some v))) (sR_sR _ _ _ _) ?_
  refine Rn.aload_n dX9_copy_32 rfl ?_
  refine Rn.aload_n dX9_copy_33 rfl ?_
  refine Rn.getI dX9_copy_34 fX9_72 rfl (xc75 hX) ?_
  refine Rn.putI dX9_copy_37 fX9_72 rfl rfl rfl (xc92 hX) ?_
  refine Rn.aload_n dX9_copy_40 rfl ?_
  refine Rn.getR dX9_copy_41 fX9_12 rfl (xc92 hX) (show M.2.2 92 5 = some 93 from (xp92_5 hX)) ?_
  refine Rn.aload_n dX9_copy_44 rfl ?_
  refine Rn.getR dX9_copy_45 fX9_12 rfl (xc75 hX) (show M.2.2 75 5 = some 76 from (xp75_5 hX)) ?_
  refine Rn.callV1 dX9_copy_48 vX9_110 (xc93 hX) (by decide) rfl (fX10_copy (a := 93) (c := 76) ⟨xc93 hX, xc94 hX, xc95 hX, xc96 hX, (show M.2.2 93 0 = some 94 from xp93_0 hX), (show M.2.2 93 1 = some 95 from xp93_1 hX), (show M.2.2 93 2 = some 96 from xp93_2 hX)⟩ ⟨xc76 hX, xc77 hX, xc78 hX, xc79 hX, (show M.2.2 76 0 = some 77 from xp76_0 hX), (show M.2.2 76 1 = some 78 from xp76_1 hX), (show M.2.2 76 2 = some 79 from xp76_2 hX)⟩ (by decide)) (by decide) ⟨(Nat.le_of_ble_eq_true rfl), (Nat.le_of_ble_eq_true rfl), (Nat.le_of_ble_eq_true rfl)⟩ (fun h => by cases h) (fun v1 ly1 M1 ⟨q1, q2, I1, q3, fr1, w1_0, w1_1, w1_2⟩ => ?_)
  rw [q1, q2, q3]
  show Rn G l mX9_copy (3, 0, 0, false) 51 [some (.ref 92), some (.ref 75)] [] ly (I1, M.2.1, (sR M 92 (va_up (va_up (va_up (va_up (M.2.2 92) 0 (some p)) 1 (some cr)) 2 (some u)) 3 (some v))).2.2) Q
  refine Rn.aload_n dX9_copy_51 rfl ?_
  refine Rn.getR dX9_copy_52 fX9_18 rfl (xc92 hX) (show M.2.2 92 6 = some 97 from (xp92_6 hX)) ?_
  refine Rn.aload_n dX9_copy_55 rfl ?_
  refine Rn.getR dX9_copy_56 fX9_18 rfl (xc75 hX) (show M.2.2 75 6 = some 80 from (xp75_6 hX)) ?_
  refine Rn.callV1 dX9_copy_59 vX9_110 (xc97 hX) (by decide) rfl (fX10_copy (a := 97) (c := 80) ⟨xc97 hX, xc98 hX, xc99 hX, xc100 hX, (show M.2.2 97 0 = some 98 from xp97_0 hX), (show M.2.2 97 1 = some 99 from xp97_1 hX), (show M.2.2 97 2 = some 100 from xp97_2 hX)⟩ ⟨xc80 hX, xc81 hX, xc82 hX, xc83 hX, (show M.2.2 80 0 = some 81 from xp80_0 hX), (show M.2.2 80 1 = some 82 from xp80_1 hX), (show M.2.2 80 2 = some 83 from xp80_2 hX)⟩ (by decide)) (by decide) ⟨(Nat.le_of_ble_eq_true rfl), (Nat.le_of_ble_eq_true rfl), (Nat.le_of_ble_eq_true rfl)⟩ (fun h => by cases h) (fun v1 ly1 M1 ⟨q1, q2, I2, q3, fr2, w2_0, w2_1, w2_2⟩ => ?_)
  rw [q1, q2, q3]
  show Rn G l mX9_copy (3, 0, 0, false) 62 [some (.ref 92), some (.ref 75)] [] ly (I2, M.2.1, (sR M 92 (va_up (va_up (va_up (va_up (M.2.2 92) 0 (some p)) 1 (some cr)) 2 (some u)) 3 (some v))).2.2) Q
  refine Rn.aload_n dX9_copy_62 rfl ?_
  refine Rn.aload_n dX9_copy_63 rfl ?_
  refine Rn.getI dX9_copy_64 fX9_98 rfl (xc75 hX) ?_
  refine Rn.topI (y := M.1 75 7) ((congrFun ((fr2 75 (by omega)).trans (fr1 75 (by omega))) 7)) ?_
  refine Rn.putI dX9_copy_67 fX9_98 rfl rfl rfl (xc92 hX) ?_
  refine Rn.meq (M2 := sI (I2, M.2.1, (sR M 92 (va_up (va_up (va_up (va_up (M.2.2 92) 0 (some p)) 1 (some cr)) 2 (some u)) 3 (some v))).2.2) 92 (upd (upd (M.1 92) 4 (M.1 75 4)) 7 (M.1 75 7))) (congrArg (fun r9 => sI (I2, M.2.1, (sR M 92 (va_up (va_up (va_up (va_up (M.2.2 92) 0 (some p)) 1 (some cr)) 2 (some u)) 3 (some v))).2.2) 92 (upd r9 7 (M.1 75 7))) ((fr2 92 (by omega)).trans (fr1 92 (by omega)))) ?_
  refine Rn.aload_n dX9_copy_70 rfl ?_
  refine Rn.getR dX9_copy_71 fX9_21 rfl (xc75 hX) (show M.2.2 75 8 = some 84 from (xp75_8 hX)) ?_
  refine Rn.iconstv (v := 0) dX9_copy_74 ic_0 ?_
  refine Rn.aload_n dX9_copy_75 rfl ?_
  refine Rn.getR dX9_copy_76 fX9_21 rfl (xc92 hX) (show M.2.2 92 8 = some 101 from (xp92_8 hX)) ?_
  refine Rn.iconstv (v := 0) dX9_copy_79 ic_0 ?_
  refine Rn.bipushv (v := 6) dX9_copy_80 bp_6 ?_
  refine Rn.copy dX9_copy_82 jX9_113 jw_copy (xc84 hX) (xc101 hX) (by decide) (by decide) (by decide) (by decide) (by decide) ⟨(Nat.le_of_ble_eq_true rfl), (Nat.le_of_ble_eq_true rfl)⟩ ?_
  refine Rn.meq (M2 := sI (sI (I2, M.2.1, (sR M 92 (va_up (va_up (va_up (va_up (M.2.2 92) 0 (some p)) 1 (some cr)) 2 (some u)) 3 (some v))).2.2) 92 (upd (upd (M.1 92) 4 (M.1 75 4)) 7 (M.1 75 7))) 101 (pre 6 (M.1 84) (M.1 101))) (congrArg (fun r9 => sI (sI (I2, M.2.1, (sR M 92 (va_up (va_up (va_up (va_up (M.2.2 92) 0 (some p)) 1 (some cr)) 2 (some u)) 3 (some v))).2.2) 92 (upd (upd (M.1 92) 4 (M.1 75 4)) 7 (M.1 75 7))) 101 r9) ((congr (congrArg (fun u v => va_cpy u v 0 0 6) ((fr2 84 (by omega)).trans (fr1 84 (by omega)))) ((fr2 101 (by omega)).trans (fr1 101 (by omega)))).trans (cpy_pre 6 (M.1 84) (M.1 101)))) ?_
  refine Rn.aload_n dX9_copy_85 rfl ?_
  refine Rn.getR dX9_copy_86 fX9_25 rfl (xc75 hX) (show M.2.2 75 9 = some 85 from (xp75_9 hX)) ?_
  refine Rn.iconstv (v := 0) dX9_copy_89 ic_0 ?_
  refine Rn.aload_n dX9_copy_90 rfl ?_
  refine Rn.getR dX9_copy_91 fX9_25 rfl (xc92 hX) (show M.2.2 92 9 = some 102 from (xp92_9 hX)) ?_
  refine Rn.iconstv (v := 0) dX9_copy_94 ic_0 ?_
  refine Rn.bipushv (v := 6) dX9_copy_95 bp_6 ?_
  refine Rn.copy dX9_copy_97 jX9_113 jw_copy (xc85 hX) (xc102 hX) (by decide) (by decide) (by decide) (by decide) (by decide) ⟨(Nat.le_of_ble_eq_true rfl), (Nat.le_of_ble_eq_true rfl)⟩ ?_
  refine Rn.meq (M2 := sI (sI (sI (I2, M.2.1, (sR M 92 (va_up (va_up (va_up (va_up (M.2.2 92) 0 (some p)) 1 (some cr)) 2 (some u)) 3 (some v))).2.2) 92 (upd (upd (M.1 92) 4 (M.1 75 4)) 7 (M.1 75 7))) 101 (pre 6 (M.1 84) (M.1 101))) 102 (pre 6 (M.1 85) (M.1 102))) (congrArg (fun r9 => sI (sI (sI (I2, M.2.1, (sR M 92 (va_up (va_up (va_up (va_up (M.2.2 92) 0 (some p)) 1 (some cr)) 2 (some u)) 3 (some v))).2.2) 92 (upd (upd (M.1 92) 4 (M.1 75 4)) 7 (M.1 75 7))) 101 (pre 6 (M.1 84) (M.1 101))) 102 r9) ((congr (congrArg (fun u v => va_cpy u v 0 0 6) ((fr2 85 (by omega)).trans (fr1 85 (by omega)))) ((fr2 102 (by omega)).trans (fr1 102 (by omega)))).trans (cpy_pre 6 (M.1 85) (M.1 102)))) ?_
  refine Rn.aload_n dX9_copy_100 rfl ?_
  refine Rn.getR dX9_copy_101 fX9_28 rfl (xc75 hX) (show M.2.2 75 10 = some 86 from (xp75_10 hX)) ?_
  refine Rn.iconstv (v := 0) dX9_copy_104 ic_0 ?_
  refine Rn.aload_n dX9_copy_105 rfl ?_
  refine Rn.getR dX9_copy_106 fX9_28 rfl (xc92 hX) (show M.2.2 92 10 = some 103 from (xp92_10 hX)) ?_
  refine Rn.iconstv (v := 0) dX9_copy_109 ic_0 ?_
  refine Rn.bipushv (v := 6) dX9_copy_110 bp_6 ?_
  refine Rn.copy dX9_copy_112 jX9_113 jw_copy (xc86 hX) (xc103 hX) (by decide) (by decide) (by decide) (by decide) (by decide) ⟨(Nat.le_of_ble_eq_true rfl), (Nat.le_of_ble_eq_true rfl)⟩ ?_
  refine Rn.meq (M2 := sI (sI (sI (sI (I2, M.2.1, (sR M 92 (va_up (va_up (va_up (va_up (M.2.2 92) 0 (some p)) 1 (some cr)) 2 (some u)) 3 (some v))).2.2) 92 (upd (upd (M.1 92) 4 (M.1 75 4)) 7 (M.1 75 7))) 101 (pre 6 (M.1 84) (M.1 101))) 102 (pre 6 (M.1 85) (M.1 102))) 103 (pre 6 (M.1 86) (M.1 103))) (congrArg (fun r9 => sI (sI (sI (sI (I2, M.2.1, (sR M 92 (va_up (va_up (va_up (va_up (M.2.2 92) 0 (some p)) 1 (some cr)) 2 (some u)) 3 (some v))).2.2) 92 (upd (upd (M.1 92) 4 (M.1 75 4)) 7 (M.1 75 7))) 101 (pre 6 (M.1 84) (M.1 101))) 102 (pre 6 (M.1 85) (M.1 102))) 103 r9) ((congr (congrArg (fun u v => va_cpy u v 0 0 6) ((fr2 86 (by omega)).trans (fr1 86 (by omega)))) ((fr2 103 (by omega)).trans (fr1 103 (by omega)))).trans (cpy_pre 6 (M.1 86) (M.1 103)))) ?_
  refine Rn.aload_n dX9_copy_115 rfl ?_
  refine Rn.getR dX9_copy_116 fX9_34 rfl (xc92 hX) (show M.2.2 92 11 = some 104 from (xp92_11 hX)) ?_
  refine Rn.aload_n dX9_copy_119 rfl ?_
  refine Rn.getR dX9_copy_120 fX9_34 rfl (xc75 hX) (show M.2.2 75 11 = some 87 from (xp75_11 hX)) ?_
  refine Rn.callV1 dX9_copy_123 vX9_87 (xc104 hX) (by decide) rfl (fX2_copy (a := 104) (c := 87) ⟨xc104 hX, xc105 hX, xc106 hX, (show M.2.2 104 1 = some 105 from xp104_1 hX), (show M.2.2 104 2 = some 106 from xp104_2 hX)⟩ ⟨xc87 hX, xc88 hX, xc89 hX, (show M.2.2 87 1 = some 88 from xp87_1 hX), (show M.2.2 87 2 = some 89 from xp87_2 hX)⟩ (by decide)) (by decide) ⟨(Nat.le_of_ble_eq_true rfl), (Nat.le_of_ble_eq_true rfl), (Nat.le_of_ble_eq_true rfl)⟩ (fun h => by cases h) (fun v1 ly1 M1 ⟨q1, q2, I3, q3, fr3, w3_0, w3_1, w3_2⟩ => ?_)
  rw [q1, q2, q3]
  show Rn G l mX9_copy (3, 0, 0, false) 126 [some (.ref 92), some (.ref 75)] [] ly (I3, M.2.1, (sR M 92 (va_up (va_up (va_up (va_up (M.2.2 92) 0 (some p)) 1 (some cr)) 2 (some u)) 3 (some v))).2.2) Q
  refine Rn.aload_n dX9_copy_126 rfl ?_
  refine Rn.getR dX9_copy_127 fX9_38 rfl (xc75 hX) (show M.2.2 75 12 = some 90 from (xp75_12 hX)) ?_
  refine Rn.iconstv (v := 0) dX9_copy_130 ic_0 ?_
  refine Rn.aload_n dX9_copy_131 rfl ?_
  refine Rn.getR dX9_copy_132 fX9_38 rfl (xc92 hX) (show M.2.2 92 12 = some 107 from (xp92_12 hX)) ?_
  refine Rn.iconstv (v := 0) dX9_copy_135 ic_0 ?_
  refine Rn.bipushv (v := 12) dX9_copy_136 bp_12 ?_
  refine Rn.copy dX9_copy_138 jX9_113 jw_copy (xc90 hX) (xc107 hX) (by decide) (by decide) (by decide) (by decide) (by decide) ⟨(Nat.le_of_ble_eq_true rfl), (Nat.le_of_ble_eq_true rfl)⟩ ?_
  refine Rn.meq (M2 := sI (I3, M.2.1, (sR M 92 (va_up (va_up (va_up (va_up (M.2.2 92) 0 (some p)) 1 (some cr)) 2 (some u)) 3 (some v))).2.2) 107 (pre 12 (M.1 90) (M.1 107))) (congrArg (fun r9 => sI (I3, M.2.1, (sR M 92 (va_up (va_up (va_up (va_up (M.2.2 92) 0 (some p)) 1 (some cr)) 2 (some u)) 3 (some v))).2.2) 107 r9) ((congr (congrArg (fun u v => va_cpy u v 0 0 12) ((fr3 90 (by omega)).trans ((fr2 90 (by omega)).trans (fr1 90 (by omega))))) ((fr3 107 (by omega)).trans ((fr2 107 (by omega)).trans (fr1 107 (by omega))))).trans (cpy_pre 12 (M.1 90) (M.1 107)))) ?_
  refine Rn.aload_n dX9_copy_141 rfl ?_
  refine Rn.aload_n dX9_copy_142 rfl ?_
  refine Rn.getI dX9_copy_143 fX9_107 rfl (xc75 hX) ?_
  refine Rn.topI (y := M.1 75 14) ((congrFun ((fr3 75 (by omega)).trans ((fr2 75 (by omega)).trans (fr1 75 (by omega)))) 14)) ?_
  refine Rn.putI dX9_copy_146 fX9_107 rfl rfl rfl (xc92 hX) ?_
  refine Rn.meq (M2 := sI (sI (I3, M.2.1, (sR M 92 (va_up (va_up (va_up (va_up (M.2.2 92) 0 (some p)) 1 (some cr)) 2 (some u)) 3 (some v))).2.2) 107 (pre 12 (M.1 90) (M.1 107))) 92 (upd (upd (upd (M.1 92) 4 (M.1 75 4)) 7 (M.1 75 7)) 14 (M.1 75 14))) (congrArg (fun r9 => sI (sI (I3, M.2.1, (sR M 92 (va_up (va_up (va_up (va_up (M.2.2 92) 0 (some p)) 1 (some cr)) 2 (some u)) 3 (some v))).2.2) 107 (pre 12 (M.1 90) (M.1 107))) 92 (upd r9 14 (M.1 75 14))) (fr3 92 (by omega))) ?_
  refine Rn.aload_n dX9_copy_149 rfl ?_
  refine Rn.aload_n dX9_copy_150 rfl ?_
  refine Rn.getI dX9_copy_151 fX9_76 rfl (xc75 hX) ?_
  refine Rn.topI (y := M.1 75 15) ((congrFun ((fr3 75 (by omega)).trans ((fr2 75 (by omega)).trans (fr1 75 (by omega)))) 15)) ?_
  refine Rn.putI dX9_copy_154 fX9_76 rfl rfl rfl (xc92 hX) ?_
  refine Rn.meq (M2 := sI (sI (I3, M.2.1, (sR M 92 (va_up (va_up (va_up (va_up (M.2.2 92) 0 (some p)) 1 (some cr)) 2 (some u)) 3 (some v))).2.2) 107 (pre 12 (M.1 90) (M.1 107))) 92 (upd (upd (upd (upd (M.1 92) 4 (M.1 75 4)) 7 (M.1 75 7)) 14 (M.1 75 14)) 15 (M.1 75 15))) (sI_sI _ _ _ _) ?_
  refine Rn.aload_n dX9_copy_157 rfl ?_
  refine Rn.aload_n dX9_copy_158 rfl ?_
  refine Rn.getI dX9_copy_159 fX9_79 rfl (xc75 hX) ?_
  refine Rn.topI (y := M.1 75 16) ((congrFun ((fr3 75 (by omega)).trans ((fr2 75 (by omega)).trans (fr1 75 (by omega)))) 16)) ?_
  refine Rn.putZ dX9_copy_162 fX9_79 rfl rfl rfl hb.1 (xc92 hX) ?_
  refine Rn.meq (M2 := sI (sI (I3, M.2.1, (sR M 92 (va_up (va_up (va_up (va_up (M.2.2 92) 0 (some p)) 1 (some cr)) 2 (some u)) 3 (some v))).2.2) 107 (pre 12 (M.1 90) (M.1 107))) 92 (upd (upd (upd (upd (upd (M.1 92) 4 (M.1 75 4)) 7 (M.1 75 7)) 14 (M.1 75 14)) 15 (M.1 75 15)) 16 (M.1 75 16))) (sI_sI _ _ _ _) ?_
  refine Rn.aload_n dX9_copy_165 rfl ?_
  refine Rn.aload_n dX9_copy_166 rfl ?_
  refine Rn.getI dX9_copy_167 fX9_83 rfl (xc75 hX) ?_
  refine Rn.topI (y := M.1 75 17) ((congrFun ((fr3 75 (by omega)).trans ((fr2 75 (by omega)).trans (fr1 75 (by omega)))) 17)) ?_
  refine Rn.putZ dX9_copy_170 fX9_83 rfl rfl rfl hb.2 (xc92 hX) ?_
  refine Rn.meq (M2 := sI (sI (I3, M.2.1, (sR M 92 (va_up (va_up (va_up (va_up (M.2.2 92) 0 (some p)) 1 (some cr)) 2 (some u)) 3 (some v))).2.2) 107 (pre 12 (M.1 90) (M.1 107))) 92 (upd (upd (upd (upd (upd (upd (M.1 92) 4 (M.1 75 4)) 7 (M.1 75 7)) 14 (M.1 75 14)) 15 (M.1 75 15)) 16 (M.1 75 16)) 17 (M.1 75 17))) (sI_sI _ _ _ _) ?_
  refine Rn.vret dX9_copy_173 rfl (hQ (sI (sI (I3, M.2.1, (sR M 92 (va_up (va_up (va_up (va_up (M.2.2 92) 0 (some p)) 1 (some cr)) 2 (some u)) 3 (some v))).2.2) 107 (pre 12 (M.1 90) (M.1 107))) 92 (upd (upd (upd (upd (upd (upd (M.1 92) 4 (M.1 75 4)) 7 (M.1 75 7)) 14 (M.1 75 14)) 15 (M.1 75 15)) 16 (M.1 75 16)) 17 (M.1 75 17))).1 (fun k hk => ?_) (fun j hj => ?_) ?_ ?_ ?_ ?_ ?_ ?_ ?_ ?_ ?_ ?_ ?_ ?_ ?_)
  · exact (sI_ne (by omega)).trans ((sI_ne (by omega)).trans ((fr3 k (by omega)).trans ((sI_ne (by omega)).trans ((sI_ne (by omega)).trans ((sI_ne (by omega)).trans ((sI_ne (by omega)).trans ((fr2 k (by omega)).trans ((fr1 k (by omega)).trans (sI_ne (by omega))))))))))
  · rcases hj with rfl | rfl | rfl | rfl | rfl | rfl
    · exact rfl
    · exact rfl
    · exact rfl
    · exact rfl
    · exact rfl
    · exact rfl
  · exact (fr3 94 (by omega)).trans ((fr2 94 (by omega)).trans (w1_0))
  · exact (fr3 95 (by omega)).trans ((fr2 95 (by omega)).trans (w1_1))
  · exact (fr3 96 (by omega)).trans ((fr2 96 (by omega)).trans (w1_2))
  · exact (fr3 98 (by omega)).trans (((w2_0).trans (congrArg (fun r9 : Nat → Int32 => pre 12 r9 ((I1, M.2.1, (sR M 92 (va_up (va_up (va_up (va_up (M.2.2 92) 0 (some p)) 1 (some cr)) 2 (some u)) 3 (some v))).2.2).1 98)) (fr1 81 (by omega)))).trans (congrArg (fun r9 : Nat → Int32 => pre 12 (M.1 81) r9) (fr1 98 (by omega))))
  · exact (fr3 99 (by omega)).trans (((w2_1).trans (congrArg (fun r9 : Nat → Int32 => pre 12 r9 ((I1, M.2.1, (sR M 92 (va_up (va_up (va_up (va_up (M.2.2 92) 0 (some p)) 1 (some cr)) 2 (some u)) 3 (some v))).2.2).1 99)) (fr1 82 (by omega)))).trans (congrArg (fun r9 : Nat → Int32 => pre 12 (M.1 82) r9) (fr1 99 (by omega))))
  · exact (fr3 100 (by omega)).trans (((w2_2).trans (congrArg (fun r9 : Nat → Int32 => pre 12 r9 ((I1, M.2.1, (sR M 92 (va_up (va_up (va_up (va_up (M.2.2 92) 0 (some p)) 1 (some cr)) 2 (some u)) 3 (some v))).2.2).1 100)) (fr1 83 (by omega)))).trans (congrArg (fun r9 : Nat → Int32 => pre 12 (M.1 83) r9) (fr1 100 (by omega))))
  · exact rfl
  · exact fr3 101 (by omega)
  · exact fr3 102 (by omega)
  · exact fr3 103 (by omega)
  · exact ((w3_1).trans (congrArg (fun r9 : Nat → Int32 => pre 8 r9 ((sI (sI (sI (sI (I2, M.2.1, (sR M 92 (va_up (va_up (va_up (va_up (M.2.2 92) 0 (some p)) 1 (some cr)) 2 (some u)) 3 (some v))).2.2) 92 (upd (upd (M.1 92) 4 (M.1 75 4)) 7 (M.1 75 7))) 101 (pre 6 (M.1 84) (M.1 101))) 102 (pre 6 (M.1 85) (M.1 102))) 103 (pre 6 (M.1 86) (M.1 103))).1 105)) ((fr2 88 (by omega)).trans (fr1 88 (by omega))))).trans (congrArg (fun r9 : Nat → Int32 => pre 8 (M.1 88) r9) ((fr2 105 (by omega)).trans (fr1 105 (by omega))))
  · exact ((w3_2).trans (congrArg (fun r9 : Nat → Int32 => pre 8 r9 ((sI (sI (sI (sI (I2, M.2.1, (sR M 92 (va_up (va_up (va_up (va_up (M.2.2 92) 0 (some p)) 1 (some cr)) 2 (some u)) 3 (some v))).2.2) 92 (upd (upd (M.1 92) 4 (M.1 75 4)) 7 (M.1 75 7))) 101 (pre 6 (M.1 84) (M.1 101))) 102 (pre 6 (M.1 85) (M.1 102))) 103 (pre 6 (M.1 86) (M.1 103))).1 106)) ((fr2 89 (by omega)).trans (fr1 89 (by omega))))).trans (congrArg (fun r9 : Nat → Int32 => pre 8 (M.1 89) r9) ((fr2 106 (by omega)).trans (fr1 106 (by omega))))
  · exact ((w3_0).trans (congrArg (fun r9 : Nat → Int32 => upd r9 0 (((sI (sI (sI (sI (I2, M.2.1, (sR M 92 (va_up (va_up (va_up (va_up (M.2.2 92) 0 (some p)) 1 (some cr)) 2 (some u)) 3 (some v))).2.2) 92 (upd (upd (M.1 92) 4 (M.1 75 4)) 7 (M.1 75 7))) 101 (pre 6 (M.1 84) (M.1 101))) 102 (pre 6 (M.1 85) (M.1 102))) 103 (pre 6 (M.1 86) (M.1 103))).1 87) 0)) ((fr2 104 (by omega)).trans (fr1 104 (by omega))))).trans (congrArg (fun r9 : Nat → Int32 => upd (M.1 104) 0 (r9 0)) ((fr2 87 (by omega)).trans (fr1 87 (by omega))))
theorem tX9_copy109_75 {G : Gx} {l : Launch} {ly : Ly} {M : Mm} {p cr u v : Nat} (hX : XW ly M.2.2) (q0 : M.2.2 75 0 = some p) (q1 : M.2.2 75 1 = some cr) (q2 : M.2.2 75 2 = some u) (q3 : M.2.2 75 3 = some v) (hb : (M.1 75 16 = 0 ∨ M.1 75 16 = 1) ∧ (M.1 75 17 = 0 ∨ M.1 75 17 = 1)) {Q : Qt} (hQ : ∀ I : Nat → Nat → Int32, (∀ k, (k < 109 ∨ 125 < k) → I k = M.1 k) → (∀ j, (j = 4 ∨ j = 7 ∨ j = 14 ∨ j = 15 ∨ j = 16 ∨ j = 17) → I 109 j = M.1 75 j) → I 111 = cpR M.1 12 111 77 → I 112 = cpR M.1 12 112 78 → I 113 = cpR M.1 12 113 79 → I 115 = cpR M.1 12 115 81 → I 116 = cpR M.1 12 116 82 → I 117 = cpR M.1 12 117 83 → I 124 = cpR M.1 12 124 90 → I 118 = cpR M.1 6 118 84 → I 119 = cpR M.1 6 119 85 → I 120 = cpR M.1 6 120 86 → I 122 = cpR M.1 8 122 88 → I 123 = cpR M.1 8 123 89 → I 121 = upd (M.1 121) 0 (M.1 87 0) → Q none ly (I, M.2.1, rSc M.2.2 109 p cr u v)) : Mt G l mX9_copy (3, 0, 0, false) [.ref 109, .ref 75] ly M Q := by
  refine Mt.of (lv := [some (.ref 109), some (.ref 75)]) rfl ?_
  refine Rn.aload_n dX9_copy_0 rfl ?_
  refine Rn.aload_n dX9_copy_1 rfl ?_
  refine Rn.getR dX9_copy_2 fX9_48 rfl (xc75 hX) (show M.2.2 75 0 = some p from q0) ?_
  refine Rn.putR dX9_copy_5 fX9_48 rfl rfl (by decide +kernel) (xc109 hX) ?_
  refine Rn.aload_n dX9_copy_8 rfl ?_
  refine Rn.aload_n dX9_copy_9 rfl ?_
  refine Rn.getR dX9_copy_10 fX9_58 rfl (xc75 hX) (show M.2.2 75 1 = some cr from q1) ?_
  refine Rn.putR dX9_copy_13 fX9_58 rfl rfl (by decide +kernel) (xc109 hX) ?_
  refine Rn.meq (M2 := sR M 109 (va_up (va_up (M.2.2 109) 0 (some p)) 1 (some cr))) (sR_sR _ _ _ _) ?_
  refine Rn.aload_n dX9_copy_16 rfl ?_
  refine Rn.aload_n dX9_copy_17 rfl ?_
  refine Rn.getR dX9_copy_18 fX9_63 rfl (xc75 hX) (show M.2.2 75 2 = some u from q2) ?_
  refine Rn.putR dX9_copy_21 fX9_63 rfl rfl (by decide +kernel) (xc109 hX) ?_
  refine Rn.meq (M2 := sR M 109 (va_up (va_up (va_up (M.2.2 109) 0 (some p)) 1 (some cr)) 2 (some u))) (sR_sR _ _ _ _) ?_
  refine Rn.aload_n dX9_copy_24 rfl ?_
  refine Rn.aload_n dX9_copy_25 rfl ?_
  refine Rn.getR dX9_copy_26 fX9_67 rfl (xc75 hX) (show M.2.2 75 3 = some v from q3) ?_
  refine Rn.putR dX9_copy_29 fX9_67 rfl rfl (by decide +kernel) (xc109 hX) ?_
  refine Rn.meq (M2 := sR M 109 (va_up (va_up (va_up (va_up (M.2.2 109) 0 (some p)) 1 (some cr)) 2 (some u)) 3 (some v))) (sR_sR _ _ _ _) ?_
  refine Rn.aload_n dX9_copy_32 rfl ?_
  refine Rn.aload_n dX9_copy_33 rfl ?_
  refine Rn.getI dX9_copy_34 fX9_72 rfl (xc75 hX) ?_
  refine Rn.putI dX9_copy_37 fX9_72 rfl rfl rfl (xc109 hX) ?_
  refine Rn.aload_n dX9_copy_40 rfl ?_
  refine Rn.getR dX9_copy_41 fX9_12 rfl (xc109 hX) (show M.2.2 109 5 = some 110 from (xp109_5 hX)) ?_
  refine Rn.aload_n dX9_copy_44 rfl ?_
  refine Rn.getR dX9_copy_45 fX9_12 rfl (xc75 hX) (show M.2.2 75 5 = some 76 from (xp75_5 hX)) ?_
  refine Rn.callV1 dX9_copy_48 vX9_110 (xc110 hX) (by decide) rfl (fX10_copy (a := 110) (c := 76) ⟨xc110 hX, xc111 hX, xc112 hX, xc113 hX, (show M.2.2 110 0 = some 111 from xp110_0 hX), (show M.2.2 110 1 = some 112 from xp110_1 hX), (show M.2.2 110 2 = some 113 from xp110_2 hX)⟩ ⟨xc76 hX, xc77 hX, xc78 hX, xc79 hX, (show M.2.2 76 0 = some 77 from xp76_0 hX), (show M.2.2 76 1 = some 78 from xp76_1 hX), (show M.2.2 76 2 = some 79 from xp76_2 hX)⟩ (by decide)) (by decide) ⟨(Nat.le_of_ble_eq_true rfl), (Nat.le_of_ble_eq_true rfl), (Nat.le_of_ble_eq_true rfl)⟩ (fun h => by cases h) (fun v1 ly1 M1 ⟨q1, q2, I1, q3, fr1, w1_0, w1_1, w1_2⟩ => ?_)
  rw [q1, q2, q3]
  show Rn G l mX9_copy (3, 0, 0, false) 51 [some (.ref 109), some (.ref 75)] [] ly (I1, M.2.1, (sR M 109 (va_up (va_up (va_up (va_up (M.2.2 109) 0 (some p)) 1 (some cr)) 2 (some u)) 3 (some v))).2.2) Q
  refine Rn.aload_n dX9_copy_51 rfl ?_
  refine Rn.getR dX9_copy_52 fX9_18 rfl (xc109 hX) (show M.2.2 109 6 = some 114 from (xp109_6 hX)) ?_
  refine Rn.aload_n dX9_copy_55 rfl ?_
  refine Rn.getR dX9_copy_56 fX9_18 rfl (xc75 hX) (show M.2.2 75 6 = some 80 from (xp75_6 hX)) ?_
  refine Rn.callV1 dX9_copy_59 vX9_110 (xc114 hX) (by decide) rfl (fX10_copy (a := 114) (c := 80) ⟨xc114 hX, xc115 hX, xc116 hX, xc117 hX, (show M.2.2 114 0 = some 115 from xp114_0 hX), (show M.2.2 114 1 = some 116 from xp114_1 hX), (show M.2.2 114 2 = some 117 from xp114_2 hX)⟩ ⟨xc80 hX, xc81 hX, xc82 hX, xc83 hX, (show M.2.2 80 0 = some 81 from xp80_0 hX), (show M.2.2 80 1 = some 82 from xp80_1 hX), (show M.2.2 80 2 = some 83 from xp80_2 hX)⟩ (by decide)) (by decide) ⟨(Nat.le_of_ble_eq_true rfl), (Nat.le_of_ble_eq_true rfl), (Nat.le_of_ble_eq_true rfl)⟩ (fun h => by cases h) (fun v1 ly1 M1 ⟨q1, q2, I2, q3, fr2, w2_0, w2_1, w2_2⟩ => ?_)
  rw [q1, q2, q3]
  show Rn G l mX9_copy (3, 0, 0, false) 62 [some (.ref 109), some (.ref 75)] [] ly (I2, M.2.1, (sR M 109 (va_up (va_up (va_up (va_up (M.2.2 109) 0 (some p)) 1 (some cr)) 2 (some u)) 3 (some v))).2.2) Q
  refine Rn.aload_n dX9_copy_62 rfl ?_
  refine Rn.aload_n dX9_copy_63 rfl ?_
  refine Rn.getI dX9_copy_64 fX9_98 rfl (xc75 hX) ?_
  refine Rn.topI (y := M.1 75 7) ((congrFun ((fr2 75 (by omega)).trans (fr1 75 (by omega))) 7)) ?_
  refine Rn.putI dX9_copy_67 fX9_98 rfl rfl rfl (xc109 hX) ?_
  refine Rn.meq (M2 := sI (I2, M.2.1, (sR M 109 (va_up (va_up (va_up (va_up (M.2.2 109) 0 (some p)) 1 (some cr)) 2 (some u)) 3 (some v))).2.2) 109 (upd (upd (M.1 109) 4 (M.1 75 4)) 7 (M.1 75 7))) (congrArg (fun r9 => sI (I2, M.2.1, (sR M 109 (va_up (va_up (va_up (va_up (M.2.2 109) 0 (some p)) 1 (some cr)) 2 (some u)) 3 (some v))).2.2) 109 (upd r9 7 (M.1 75 7))) ((fr2 109 (by omega)).trans (fr1 109 (by omega)))) ?_
  refine Rn.aload_n dX9_copy_70 rfl ?_
  refine Rn.getR dX9_copy_71 fX9_21 rfl (xc75 hX) (show M.2.2 75 8 = some 84 from (xp75_8 hX)) ?_
  refine Rn.iconstv (v := 0) dX9_copy_74 ic_0 ?_
  refine Rn.aload_n dX9_copy_75 rfl ?_
  refine Rn.getR dX9_copy_76 fX9_21 rfl (xc109 hX) (show M.2.2 109 8 = some 118 from (xp109_8 hX)) ?_
  refine Rn.iconstv (v := 0) dX9_copy_79 ic_0 ?_
  refine Rn.bipushv (v := 6) dX9_copy_80 bp_6 ?_
  refine Rn.copy dX9_copy_82 jX9_113 jw_copy (xc84 hX) (xc118 hX) (by decide) (by decide) (by decide) (by decide) (by decide) ⟨(Nat.le_of_ble_eq_true rfl), (Nat.le_of_ble_eq_true rfl)⟩ ?_
  refine Rn.meq (M2 := sI (sI (I2, M.2.1, (sR M 109 (va_up (va_up (va_up (va_up (M.2.2 109) 0 (some p)) 1 (some cr)) 2 (some u)) 3 (some v))).2.2) 109 (upd (upd (M.1 109) 4 (M.1 75 4)) 7 (M.1 75 7))) 118 (pre 6 (M.1 84) (M.1 118))) (congrArg (fun r9 => sI (sI (I2, M.2.1, (sR M 109 (va_up (va_up (va_up (va_up (M.2.2 109) 0 (some p)) 1 (some cr)) 2 (some u)) 3 (some v))).2.2) 109 (upd (upd (M.1 109) 4 (M.1 75 4)) 7 (M.1 75 7))) 118 r9) ((congr (congrArg (fun u v => va_cpy u v 0 0 6) ((fr2 84 (by omega)).trans (fr1 84 (by omega)))) ((fr2 118 (by omega)).trans (fr1 118 (by omega)))).trans (cpy_pre 6 (M.1 84) (M.1 118)))) ?_
  refine Rn.aload_n dX9_copy_85 rfl ?_
  refine Rn.getR dX9_copy_86 fX9_25 rfl (xc75 hX) (show M.2.2 75 9 = some 85 from (xp75_9 hX)) ?_
  refine Rn.iconstv (v := 0) dX9_copy_89 ic_0 ?_
  refine Rn.aload_n dX9_copy_90 rfl ?_
  refine Rn.getR dX9_copy_91 fX9_25 rfl (xc109 hX) (show M.2.2 109 9 = some 119 from (xp109_9 hX)) ?_
  refine Rn.iconstv (v := 0) dX9_copy_94 ic_0 ?_
  refine Rn.bipushv (v := 6) dX9_copy_95 bp_6 ?_
  refine Rn.copy dX9_copy_97 jX9_113 jw_copy (xc85 hX) (xc119 hX) (by decide) (by decide) (by decide) (by decide) (by decide) ⟨(Nat.le_of_ble_eq_true rfl), (Nat.le_of_ble_eq_true rfl)⟩ ?_
  refine Rn.meq (M2 := sI (sI (sI (I2, M.2.1, (sR M 109 (va_up (va_up (va_up (va_up (M.2.2 109) 0 (some p)) 1 (some cr)) 2 (some u)) 3 (some v))).2.2) 109 (upd (upd (M.1 109) 4 (M.1 75 4)) 7 (M.1 75 7))) 118 (pre 6 (M.1 84) (M.1 118))) 119 (pre 6 (M.1 85) (M.1 119))) (congrArg (fun r9 => sI (sI (sI (I2, M.2.1, (sR M 109 (va_up (va_up (va_up (va_up (M.2.2 109) 0 (some p)) 1 (some cr)) 2 (some u)) 3 (some v))).2.2) 109 (upd (upd (M.1 109) 4 (M.1 75 4)) 7 (M.1 75 7))) 118 (pre 6 (M.1 84) (M.1 118))) 119 r9) ((congr (congrArg (fun u v => va_cpy u v 0 0 6) ((fr2 85 (by omega)).trans (fr1 85 (by omega)))) ((fr2 119 (by omega)).trans (fr1 119 (by omega)))).trans (cpy_pre 6 (M.1 85) (M.1 119)))) ?_
  refine Rn.aload_n dX9_copy_100 rfl ?_
  refine Rn.getR dX9_copy_101 fX9_28 rfl (xc75 hX) (show M.2.2 75 10 = some 86 from (xp75_10 hX)) ?_
  refine Rn.iconstv (v := 0) dX9_copy_104 ic_0 ?_
  refine Rn.aload_n dX9_copy_105 rfl ?_
  refine Rn.getR dX9_copy_106 fX9_28 rfl (xc109 hX) (show M.2.2 109 10 = some 120 from (xp109_10 hX)) ?_
  refine Rn.iconstv (v := 0) dX9_copy_109 ic_0 ?_
  refine Rn.bipushv (v := 6) dX9_copy_110 bp_6 ?_
  refine Rn.copy dX9_copy_112 jX9_113 jw_copy (xc86 hX) (xc120 hX) (by decide) (by decide) (by decide) (by decide) (by decide) ⟨(Nat.le_of_ble_eq_true rfl), (Nat.le_of_ble_eq_true rfl)⟩ ?_
  refine Rn.meq (M2 := sI (sI (sI (sI (I2, M.2.1, (sR M 109 (va_up (va_up (va_up (va_up (M.2.2 109) 0 (some p)) 1 (some cr)) 2 (some u)) 3 (some v))).2.2) 109 (upd (upd (M.1 109) 4 (M.1 75 4)) 7 (M.1 75 7))) 118 (pre 6 (M.1 84) (M.1 118))) 119 (pre 6 (M.1 85) (M.1 119))) 120 (pre 6 (M.1 86) (M.1 120))) (congrArg (fun r9 => sI (sI (sI (sI (I2, M.2.1, (sR M 109 (va_up (va_up (va_up (va_up (M.2.2 109) 0 (some p)) 1 (some cr)) 2 (some u)) 3 (some v))).2.2) 109 (upd (upd (M.1 109) 4 (M.1 75 4)) 7 (M.1 75 7))) 118 (pre 6 (M.1 84) (M.1 118))) 119 (pre 6 (M.1 85) (M.1 119))) 120 r9) ((congr (congrArg (fun u v => va_cpy u v 0 0 6) ((fr2 86 (by omega)).trans (fr1 86 (by omega)))) ((fr2 120 (by omega)).trans (fr1 120 (by omega)))).trans (cpy_pre 6 (M.1 86) (M.1 120)))) ?_
  refine Rn.aload_n dX9_copy_115 rfl ?_
  refine Rn.getR dX9_copy_116 fX9_34 rfl (xc109 hX) (show M.2.2 109 11 = some 121 from (xp109_11 hX)) ?_
  refine Rn.aload_n dX9_copy_119 rfl ?_
  refine Rn.getR dX9_copy_120 fX9_34 rfl (xc75 hX) (show M.2.2 75 11 = some 87 from (xp75_11 hX)) ?_
  refine Rn.callV1 dX9_copy_123 vX9_87 (xc121 hX) (by decide) rfl (fX2_copy (a := 121) (c := 87) ⟨xc121 hX, xc122 hX, xc123 hX, (show M.2.2 121 1 = some 122 from xp121_1 hX), (show M.2.2 121 2 = some 123 from xp121_2 hX)⟩ ⟨xc87 hX, xc88 hX, xc89 hX, (show M.2.2 87 1 = some 88 from xp87_1 hX), (show M.2.2 87 2 = some 89 from xp87_2 hX)⟩ (by decide)) (by decide) ⟨(Nat.le_of_ble_eq_true rfl), (Nat.le_of_ble_eq_true rfl), (Nat.le_of_ble_eq_true rfl)⟩ (fun h => by cases h) (fun v1 ly1 M1 ⟨q1, q2, I3, q3, fr3, w3_0, w3_1, w3_2⟩ => ?_)
  rw [q1, q2, q3]
  show Rn G l mX9_copy (3, 0, 0, false) 126 [some (.ref 109), some (.ref 75)] [] ly (I3, M.2.1, (sR M 109 (va_up (va_up (va_up (va_up (M.2.2 109) 0 (some p)) 1 (some cr)) 2 (some u)) 3 (some v))).2.2) Q
  refine Rn.aload_n dX9_copy_126 rfl ?_
  refine Rn.getR dX9_copy_127 fX9_38 rfl (xc75 hX) (show M.2.2 75 12 = some 90 from (xp75_12 hX)) ?_
  refine Rn.iconstv (v := 0) dX9_copy_130 ic_0 ?_
  refine Rn.aload_n dX9_copy_131 rfl ?_
  refine Rn.getR dX9_copy_132 fX9_38 rfl (xc109 hX) (show M.2.2 109 12 = some 124 from (xp109_12 hX)) ?_
  refine Rn.iconstv (v := 0) dX9_copy_135 ic_0 ?_
  refine Rn.bipushv (v := 12) dX9_copy_136 bp_12 ?_
  refine Rn.copy dX9_copy_138 jX9_113 jw_copy (xc90 hX) (xc124 hX) (by decide) (by decide) (by decide) (by decide) (by decide) ⟨(Nat.le_of_ble_eq_true rfl), (Nat.le_of_ble_eq_true rfl)⟩ ?_
  refine Rn.meq (M2 := sI (I3, M.2.1, (sR M 109 (va_up (va_up (va_up (va_up (M.2.2 109) 0 (some p)) 1 (some cr)) 2 (some u)) 3 (some v))).2.2) 124 (pre 12 (M.1 90) (M.1 124))) (congrArg (fun r9 => sI (I3, M.2.1, (sR M 109 (va_up (va_up (va_up (va_up (M.2.2 109) 0 (some p)) 1 (some cr)) 2 (some u)) 3 (some v))).2.2) 124 r9) ((congr (congrArg (fun u v => va_cpy u v 0 0 12) ((fr3 90 (by omega)).trans ((fr2 90 (by omega)).trans (fr1 90 (by omega))))) ((fr3 124 (by omega)).trans ((fr2 124 (by omega)).trans (fr1 124 (by omega))))).trans (cpy_pre 12 (M.1 90) (M.1 124)))) ?_
  refine Rn.aload_n dX9_copy_141 rfl ?_
  refine Rn.aload_n dX9_copy_142 rfl ?_
  refine Rn.getI dX9_copy_143 fX9_107 rfl (xc75 hX) ?_
  refine Rn.topI (y := M.1 75 14) ((congrFun ((fr3 75 (by omega)).trans ((fr2 75 (by omega)).trans (fr1 75 (by omega)))) 14)) ?_
  refine Rn.putI dX9_copy_146 fX9_107 rfl rfl rfl (xc109 hX) ?_
  refine Rn.meq (M2 := sI (sI (I3, M.2.1, (sR M 109 (va_up (va_up (va_up (va_up (M.2.2 109) 0 (some p)) 1 (some cr)) 2 (some u)) 3 (some v))).2.2) 124 (pre 12 (M.1 90) (M.1 124))) 109 (upd (upd (upd (M.1 109) 4 (M.1 75 4)) 7 (M.1 75 7)) 14 (M.1 75 14))) (congrArg (fun r9 => sI (sI (I3, M.2.1, (sR M 109 (va_up (va_up (va_up (va_up (M.2.2 109) 0 (some p)) 1 (some cr)) 2 (some u)) 3 (some v))).2.2) 124 (pre 12 (M.1 90) (M.1 124))) 109 (upd r9 14 (M.1 75 14))) (fr3 109 (by omega))) ?_
  refine Rn.aload_n dX9_copy_149 rfl ?_
  refine Rn.aload_n dX9_copy_150 rfl ?_
  refine Rn.getI dX9_copy_151 fX9_76 rfl (xc75 hX) ?_
  refine Rn.topI (y := M.1 75 15) ((congrFun ((fr3 75 (by omega)).trans ((fr2 75 (by omega)).trans (fr1 75 (by omega)))) 15)) ?_
  refine Rn.putI dX9_copy_154 fX9_76 rfl rfl rfl (xc109 hX) ?_
  refine Rn.meq (M2 := sI (sI (I3, M.2.1, (sR M 109 (va_up (va_up (va_up (va_up (M.2.2 109) 0 (some p)) 1 (some cr)) 2 (some u)) 3 (some v))).2.2) 124 (pre 12 (M.1 90) (M.1 124))) 109 (upd (upd (upd (upd (M.1 109) 4 (M.1 75 4)) 7 (M.1 75 7)) 14 (M.1 75 14)) 15 (M.1 75 15))) (sI_sI _ _ _ _) ?_
  refine Rn.aload_n dX9_copy_157 rfl ?_
  refine Rn.aload_n dX9_copy_158 rfl ?_
  refine Rn.getI dX9_copy_159 fX9_79 rfl (xc75 hX) ?_
  refine Rn.topI (y := M.1 75 16) ((congrFun ((fr3 75 (by omega)).trans ((fr2 75 (by omega)).trans (fr1 75 (by omega)))) 16)) ?_
  refine Rn.putZ dX9_copy_162 fX9_79 rfl rfl rfl hb.1 (xc109 hX) ?_
  refine Rn.meq (M2 := sI (sI (I3, M.2.1, (sR M 109 (va_up (va_up (va_up (va_up (M.2.2 109) 0 (some p)) 1 (some cr)) 2 (some u)) 3 (some v))).2.2) 124 (pre 12 (M.1 90) (M.1 124))) 109 (upd (upd (upd (upd (upd (M.1 109) 4 (M.1 75 4)) 7 (M.1 75 7)) 14 (M.1 75 14)) 15 (M.1 75 15)) 16 (M.1 75 16))) (sI_sI _ _ _ _) ?_
  refine Rn.aload_n dX9_copy_165 rfl ?_
  refine Rn.aload_n dX9_copy_166 rfl ?_
  refine Rn.getI dX9_copy_167 fX9_83 rfl (xc75 hX) ?_
  refine Rn.topI (y := M.1 75 17) ((congrFun ((fr3 75 (by omega)).trans ((fr2 75 (by omega)).trans (fr1 75 (by omega)))) 17)) ?_
  refine Rn.putZ dX9_copy_170 fX9_83 rfl rfl rfl hb.2 (xc109 hX) ?_
  refine Rn.meq (M2 := sI (sI (I3, M.2.1, (sR M 109 (va_up (va_up (va_up (va_up (M.2.2 109) 0 (some p)) 1 (some cr)) 2 (some u)) 3 (some v))).2.2) 124 (pre 12 (M.1 90) (M.1 124))) 109 (upd (upd (upd (upd (upd (upd (M.1 109) 4 (M.1 75 4)) 7 (M.1 75 7)) 14 (M.1 75 14)) 15 (M.1 75 15)) 16 (M.1 75 16)) 17 (M.1 75 17))) (sI_sI _ _ _ _) ?_
  refine Rn.vret dX9_copy_173 rfl (hQ (sI (sI (I3, M.2.1, (sR M 109 (va_up (va_up (va_up (va_up (M.2.2 109) 0 (some p)) 1 (some cr)) 2 (some u)) 3 (some v))).2.2) 124 (pre 12 (M.1 90) (M.1 124))) 109 (upd (upd (upd (upd (upd (upd (M.1 109) 4 (M.1 75 4)) 7 (M.1 75 7)) 14 (M.1 75 14)) 15 (M.1 75 15)) 16 (M.1 75 16)) 17 (M.1 75 17))).1 (fun k hk => ?_) (fun j hj => ?_) ?_ ?_ ?_ ?_ ?_ ?_ ?_ ?_ ?_ ?_ ?_ ?_ ?_)
  · exact (sI_ne (by omega)).trans ((sI_ne (by omega)).trans ((fr3 k (by omega)).trans ((sI_ne (by omega)).trans ((sI_ne (by omega)).trans ((sI_ne (by omega)).trans ((sI_ne (by omega)).trans ((fr2 k (by omega)).trans ((fr1 k (by omega)).trans (sI_ne (by omega))))))))))
  · rcases hj with rfl | rfl | rfl | rfl | rfl | rfl
    · exact rfl
    · exact rfl
    · exact rfl
    · exact rfl
    · exact rfl
    · exact rfl
  · exact (fr3 111 (by omega)).trans ((fr2 111 (by omega)).trans (w1_0))
  · exact (fr3 112 (by omega)).trans ((fr2 112 (by omega)).trans (w1_1))
  · exact (fr3 113 (by omega)).trans ((fr2 113 (by omega)).trans (w1_2))
  · exact (fr3 115 (by omega)).trans (((w2_0).trans (congrArg (fun r9 : Nat → Int32 => pre 12 r9 ((I1, M.2.1, (sR M 109 (va_up (va_up (va_up (va_up (M.2.2 109) 0 (some p)) 1 (some cr)) 2 (some u)) 3 (some v))).2.2).1 115)) (fr1 81 (by omega)))).trans (congrArg (fun r9 : Nat → Int32 => pre 12 (M.1 81) r9) (fr1 115 (by omega))))
  · exact (fr3 116 (by omega)).trans (((w2_1).trans (congrArg (fun r9 : Nat → Int32 => pre 12 r9 ((I1, M.2.1, (sR M 109 (va_up (va_up (va_up (va_up (M.2.2 109) 0 (some p)) 1 (some cr)) 2 (some u)) 3 (some v))).2.2).1 116)) (fr1 82 (by omega)))).trans (congrArg (fun r9 : Nat → Int32 => pre 12 (M.1 82) r9) (fr1 116 (by omega))))
  · exact (fr3 117 (by omega)).trans (((w2_2).trans (congrArg (fun r9 : Nat → Int32 => pre 12 r9 ((I1, M.2.1, (sR M 109 (va_up (va_up (va_up (va_up (M.2.2 109) 0 (some p)) 1 (some cr)) 2 (some u)) 3 (some v))).2.2).1 117)) (fr1 83 (by omega)))).trans (congrArg (fun r9 : Nat → Int32 => pre 12 (M.1 83) r9) (fr1 117 (by omega))))
  · exact rfl
  · exact fr3 118 (by omega)
  · exact fr3 119 (by omega)
  · exact fr3 120 (by omega)
  · exact ((w3_1).trans (congrArg (fun r9 : Nat → Int32 => pre 8 r9 ((sI (sI (sI (sI (I2, M.2.1, (sR M 109 (va_up (va_up (va_up (va_up (M.2.2 109) 0 (some p)) 1 (some cr)) 2 (some u)) 3 (some v))).2.2) 109 (upd (upd (M.1 109) 4 (M.1 75 4)) 7 (M.1 75 7))) 118 (pre 6 (M.1 84) (M.1 118))) 119 (pre 6 (M.1 85) (M.1 119))) 120 (pre 6 (M.1 86) (M.1 120))).1 122)) ((fr2 88 (by omega)).trans (fr1 88 (by omega))))).trans (congrArg (fun r9 : Nat → Int32 => pre 8 (M.1 88) r9) ((fr2 122 (by omega)).trans (fr1 122 (by omega))))
  · exact ((w3_2).trans (congrArg (fun r9 : Nat → Int32 => pre 8 r9 ((sI (sI (sI (sI (I2, M.2.1, (sR M 109 (va_up (va_up (va_up (va_up (M.2.2 109) 0 (some p)) 1 (some cr)) 2 (some u)) 3 (some v))).2.2) 109 (upd (upd (M.1 109) 4 (M.1 75 4)) 7 (M.1 75 7))) 118 (pre 6 (M.1 84) (M.1 118))) 119 (pre 6 (M.1 85) (M.1 119))) 120 (pre 6 (M.1 86) (M.1 120))).1 123)) ((fr2 89 (by omega)).trans (fr1 89 (by omega))))).trans (congrArg (fun r9 : Nat → Int32 => pre 8 (M.1 89) r9) ((fr2 123 (by omega)).trans (fr1 123 (by omega))))
  · exact ((w3_0).trans (congrArg (fun r9 : Nat → Int32 => upd r9 0 (((sI (sI (sI (sI (I2, M.2.1, (sR M 109 (va_up (va_up (va_up (va_up (M.2.2 109) 0 (some p)) 1 (some cr)) 2 (some u)) 3 (some v))).2.2) 109 (upd (upd (M.1 109) 4 (M.1 75 4)) 7 (M.1 75 7))) 118 (pre 6 (M.1 84) (M.1 118))) 119 (pre 6 (M.1 85) (M.1 119))) 120 (pre 6 (M.1 86) (M.1 120))).1 87) 0)) ((fr2 121 (by omega)).trans (fr1 121 (by omega))))).trans (congrArg (fun r9 : Nat → Int32 => upd (M.1 121) 0 (r9 0)) ((fr2 87 (by omega)).trans (fr1 87 (by omega))))
theorem tX9_copy75_109 {G : Gx} {l : Launch} {ly : Ly} {M : Mm} {p cr u v : Nat} (hX : XW ly M.2.2) (q0 : M.2.2 109 0 = some p) (q1 : M.2.2 109 1 = some cr) (q2 : M.2.2 109 2 = some u) (q3 : M.2.2 109 3 = some v) (hb : (M.1 109 16 = 0 ∨ M.1 109 16 = 1) ∧ (M.1 109 17 = 0 ∨ M.1 109 17 = 1)) {Q : Qt} (hQ : ∀ I : Nat → Nat → Int32, (∀ k, (k < 75 ∨ 91 < k) → I k = M.1 k) → (∀ j, (j = 4 ∨ j = 7 ∨ j = 14 ∨ j = 15 ∨ j = 16 ∨ j = 17) → I 75 j = M.1 109 j) → I 77 = cpR M.1 12 77 111 → I 78 = cpR M.1 12 78 112 → I 79 = cpR M.1 12 79 113 → I 81 = cpR M.1 12 81 115 → I 82 = cpR M.1 12 82 116 → I 83 = cpR M.1 12 83 117 → I 90 = cpR M.1 12 90 124 → I 84 = cpR M.1 6 84 118 → I 85 = cpR M.1 6 85 119 → I 86 = cpR M.1 6 86 120 → I 88 = cpR M.1 8 88 122 → I 89 = cpR M.1 8 89 123 → I 87 = upd (M.1 87) 0 (M.1 121 0) → Q none ly (I, M.2.1, rSc M.2.2 75 p cr u v)) : Mt G l mX9_copy (3, 0, 0, false) [.ref 75, .ref 109] ly M Q := by
  refine Mt.of (lv := [some (.ref 75), some (.ref 109)]) rfl ?_
  refine Rn.aload_n dX9_copy_0 rfl ?_
  refine Rn.aload_n dX9_copy_1 rfl ?_
  refine Rn.getR dX9_copy_2 fX9_48 rfl (xc109 hX) (show M.2.2 109 0 = some p from q0) ?_
  refine Rn.putR dX9_copy_5 fX9_48 rfl rfl (by decide +kernel) (xc75 hX) ?_
  refine Rn.aload_n dX9_copy_8 rfl ?_
  refine Rn.aload_n dX9_copy_9 rfl ?_
  refine Rn.getR dX9_copy_10 fX9_58 rfl (xc109 hX) (show M.2.2 109 1 = some cr from q1) ?_
  refine Rn.putR dX9_copy_13 fX9_58 rfl rfl (by decide +kernel) (xc75 hX) ?_
  refine Rn.meq (M2 := sR M 75 (va_up (va_up (M.2.2 75) 0 (some p)) 1 (some cr))) (sR_sR _ _ _ _) ?_
  refine Rn.aload_n dX9_copy_16 rfl ?_
  refine Rn.aload_n dX9_copy_17 rfl ?_
  refine Rn.getR dX9_copy_18 fX9_63 rfl (xc109 hX) (show M.2.2 109 2 = some u from q2) ?_
  refine Rn.putR dX9_copy_21 fX9_63 rfl rfl (by decide +kernel) (xc75 hX) ?_
  refine Rn.meq (M2 := sR M 75 (va_up (va_up (va_up (M.2.2 75) 0 (some p)) 1 (some cr)) 2 (some u))) (sR_sR _ _ _ _) ?_
  refine Rn.aload_n dX9_copy_24 rfl ?_
  refine Rn.aload_n dX9_copy_25 rfl ?_
  refine Rn.getR dX9_copy_26 fX9_67 rfl (xc109 hX) (show M.2.2 109 3 = some v from q3) ?_
  refine Rn.putR dX9_copy_29 fX9_67 rfl rfl (by decide +kernel) (xc75 hX) ?_
  refine Rn.meq (M2 := sR M 75 (va_up (va_up (va_up (va_up (M.2.2 75) 0 (some p)) 1 (some cr)) 2 (some u)) 3 (some v))) (sR_sR _ _ _ _) ?_
  refine Rn.aload_n dX9_copy_32 rfl ?_
  refine Rn.aload_n dX9_copy_33 rfl ?_
  refine Rn.getI dX9_copy_34 fX9_72 rfl (xc109 hX) ?_
  refine Rn.putI dX9_copy_37 fX9_72 rfl rfl rfl (xc75 hX) ?_
  refine Rn.aload_n dX9_copy_40 rfl ?_
  refine Rn.getR dX9_copy_41 fX9_12 rfl (xc75 hX) (show M.2.2 75 5 = some 76 from (xp75_5 hX)) ?_
  refine Rn.aload_n dX9_copy_44 rfl ?_
  refine Rn.getR dX9_copy_45 fX9_12 rfl (xc109 hX) (show M.2.2 109 5 = some 110 from (xp109_5 hX)) ?_
  refine Rn.callV1 dX9_copy_48 vX9_110 (xc76 hX) (by decide) rfl (fX10_copy (a := 76) (c := 110) ⟨xc76 hX, xc77 hX, xc78 hX, xc79 hX, (show M.2.2 76 0 = some 77 from xp76_0 hX), (show M.2.2 76 1 = some 78 from xp76_1 hX), (show M.2.2 76 2 = some 79 from xp76_2 hX)⟩ ⟨xc110 hX, xc111 hX, xc112 hX, xc113 hX, (show M.2.2 110 0 = some 111 from xp110_0 hX), (show M.2.2 110 1 = some 112 from xp110_1 hX), (show M.2.2 110 2 = some 113 from xp110_2 hX)⟩ (by decide)) (by decide) ⟨(Nat.le_of_ble_eq_true rfl), (Nat.le_of_ble_eq_true rfl), (Nat.le_of_ble_eq_true rfl)⟩ (fun h => by cases h) (fun v1 ly1 M1 ⟨q1, q2, I1, q3, fr1, w1_0, w1_1, w1_2⟩ => ?_)
  rw [q1, q2, q3]
  show Rn G l mX9_copy (3, 0, 0, false) 51 [some (.ref 75), some (.ref 109)] [] ly (I1, M.2.1, (sR M 75 (va_up (va_up (va_up (va_up (M.2.2 75) 0 (some p)) 1 (some cr)) 2 (some u)) 3 (some v))).2.2) Q
  refine Rn.aload_n dX9_copy_51 rfl ?_
  refine Rn.getR dX9_copy_52 fX9_18 rfl (xc75 hX) (show M.2.2 75 6 = some 80 from (xp75_6 hX)) ?_
  refine Rn.aload_n dX9_copy_55 rfl ?_
  refine Rn.getR dX9_copy_56 fX9_18 rfl (xc109 hX) (show M.2.2 109 6 = some 114 from (xp109_6 hX)) ?_
  refine Rn.callV1 dX9_copy_59 vX9_110 (xc80 hX) (by decide) rfl (fX10_copy (a := 80) (c := 114) ⟨xc80 hX, xc81 hX, xc82 hX, xc83 hX, (show M.2.2 80 0 = some 81 from xp80_0 hX), (show M.2.2 80 1 = some 82 from xp80_1 hX), (show M.2.2 80 2 = some 83 from xp80_2 hX)⟩ ⟨xc114 hX, xc115 hX, xc116 hX, xc117 hX, (show M.2.2 114 0 = some 115 from xp114_0 hX), (show M.2.2 114 1 = some 116 from xp114_1 hX), (show M.2.2 114 2 = some 117 from xp114_2 hX)⟩ (by decide)) (by decide) ⟨(Nat.le_of_ble_eq_true rfl), (Nat.le_of_ble_eq_true rfl), (Nat.le_of_ble_eq_true rfl)⟩ (fun h => by cases h) (fun v1 ly1 M1 ⟨q1, q2, I2, q3, fr2, w2_0, w2_1, w2_2⟩ => ?_)
  rw [q1, q2, q3]
  show Rn G l mX9_copy (3, 0, 0, false) 62 [some (.ref 75), some (.ref 109)] [] ly (I2, M.2.1, (sR M 75 (va_up (va_up (va_up (va_up (M.2.2 75) 0 (some p)) 1 (some cr)) 2 (some u)) 3 (some v))).2.2) Q
  refine Rn.aload_n dX9_copy_62 rfl ?_
  refine Rn.aload_n dX9_copy_63 rfl ?_
  refine Rn.getI dX9_copy_64 fX9_98 rfl (xc109 hX) ?_
  refine Rn.topI (y := M.1 109 7) ((congrFun ((fr2 109 (by omega)).trans (fr1 109 (by omega))) 7)) ?_
  refine Rn.putI dX9_copy_67 fX9_98 rfl rfl rfl (xc75 hX) ?_
  refine Rn.meq (M2 := sI (I2, M.2.1, (sR M 75 (va_up (va_up (va_up (va_up (M.2.2 75) 0 (some p)) 1 (some cr)) 2 (some u)) 3 (some v))).2.2) 75 (upd (upd (M.1 75) 4 (M.1 109 4)) 7 (M.1 109 7))) (congrArg (fun r9 => sI (I2, M.2.1, (sR M 75 (va_up (va_up (va_up (va_up (M.2.2 75) 0 (some p)) 1 (some cr)) 2 (some u)) 3 (some v))).2.2) 75 (upd r9 7 (M.1 109 7))) ((fr2 75 (by omega)).trans (fr1 75 (by omega)))) ?_
  refine Rn.aload_n dX9_copy_70 rfl ?_
  refine Rn.getR dX9_copy_71 fX9_21 rfl (xc109 hX) (show M.2.2 109 8 = some 118 from (xp109_8 hX)) ?_
  refine Rn.iconstv (v := 0) dX9_copy_74 ic_0 ?_
  refine Rn.aload_n dX9_copy_75 rfl ?_
  refine Rn.getR dX9_copy_76 fX9_21 rfl (xc75 hX) (show M.2.2 75 8 = some 84 from (xp75_8 hX)) ?_
  refine Rn.iconstv (v := 0) dX9_copy_79 ic_0 ?_
  refine Rn.bipushv (v := 6) dX9_copy_80 bp_6 ?_
  refine Rn.copy dX9_copy_82 jX9_113 jw_copy (xc118 hX) (xc84 hX) (by decide) (by decide) (by decide) (by decide) (by decide) ⟨(Nat.le_of_ble_eq_true rfl), (Nat.le_of_ble_eq_true rfl)⟩ ?_
  refine Rn.meq (M2 := sI (sI (I2, M.2.1, (sR M 75 (va_up (va_up (va_up (va_up (M.2.2 75) 0 (some p)) 1 (some cr)) 2 (some u)) 3 (some v))).2.2) 75 (upd (upd (M.1 75) 4 (M.1 109 4)) 7 (M.1 109 7))) 84 (pre 6 (M.1 118) (M.1 84))) (congrArg (fun r9 => sI (sI (I2, M.2.1, (sR M 75 (va_up (va_up (va_up (va_up (M.2.2 75) 0 (some p)) 1 (some cr)) 2 (some u)) 3 (some v))).2.2) 75 (upd (upd (M.1 75) 4 (M.1 109 4)) 7 (M.1 109 7))) 84 r9) ((congr (congrArg (fun u v => va_cpy u v 0 0 6) ((fr2 118 (by omega)).trans (fr1 118 (by omega)))) ((fr2 84 (by omega)).trans (fr1 84 (by omega)))).trans (cpy_pre 6 (M.1 118) (M.1 84)))) ?_
  refine Rn.aload_n dX9_copy_85 rfl ?_
  refine Rn.getR dX9_copy_86 fX9_25 rfl (xc109 hX) (show M.2.2 109 9 = some 119 from (xp109_9 hX)) ?_
  refine Rn.iconstv (v := 0) dX9_copy_89 ic_0 ?_
  refine Rn.aload_n dX9_copy_90 rfl ?_
  refine Rn.getR dX9_copy_91 fX9_25 rfl (xc75 hX) (show M.2.2 75 9 = some 85 from (xp75_9 hX)) ?_
  refine Rn.iconstv (v := 0) dX9_copy_94 ic_0 ?_
  refine Rn.bipushv (v := 6) dX9_copy_95 bp_6 ?_
  refine Rn.copy dX9_copy_97 jX9_113 jw_copy (xc119 hX) (xc85 hX) (by decide) (by decide) (by decide) (by decide) (by decide) ⟨(Nat.le_of_ble_eq_true rfl), (Nat.le_of_ble_eq_true rfl)⟩ ?_
  refine Rn.meq (M2 := sI (sI (sI (I2, M.2.1, (sR M 75 (va_up (va_up (va_up (va_up (M.2.2 75) 0 (some p)) 1 (some cr)) 2 (some u)) 3 (some v))).2.2) 75 (upd (upd (M.1 75) 4 (M.1 109 4)) 7 (M.1 109 7))) 84 (pre 6 (M.1 118) (M.1 84))) 85 (pre 6 (M.1 119) (M.1 85))) (congrArg (fun r9 => sI (sI (sI (I2, M.2.1, (sR M 75 (va_up (va_up (va_up (va_up (M.2.2 75) 0 (some p)) 1 (some cr)) 2 (some u)) 3 (some v))).2.2) 75 (upd (upd (M.1 75) 4 (M.1 109 4)) 7 (M.1 109 7))) 84 (pre 6 (M.1 118) (M.1 84))) 85 r9) ((congr (congrArg (fun u v => va_cpy u v 0 0 6) ((fr2 119 (by omega)).trans (fr1 119 (by omega)))) ((fr2 85 (by omega)).trans (fr1 85 (by omega)))).trans (cpy_pre 6 (M.1 119) (M.1 85)))) ?_
  refine Rn.aload_n dX9_copy_100 rfl ?_
  refine Rn.getR dX9_copy_101 fX9_28 rfl (xc109 hX) (show M.2.2 109 10 = some 120 from (xp109_10 hX)) ?_
  refine Rn.iconstv (v := 0) dX9_copy_104 ic_0 ?_
  refine Rn.aload_n dX9_copy_105 rfl ?_
  refine Rn.getR dX9_copy_106 fX9_28 rfl (xc75 hX) (show M.2.2 75 10 = some 86 from (xp75_10 hX)) ?_
  refine Rn.iconstv (v := 0) dX9_copy_109 ic_0 ?_
  refine Rn.bipushv (v := 6) dX9_copy_110 bp_6 ?_
  refine Rn.copy dX9_copy_112 jX9_113 jw_copy (xc120 hX) (xc86 hX) (by decide) (by decide) (by decide) (by decide) (by decide) ⟨(Nat.le_of_ble_eq_true rfl), (Nat.le_of_ble_eq_true rfl)⟩ ?_
  refine Rn.meq (M2 := sI (sI (sI (sI (I2, M.2.1, (sR M 75 (va_up (va_up (va_up (va_up (M.2.2 75) 0 (some p)) 1 (some cr)) 2 (some u)) 3 (some v))).2.2) 75 (upd (upd (M.1 75) 4 (M.1 109 4)) 7 (M.1 109 7))) 84 (pre 6 (M.1 118) (M.1 84))) 85 (pre 6 (M.1 119) (M.1 85))) 86 (pre 6 (M.1 120) (M.1 86))) (congrArg (fun r9 => sI (sI (sI (sI (I2, M.2.1, (sR M 75 (va_up (va_up (va_up (va_up (M.2.2 75) 0 (some p)) 1 (some cr)) 2 (some u)) 3 (some v))).2.2) 75 (upd (upd (M.1 75) 4 (M.1 109 4)) 7 (M.1 109 7))) 84 (pre 6 (M.1 118) (M.1 84))) 85 (pre 6 (M.1 119) (M.1 85))) 86 r9) ((congr (congrArg (fun u v => va_cpy u v 0 0 6) ((fr2 120 (by omega)).trans (fr1 120 (by omega)))) ((fr2 86 (by omega)).trans (fr1 86 (by omega)))).trans (cpy_pre 6 (M.1 120) (M.1 86)))) ?_
  refine Rn.aload_n dX9_copy_115 rfl ?_
  refine Rn.getR dX9_copy_116 fX9_34 rfl (xc75 hX) (show M.2.2 75 11 = some 87 from (xp75_11 hX)) ?_
  refine Rn.aload_n dX9_copy_119 rfl ?_
  refine Rn.getR dX9_copy_120 fX9_34 rfl (xc109 hX) (show M.2.2 109 11 = some 121 from (xp109_11 hX)) ?_
  refine Rn.callV1 dX9_copy_123 vX9_87 (xc87 hX) (by decide) rfl (fX2_copy (a := 87) (c := 121) ⟨xc87 hX, xc88 hX, xc89 hX, (show M.2.2 87 1 = some 88 from xp87_1 hX), (show M.2.2 87 2 = some 89 from xp87_2 hX)⟩ ⟨xc121 hX, xc122 hX, xc123 hX, (show M.2.2 121 1 = some 122 from xp121_1 hX), (show M.2.2 121 2 = some 123 from xp121_2 hX)⟩ (by decide)) (by decide) ⟨(Nat.le_of_ble_eq_true rfl), (Nat.le_of_ble_eq_true rfl), (Nat.le_of_ble_eq_true rfl)⟩ (fun h => by cases h) (fun v1 ly1 M1 ⟨q1, q2, I3, q3, fr3, w3_0, w3_1, w3_2⟩ => ?_)
  rw [q1, q2, q3]
  show Rn G l mX9_copy (3, 0, 0, false) 126 [some (.ref 75), some (.ref 109)] [] ly (I3, M.2.1, (sR M 75 (va_up (va_up (va_up (va_up (M.2.2 75) 0 (some p)) 1 (some cr)) 2 (some u)) 3 (some v))).2.2) Q
  refine Rn.aload_n dX9_copy_126 rfl ?_
  refine Rn.getR dX9_copy_127 fX9_38 rfl (xc109 hX) (show M.2.2 109 12 = some 124 from (xp109_12 hX)) ?_
  refine Rn.iconstv (v := 0) dX9_copy_130 ic_0 ?_
  refine Rn.aload_n dX9_copy_131 rfl ?_
  refine Rn.getR dX9_copy_132 fX9_38 rfl (xc75 hX) (show M.2.2 75 12 = some 90 from (xp75_12 hX)) ?_
  refine Rn.iconstv (v := 0) dX9_copy_135 ic_0 ?_
  refine Rn.bipushv (v := 12) dX9_copy_136 bp_12 ?_
  refine Rn.copy dX9_copy_138 jX9_113 jw_copy (xc124 hX) (xc90 hX) (by decide) (by decide) (by decide) (by decide) (by decide) ⟨(Nat.le_of_ble_eq_true rfl), (Nat.le_of_ble_eq_true rfl)⟩ ?_
  refine Rn.meq (M2 := sI (I3, M.2.1, (sR M 75 (va_up (va_up (va_up (va_up (M.2.2 75) 0 (some p)) 1 (some cr)) 2 (some u)) 3 (some v))).2.2) 90 (pre 12 (M.1 124) (M.1 90))) (congrArg (fun r9 => sI (I3, M.2.1, (sR M 75 (va_up (va_up (va_up (va_up (M.2.2 75) 0 (some p)) 1 (some cr)) 2 (some u)) 3 (some v))).2.2) 90 r9) ((congr (congrArg (fun u v => va_cpy u v 0 0 12) ((fr3 124 (by omega)).trans ((fr2 124 (by omega)).trans (fr1 124 (by omega))))) ((fr3 90 (by omega)).trans ((fr2 90 (by omega)).trans (fr1 90 (by omega))))).trans (cpy_pre 12 (M.1 124) (M.1 90)))) ?_
  refine Rn.aload_n dX9_copy_141 rfl ?_
  refine Rn.aload_n dX9_copy_142 rfl ?_
  refine Rn.getI dX9_copy_143 fX9_107 rfl (xc109 hX) ?_
  refine Rn.topI (y := M.1 109 14) ((congrFun ((fr3 109 (by omega)).trans ((fr2 109 (by omega)).trans (fr1 109 (by omega)))) 14)) ?_
  refine Rn.putI dX9_copy_146 fX9_107 rfl rfl rfl (xc75 hX) ?_
  refine Rn.meq (M2 := sI (sI (I3, M.2.1, (sR M 75 (va_up (va_up (va_up (va_up (M.2.2 75) 0 (some p)) 1 (some cr)) 2 (some u)) 3 (some v))).2.2) 90 (pre 12 (M.1 124) (M.1 90))) 75 (upd (upd (upd (M.1 75) 4 (M.1 109 4)) 7 (M.1 109 7)) 14 (M.1 109 14))) (congrArg (fun r9 => sI (sI (I3, M.2.1, (sR M 75 (va_up (va_up (va_up (va_up (M.2.2 75) 0 (some p)) 1 (some cr)) 2 (some u)) 3 (some v))).2.2) 90 (pre 12 (M.1 124) (M.1 90))) 75 (upd r9 14 (M.1 109 14))) (fr3 75 (by omega))) ?_
  refine Rn.aload_n dX9_copy_149 rfl ?_
  refine Rn.aload_n dX9_copy_150 rfl ?_
  refine Rn.getI dX9_copy_151 fX9_76 rfl (xc109 hX) ?_
  refine Rn.topI (y := M.1 109 15) ((congrFun ((fr3 109 (by omega)).trans ((fr2 109 (by omega)).trans (fr1 109 (by omega)))) 15)) ?_
  refine Rn.putI dX9_copy_154 fX9_76 rfl rfl rfl (xc75 hX) ?_
  refine Rn.meq (M2 := sI (sI (I3, M.2.1, (sR M 75 (va_up (va_up (va_up (va_up (M.2.2 75) 0 (some p)) 1 (some cr)) 2 (some u)) 3 (some v))).2.2) 90 (pre 12 (M.1 124) (M.1 90))) 75 (upd (upd (upd (upd (M.1 75) 4 (M.1 109 4)) 7 (M.1 109 7)) 14 (M.1 109 14)) 15 (M.1 109 15))) (sI_sI _ _ _ _) ?_
  refine Rn.aload_n dX9_copy_157 rfl ?_
  refine Rn.aload_n dX9_copy_158 rfl ?_
  refine Rn.getI dX9_copy_159 fX9_79 rfl (xc109 hX) ?_
  refine Rn.topI (y := M.1 109 16) ((congrFun ((fr3 109 (by omega)).trans ((fr2 109 (by omega)).trans (fr1 109 (by omega)))) 16)) ?_
  refine Rn.putZ dX9_copy_162 fX9_79 rfl rfl rfl hb.1 (xc75 hX) ?_
  refine Rn.meq (M2 := sI (sI (I3, M.2.1, (sR M 75 (va_up (va_up (va_up (va_up (M.2.2 75) 0 (some p)) 1 (some cr)) 2 (some u)) 3 (some v))).2.2) 90 (pre 12 (M.1 124) (M.1 90))) 75 (upd (upd (upd (upd (upd (M.1 75) 4 (M.1 109 4)) 7 (M.1 109 7)) 14 (M.1 109 14)) 15 (M.1 109 15)) 16 (M.1 109 16))) (sI_sI _ _ _ _) ?_
  refine Rn.aload_n dX9_copy_165 rfl ?_
  refine Rn.aload_n dX9_copy_166 rfl ?_
  refine Rn.getI dX9_copy_167 fX9_83 rfl (xc109 hX) ?_
  refine Rn.topI (y := M.1 109 17) ((congrFun ((fr3 109 (by omega)).trans ((fr2 109 (by omega)).trans (fr1 109 (by omega)))) 17)) ?_
  refine Rn.putZ dX9_copy_170 fX9_83 rfl rfl rfl hb.2 (xc75 hX) ?_
  refine Rn.meq (M2 := sI (sI (I3, M.2.1, (sR M 75 (va_up (va_up (va_up (va_up (M.2.2 75) 0 (some p)) 1 (some cr)) 2 (some u)) 3 (some v))).2.2) 90 (pre 12 (M.1 124) (M.1 90))) 75 (upd (upd (upd (upd (upd (upd (M.1 75) 4 (M.1 109 4)) 7 (M.1 109 7)) 14 (M.1 109 14)) 15 (M.1 109 15)) 16 (M.1 109 16)) 17 (M.1 109 17))) (sI_sI _ _ _ _) ?_
  refine Rn.vret dX9_copy_173 rfl (hQ (sI (sI (I3, M.2.1, (sR M 75 (va_up (va_up (va_up (va_up (M.2.2 75) 0 (some p)) 1 (some cr)) 2 (some u)) 3 (some v))).2.2) 90 (pre 12 (M.1 124) (M.1 90))) 75 (upd (upd (upd (upd (upd (upd (M.1 75) 4 (M.1 109 4)) 7 (M.1 109 7)) 14 (M.1 109 14)) 15 (M.1 109 15)) 16 (M.1 109 16)) 17 (M.1 109 17))).1 (fun k hk => ?_) (fun j hj => ?_) ?_ ?_ ?_ ?_ ?_ ?_ ?_ ?_ ?_ ?_ ?_ ?_ ?_)
  · exact (sI_ne (by omega)).trans ((sI_ne (by omega)).trans ((fr3 k (by omega)).trans ((sI_ne (by omega)).trans ((sI_ne (by omega)).trans ((sI_ne (by omega)).trans ((sI_ne (by omega)).trans ((fr2 k (by omega)).trans ((fr1 k (by omega)).trans (sI_ne (by omega))))))))))
  · rcases hj with rfl | rfl | rfl | rfl | rfl | rfl
    · exact rfl
    · exact rfl
    · exact rfl
    · exact rfl
    · exact rfl
    · exact rfl
  · exact (fr3 77 (by omega)).trans ((fr2 77 (by omega)).trans (w1_0))
  · exact (fr3 78 (by omega)).trans ((fr2 78 (by omega)).trans (w1_1))
  · exact (fr3 79 (by omega)).trans ((fr2 79 (by omega)).trans (w1_2))
  · exact (fr3 81 (by omega)).trans (((w2_0).trans (congrArg (fun r9 : Nat → Int32 => pre 12 r9 ((I1, M.2.1, (sR M 75 (va_up (va_up (va_up (va_up (M.2.2 75) 0 (some p)) 1 (some cr)) 2 (some u)) 3 (some v))).2.2).1 81)) (fr1 115 (by omega)))).trans (congrArg (fun r9 : Nat → Int32 => pre 12 (M.1 115) r9) (fr1 81 (by omega))))
  · exact (fr3 82 (by omega)).trans (((w2_1).trans (congrArg (fun r9 : Nat → Int32 => pre 12 r9 ((I1, M.2.1, (sR M 75 (va_up (va_up (va_up (va_up (M.2.2 75) 0 (some p)) 1 (some cr)) 2 (some u)) 3 (some v))).2.2).1 82)) (fr1 116 (by omega)))).trans (congrArg (fun r9 : Nat → Int32 => pre 12 (M.1 116) r9) (fr1 82 (by omega))))
  · exact (fr3 83 (by omega)).trans (((w2_2).trans (congrArg (fun r9 : Nat → Int32 => pre 12 r9 ((I1, M.2.1, (sR M 75 (va_up (va_up (va_up (va_up (M.2.2 75) 0 (some p)) 1 (some cr)) 2 (some u)) 3 (some v))).2.2).1 83)) (fr1 117 (by omega)))).trans (congrArg (fun r9 : Nat → Int32 => pre 12 (M.1 117) r9) (fr1 83 (by omega))))
  · exact rfl
  · exact fr3 84 (by omega)
  · exact fr3 85 (by omega)
  · exact fr3 86 (by omega)
  · exact ((w3_1).trans (congrArg (fun r9 : Nat → Int32 => pre 8 r9 ((sI (sI (sI (sI (I2, M.2.1, (sR M 75 (va_up (va_up (va_up (va_up (M.2.2 75) 0 (some p)) 1 (some cr)) 2 (some u)) 3 (some v))).2.2) 75 (upd (upd (M.1 75) 4 (M.1 109 4)) 7 (M.1 109 7))) 84 (pre 6 (M.1 118) (M.1 84))) 85 (pre 6 (M.1 119) (M.1 85))) 86 (pre 6 (M.1 120) (M.1 86))).1 88)) ((fr2 122 (by omega)).trans (fr1 122 (by omega))))).trans (congrArg (fun r9 : Nat → Int32 => pre 8 (M.1 122) r9) ((fr2 88 (by omega)).trans (fr1 88 (by omega))))
  · exact ((w3_2).trans (congrArg (fun r9 : Nat → Int32 => pre 8 r9 ((sI (sI (sI (sI (I2, M.2.1, (sR M 75 (va_up (va_up (va_up (va_up (M.2.2 75) 0 (some p)) 1 (some cr)) 2 (some u)) 3 (some v))).2.2) 75 (upd (upd (M.1 75) 4 (M.1 109 4)) 7 (M.1 109 7))) 84 (pre 6 (M.1 118) (M.1 84))) 85 (pre 6 (M.1 119) (M.1 85))) 86 (pre 6 (M.1 120) (M.1 86))).1 89)) ((fr2 123 (by omega)).trans (fr1 123 (by omega))))).trans (congrArg (fun r9 : Nat → Int32 => pre 8 (M.1 123) r9) ((fr2 89 (by omega)).trans (fr1 89 (by omega))))
  · exact ((w3_0).trans (congrArg (fun r9 : Nat → Int32 => upd r9 0 (((sI (sI (sI (sI (I2, M.2.1, (sR M 75 (va_up (va_up (va_up (va_up (M.2.2 75) 0 (some p)) 1 (some cr)) 2 (some u)) 3 (some v))).2.2) 75 (upd (upd (M.1 75) 4 (M.1 109 4)) 7 (M.1 109 7))) 84 (pre 6 (M.1 118) (M.1 84))) 85 (pre 6 (M.1 119) (M.1 85))) 86 (pre 6 (M.1 120) (M.1 86))).1 121) 0)) ((fr2 87 (by omega)).trans (fr1 87 (by omega))))).trans (congrArg (fun r9 : Nat → Int32 => upd (M.1 87) 0 (r9 0)) ((fr2 121 (by omega)).trans (fr1 121 (by omega))))
