theorem tX11_look0 {G : Gx} {l : Launch} {ly : Ly} {M : Mm} {pl : Nat} {j nw : Nat} (hw : M.1 (pl + 1) 0 = nI nw ∧ nw ≤ 6) (hj : j < nw) (hX : XW ly M.2.2) (hpl : M.2.2 0 3 = some pl) (hp7 : pl = 7 ∨ pl = 41) {Q : Qt} (hQ : Q (some (.int (if M.1 86 j = 1 then M.1 84 j else -1))) ly M) : Mt G l mX11_look (2, 0, 0, false) [.ref 0, .int (nI j), .int 0] ly M Q := by
  refine Mt.of (lv := [some (.ref 0), some (.int (nI j)), some (.int 0)]) rfl ?_
  refine Rn.aload_n dX11_look_0 rfl ?_
  refine Rn.iload_n dX11_look_1 rfl ?_
  refine Rn.callV1 dX11_look_2 vX11_125 (xc0 hX) (by decide) rfl (tX11_isWalker (M := M) (x := nI j) hX hpl hp7) (by decide) ⟨(Nat.le_of_ble_eq_true rfl), (Nat.le_of_ble_eq_true rfl), (Nat.le_of_ble_eq_true rfl)⟩ (fun h => by cases h) (fun v1 ly1 M1 ⟨q1, q2, q3⟩ => ?_)
  rw [q1, q2, q3]
  have g1 : inN (nI j) (M.1 (pl + 1) 0) = 1 := by rw [hw.1]; exact (inN_1 (x := nI j) (k := nw) (by omega)).elim (fun g => absurd ⟨j, hj, rfl⟩ g.2) (fun g => g.1)
  refine Rn.topI (y := 1) (g1) ?_
  refine Rn.if_ne dX11_look_5 (fun e1 => ?_) (fun e1 => ?_)
  · skip
    refine Rn.iload_n dX11_look_18 rfl ?_
    refine Rn.tableIn (off := 33) (tgt := 52) dX11_look_19 (by decide) (by decide) (by decide) (by decide) ?_
    refine Rn.aload_n dX11_look_52 rfl ?_
    refine Rn.getR dX11_look_53 fX11_39 rfl (xc0 hX) (show M.2.2 0 5 = some 75 from (xp0_5 hX)) ?_
    refine Rn.getR dX11_look_56 fX11_136 rfl (xc75 hX) (show M.2.2 75 10 = some 86 from (xp75_10 hX)) ?_
    refine Rn.iload_n dX11_look_59 rfl ?_
    refine Rn.ialdN (k0 := j) dX11_look_60 (xc86 hX) (by omega) (by decide) ?_
    refine Rn.iconstv (v := 1) dX11_look_61 ic_1 ?_
    refine Rn.icmp_ne dX11_look_62 (fun e2 => ?_) (fun e2 => ?_)
    · skip
      refine Rn.iconstv (v := -1) dX11_look_77 ic_m1 ?_
      rw [if_neg e2] at hQ
      exact Rn.iret (ty := .int) dX11_look_78 rfl rfl hQ
    · skip
      refine Rn.aload_n dX11_look_65 rfl ?_
      refine Rn.getR dX11_look_66 fX11_39 rfl (xc0 hX) (show M.2.2 0 5 = some 75 from (xp0_5 hX)) ?_
      refine Rn.getR dX11_look_69 fX11_139 rfl (xc75 hX) (show M.2.2 75 8 = some 84 from (xp75_8 hX)) ?_
      refine Rn.iload_n dX11_look_72 rfl ?_
      refine Rn.ialdN (k0 := j) dX11_look_73 (xc84 hX) (by omega) (by decide) ?_
      refine Rn.goto dX11_look_74 ?_
      rw [if_pos e2] at hQ
      exact Rn.iret (ty := .int) dX11_look_78 rfl rfl hQ
  · skip
    exact absurd e1 (by decide)
theorem tX11_look1 {G : Gx} {l : Launch} {ly : Ly} {M : Mm} {pl : Nat} {j nw : Nat} (hw : M.1 (pl + 1) 0 = nI nw ∧ nw ≤ 6) (hj : j < nw) (hX : XW ly M.2.2) (hpl : M.2.2 0 3 = some pl) (hp7 : pl = 7 ∨ pl = 41) {Q : Qt} (hQ : Q (some (.int (M.1 (pl + 8) j))) ly M) : Mt G l mX11_look (2, 0, 0, false) [.ref 0, .int (nI j), .int 1] ly M Q := by
  refine Mt.of (lv := [some (.ref 0), some (.int (nI j)), some (.int 1)]) rfl ?_
  refine Rn.aload_n dX11_look_0 rfl ?_
  refine Rn.iload_n dX11_look_1 rfl ?_
  refine Rn.callV1 dX11_look_2 vX11_125 (xc0 hX) (by decide) rfl (tX11_isWalker (M := M) (x := nI j) hX hpl hp7) (by decide) ⟨(Nat.le_of_ble_eq_true rfl), (Nat.le_of_ble_eq_true rfl), (Nat.le_of_ble_eq_true rfl)⟩ (fun h => by cases h) (fun v1 ly1 M1 ⟨q1, q2, q3⟩ => ?_)
  rw [q1, q2, q3]
  have g1 : inN (nI j) (M.1 (pl + 1) 0) = 1 := by rw [hw.1]; exact (inN_1 (x := nI j) (k := nw) (by omega)).elim (fun g => absurd ⟨j, hj, rfl⟩ g.2) (fun g => g.1)
  refine Rn.topI (y := 1) (g1) ?_
  refine Rn.if_ne dX11_look_5 (fun e1 => ?_) (fun e1 => ?_)
  · skip
    refine Rn.iload_n dX11_look_18 rfl ?_
    refine Rn.tableIn (off := 60) (tgt := 79) dX11_look_19 (by decide) (by decide) (by decide) (by decide) ?_
    refine Rn.aload_n dX11_look_79 rfl ?_
    refine Rn.getR dX11_look_80 fX11_27 rfl (xc0 hX) (show M.2.2 0 3 = some pl from hpl) ?_
    refine Rn.getR dX11_look_83 fX11_142 rfl (pc0 hX hp7) (show M.2.2 pl 11 = some (pl + 7) from (pp0_11 hX hp7)) ?_
    refine Rn.getR dX11_look_86 fX11_145 rfl (pc7 hX hp7) (show M.2.2 (pl + 7) 1 = some (pl + 8) from (pp7_1 hX hp7)) ?_
    refine Rn.iload_n dX11_look_89 rfl ?_
    refine Rn.ialdN (k0 := j) dX11_look_90 (pc8 hX hp7) (by omega) (by decide) ?_
    exact Rn.iret (ty := .int) dX11_look_91 rfl rfl hQ
  · skip
    exact absurd e1 (by decide)
theorem tX11_look2 {G : Gx} {l : Launch} {ly : Ly} {M : Mm} {pl : Nat} {j nw : Nat} (hw : M.1 (pl + 1) 0 = nI nw ∧ nw ≤ 6) (hj : j < nw) (hX : XW ly M.2.2) (hpl : M.2.2 0 3 = some pl) (hp7 : pl = 7 ∨ pl = 41) {Q : Qt} (hQ : Q (some (.int (M.1 (pl + 9) j))) ly M) : Mt G l mX11_look (2, 0, 0, false) [.ref 0, .int (nI j), .int 2] ly M Q := by
  refine Mt.of (lv := [some (.ref 0), some (.int (nI j)), some (.int 2)]) rfl ?_
  refine Rn.aload_n dX11_look_0 rfl ?_
  refine Rn.iload_n dX11_look_1 rfl ?_
  refine Rn.callV1 dX11_look_2 vX11_125 (xc0 hX) (by decide) rfl (tX11_isWalker (M := M) (x := nI j) hX hpl hp7) (by decide) ⟨(Nat.le_of_ble_eq_true rfl), (Nat.le_of_ble_eq_true rfl), (Nat.le_of_ble_eq_true rfl)⟩ (fun h => by cases h) (fun v1 ly1 M1 ⟨q1, q2, q3⟩ => ?_)
  rw [q1, q2, q3]
  have g1 : inN (nI j) (M.1 (pl + 1) 0) = 1 := by rw [hw.1]; exact (inN_1 (x := nI j) (k := nw) (by omega)).elim (fun g => absurd ⟨j, hj, rfl⟩ g.2) (fun g => g.1)
  refine Rn.topI (y := 1) (g1) ?_
  refine Rn.if_ne dX11_look_5 (fun e1 => ?_) (fun e1 => ?_)
  · skip
    refine Rn.iload_n dX11_look_18 rfl ?_
    refine Rn.tableIn (off := 73) (tgt := 92) dX11_look_19 (by decide) (by decide) (by decide) (by decide) ?_
    refine Rn.aload_n dX11_look_92 rfl ?_
    refine Rn.getR dX11_look_93 fX11_27 rfl (xc0 hX) (show M.2.2 0 3 = some pl from hpl) ?_
    refine Rn.getR dX11_look_96 fX11_142 rfl (pc0 hX hp7) (show M.2.2 pl 11 = some (pl + 7) from (pp0_11 hX hp7)) ?_
    refine Rn.getR dX11_look_99 fX11_148 rfl (pc7 hX hp7) (show M.2.2 (pl + 7) 2 = some (pl + 9) from (pp7_2 hX hp7)) ?_
    refine Rn.iload_n dX11_look_102 rfl ?_
    refine Rn.ialdN (k0 := j) dX11_look_103 (pc9 hX hp7) (by omega) (by decide) ?_
    exact Rn.iret (ty := .int) dX11_look_104 rfl rfl hQ
  · skip
    exact absurd e1 (by decide)
theorem tX11_look3 {G : Gx} {l : Launch} {ly : Ly} {M : Mm} {pl : Nat} {j nw : Nat} (hw : M.1 (pl + 1) 0 = nI nw ∧ nw ≤ 6) (hj : j < nw) (hX : XW ly M.2.2) (hpl : M.2.2 0 3 = some pl) (hp7 : pl = 7 ∨ pl = 41) {Q : Qt} (hQ : Q (some (.int (M.1 85 j))) ly M) : Mt G l mX11_look (2, 0, 0, false) [.ref 0, .int (nI j), .int 3] ly M Q := by
  refine Mt.of (lv := [some (.ref 0), some (.int (nI j)), some (.int 3)]) rfl ?_
  refine Rn.aload_n dX11_look_0 rfl ?_
  refine Rn.iload_n dX11_look_1 rfl ?_
  refine Rn.callV1 dX11_look_2 vX11_125 (xc0 hX) (by decide) rfl (tX11_isWalker (M := M) (x := nI j) hX hpl hp7) (by decide) ⟨(Nat.le_of_ble_eq_true rfl), (Nat.le_of_ble_eq_true rfl), (Nat.le_of_ble_eq_true rfl)⟩ (fun h => by cases h) (fun v1 ly1 M1 ⟨q1, q2, q3⟩ => ?_)
  rw [q1, q2, q3]
  have g1 : inN (nI j) (M.1 (pl + 1) 0) = 1 := by rw [hw.1]; exact (inN_1 (x := nI j) (k := nw) (by omega)).elim (fun g => absurd ⟨j, hj, rfl⟩ g.2) (fun g => g.1)
  refine Rn.topI (y := 1) (g1) ?_
  refine Rn.if_ne dX11_look_5 (fun e1 => ?_) (fun e1 => ?_)
  · skip
    refine Rn.iload_n dX11_look_18 rfl ?_
    refine Rn.tableIn (off := 86) (tgt := 105) dX11_look_19 (by decide) (by decide) (by decide) (by decide) ?_
    refine Rn.aload_n dX11_look_105 rfl ?_
    refine Rn.getR dX11_look_106 fX11_39 rfl (xc0 hX) (show M.2.2 0 5 = some 75 from (xp0_5 hX)) ?_
    refine Rn.getR dX11_look_109 fX11_151 rfl (xc75 hX) (show M.2.2 75 9 = some 85 from (xp75_9 hX)) ?_
    refine Rn.iload_n dX11_look_112 rfl ?_
    refine Rn.ialdN (k0 := j) dX11_look_113 (xc85 hX) (by omega) (by decide) ?_
    exact Rn.iret (ty := .int) dX11_look_114 rfl rfl hQ
  · skip
    exact absurd e1 (by decide)
theorem tX11_look4 {G : Gx} {l : Launch} {ly : Ly} {M : Mm} {pl : Nat} {j nw : Nat} (hw : M.1 (pl + 1) 0 = nI nw ∧ nw ≤ 6) (hj : j < nw) (hX : XW ly M.2.2) (hpl : M.2.2 0 3 = some pl) (hp7 : pl = 7 ∨ pl = 41) {Q : Qt} (hQ : Q (some (.int (M.1 86 j))) ly M) : Mt G l mX11_look (2, 0, 0, false) [.ref 0, .int (nI j), .int 4] ly M Q := by
  refine Mt.of (lv := [some (.ref 0), some (.int (nI j)), some (.int 4)]) rfl ?_
  refine Rn.aload_n dX11_look_0 rfl ?_
  refine Rn.iload_n dX11_look_1 rfl ?_
  refine Rn.callV1 dX11_look_2 vX11_125 (xc0 hX) (by decide) rfl (tX11_isWalker (M := M) (x := nI j) hX hpl hp7) (by decide) ⟨(Nat.le_of_ble_eq_true rfl), (Nat.le_of_ble_eq_true rfl), (Nat.le_of_ble_eq_true rfl)⟩ (fun h => by cases h) (fun v1 ly1 M1 ⟨q1, q2, q3⟩ => ?_)
  rw [q1, q2, q3]
  have g1 : inN (nI j) (M.1 (pl + 1) 0) = 1 := by rw [hw.1]; exact (inN_1 (x := nI j) (k := nw) (by omega)).elim (fun g => absurd ⟨j, hj, rfl⟩ g.2) (fun g => g.1)
  refine Rn.topI (y := 1) (g1) ?_
  refine Rn.if_ne dX11_look_5 (fun e1 => ?_) (fun e1 => ?_)
  · skip
    refine Rn.iload_n dX11_look_18 rfl ?_
    refine Rn.tableIn (off := 96) (tgt := 115) dX11_look_19 (by decide) (by decide) (by decide) (by decide) ?_
    refine Rn.aload_n dX11_look_115 rfl ?_
    refine Rn.getR dX11_look_116 fX11_39 rfl (xc0 hX) (show M.2.2 0 5 = some 75 from (xp0_5 hX)) ?_
    refine Rn.getR dX11_look_119 fX11_136 rfl (xc75 hX) (show M.2.2 75 10 = some 86 from (xp75_10 hX)) ?_
    refine Rn.iload_n dX11_look_122 rfl ?_
    refine Rn.ialdN (k0 := j) dX11_look_123 (xc86 hX) (by omega) (by decide) ?_
    exact Rn.iret (ty := .int) dX11_look_124 rfl rfl hQ
  · skip
    exact absurd e1 (by decide)
