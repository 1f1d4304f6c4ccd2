/-- how close a sign binds -/
def bnd (x : Int32) : Int32 := if x = 16 then 1 else if x = 17 then 2 else if x = 18 then 3 else if x = 31 then 5 else if x = 32 then 5 else if x = 33 then 6 else if x = 34 then 6 else if 25 ≤ x ∧ x ≤ 30 then 4 else 0
theorem tX3_bindingOf {G : Gx} {l : Launch} {ly : Ly} {M : Mm} {x : Int32} : Mt G l mX3_bindingOf (0, 0, 0, false) [.int x] ly M (Is (some (.int (bnd x))) ly M) := by
  refine Mt.is (fun Q hQ => ?_)
  refine Mt.of (lv := [some (.int x)]) rfl ?_
  refine Rn.iload_n dX3_bindingOf_0 rfl ?_
  by_cases c16 : x = 16
  · subst c16
    refine Rn.tableIn (off := 91) (tgt := 92) dX3_bindingOf_1 (by decide) (by decide) (by decide) (by decide) ?_
    refine Rn.iconstv (v := 1) dX3_bindingOf_92 ic_1 ?_
    exact Rn.iret (ty := .int) dX3_bindingOf_93 rfl rfl hQ
  · skip
    by_cases c17 : x = 17
    · subst c17
      refine Rn.tableIn (off := 93) (tgt := 94) dX3_bindingOf_1 (by decide) (by decide) (by decide) (by decide) ?_
      refine Rn.iconstv (v := 2) dX3_bindingOf_94 ic_2 ?_
      exact Rn.iret (ty := .int) dX3_bindingOf_95 rfl rfl hQ
    · skip
      by_cases c18 : x = 18
      · subst c18
        refine Rn.tableIn (off := 95) (tgt := 96) dX3_bindingOf_1 (by decide) (by decide) (by decide) (by decide) ?_
        refine Rn.iconstv (v := 3) dX3_bindingOf_96 ic_3 ?_
        exact Rn.iret (ty := .int) dX3_bindingOf_97 rfl rfl hQ
      · skip
        by_cases c31 : x = 31
        · subst c31
          refine Rn.tableIn (off := 97) (tgt := 98) dX3_bindingOf_1 (by decide) (by decide) (by decide) (by decide) ?_
          refine Rn.iconstv (v := 5) dX3_bindingOf_98 ic_5 ?_
          exact Rn.iret (ty := .int) dX3_bindingOf_99 rfl rfl hQ
        · skip
          by_cases c32 : x = 32
          · subst c32
            refine Rn.tableIn (off := 97) (tgt := 98) dX3_bindingOf_1 (by decide) (by decide) (by decide) (by decide) ?_
            refine Rn.iconstv (v := 5) dX3_bindingOf_98 ic_5 ?_
            exact Rn.iret (ty := .int) dX3_bindingOf_99 rfl rfl hQ
          · skip
            by_cases c33 : x = 33
            · subst c33
              refine Rn.tableIn (off := 99) (tgt := 100) dX3_bindingOf_1 (by decide) (by decide) (by decide) (by decide) ?_
              refine Rn.bipushv (v := 6) dX3_bindingOf_100 bp_6 ?_
              exact Rn.iret (ty := .int) dX3_bindingOf_102 rfl rfl hQ
            · skip
              by_cases c34 : x = 34
              · subst c34
                refine Rn.tableIn (off := 99) (tgt := 100) dX3_bindingOf_1 (by decide) (by decide) (by decide) (by decide) ?_
                refine Rn.bipushv (v := 6) dX3_bindingOf_100 bp_6 ?_
                exact Rn.iret (ty := .int) dX3_bindingOf_102 rfl rfl hQ
              · skip
                have n16 : Int32.toInt x ≠ 16 := fun h => c16 (Int32.toInt_inj.mp (h.trans (by decide)))
                have n17 : Int32.toInt x ≠ 17 := fun h => c17 (Int32.toInt_inj.mp (h.trans (by decide)))
                have n18 : Int32.toInt x ≠ 18 := fun h => c18 (Int32.toInt_inj.mp (h.trans (by decide)))
                have n31 : Int32.toInt x ≠ 31 := fun h => c31 (Int32.toInt_inj.mp (h.trans (by decide)))
                have n32 : Int32.toInt x ≠ 32 := fun h => c32 (Int32.toInt_inj.mp (h.trans (by decide)))
                have n33 : Int32.toInt x ≠ 33 := fun h => c33 (Int32.toInt_inj.mp (h.trans (by decide)))
                have n34 : Int32.toInt x ≠ 34 := fun h => c34 (Int32.toInt_inj.mp (h.trans (by decide)))
                by_cases c19 : x = 19
                · subst c19
                  refine Rn.tableIn (off := 102) (tgt := 103) dX3_bindingOf_1 (by decide) (by decide) (by decide) (by decide) ?_
                  refine Rn.iload_n dX3_bindingOf_103 rfl ?_
                  refine Rn.bipushv (v := 25) dX3_bindingOf_104 bp_25 ?_
                  refine Rn.icmp_lt dX3_bindingOf_106 (fun h106_1 => ?_) (fun h106_1 => ?_)
                  · skip
                    refine Rn.iconstv (v := 0) dX3_bindingOf_119 ic_0 ?_
                    exact Rn.iret (ty := .int) dX3_bindingOf_120 rfl rfl hQ
                  · skip
                    first | exact absurd (by decide) h106_1 | exact absurd h106_1 (by decide)
                · skip
                  have n19 : Int32.toInt x ≠ 19 := fun h => c19 (Int32.toInt_inj.mp (h.trans (by decide)))
                  by_cases c20 : x = 20
                  · subst c20
                    refine Rn.tableIn (off := 102) (tgt := 103) dX3_bindingOf_1 (by decide) (by decide) (by decide) (by decide) ?_
                    refine Rn.iload_n dX3_bindingOf_103 rfl ?_
                    refine Rn.bipushv (v := 25) dX3_bindingOf_104 bp_25 ?_
                    refine Rn.icmp_lt dX3_bindingOf_106 (fun h106_2 => ?_) (fun h106_2 => ?_)
                    · skip
                      refine Rn.iconstv (v := 0) dX3_bindingOf_119 ic_0 ?_
                      exact Rn.iret (ty := .int) dX3_bindingOf_120 rfl rfl hQ
                    · skip
                      first | exact absurd (by decide) h106_2 | exact absurd h106_2 (by decide)
                  · skip
                    have n20 : Int32.toInt x ≠ 20 := fun h => c20 (Int32.toInt_inj.mp (h.trans (by decide)))
                    by_cases c21 : x = 21
                    · subst c21
                      refine Rn.tableIn (off := 102) (tgt := 103) dX3_bindingOf_1 (by decide) (by decide) (by decide) (by decide) ?_
                      refine Rn.iload_n dX3_bindingOf_103 rfl ?_
                      refine Rn.bipushv (v := 25) dX3_bindingOf_104 bp_25 ?_
                      refine Rn.icmp_lt dX3_bindingOf_106 (fun h106_3 => ?_) (fun h106_3 => ?_)
                      · skip
                        refine Rn.iconstv (v := 0) dX3_bindingOf_119 ic_0 ?_
                        exact Rn.iret (ty := .int) dX3_bindingOf_120 rfl rfl hQ
                      · skip
                        first | exact absurd (by decide) h106_3 | exact absurd h106_3 (by decide)
                    · skip
                      have n21 : Int32.toInt x ≠ 21 := fun h => c21 (Int32.toInt_inj.mp (h.trans (by decide)))
                      by_cases c22 : x = 22
                      · subst c22
                        refine Rn.tableIn (off := 102) (tgt := 103) dX3_bindingOf_1 (by decide) (by decide) (by decide) (by decide) ?_
                        refine Rn.iload_n dX3_bindingOf_103 rfl ?_
                        refine Rn.bipushv (v := 25) dX3_bindingOf_104 bp_25 ?_
                        refine Rn.icmp_lt dX3_bindingOf_106 (fun h106_4 => ?_) (fun h106_4 => ?_)
                        · skip
                          refine Rn.iconstv (v := 0) dX3_bindingOf_119 ic_0 ?_
                          exact Rn.iret (ty := .int) dX3_bindingOf_120 rfl rfl hQ
                        · skip
                          first | exact absurd (by decide) h106_4 | exact absurd h106_4 (by decide)
                      · skip
                        have n22 : Int32.toInt x ≠ 22 := fun h => c22 (Int32.toInt_inj.mp (h.trans (by decide)))
                        by_cases c23 : x = 23
                        · subst c23
                          refine Rn.tableIn (off := 102) (tgt := 103) dX3_bindingOf_1 (by decide) (by decide) (by decide) (by decide) ?_
                          refine Rn.iload_n dX3_bindingOf_103 rfl ?_
                          refine Rn.bipushv (v := 25) dX3_bindingOf_104 bp_25 ?_
                          refine Rn.icmp_lt dX3_bindingOf_106 (fun h106_5 => ?_) (fun h106_5 => ?_)
                          · skip
                            refine Rn.iconstv (v := 0) dX3_bindingOf_119 ic_0 ?_
                            exact Rn.iret (ty := .int) dX3_bindingOf_120 rfl rfl hQ
                          · skip
                            first | exact absurd (by decide) h106_5 | exact absurd h106_5 (by decide)
                        · skip
                          have n23 : Int32.toInt x ≠ 23 := fun h => c23 (Int32.toInt_inj.mp (h.trans (by decide)))
                          by_cases c24 : x = 24
                          · subst c24
                            refine Rn.tableIn (off := 102) (tgt := 103) dX3_bindingOf_1 (by decide) (by decide) (by decide) (by decide) ?_
                            refine Rn.iload_n dX3_bindingOf_103 rfl ?_
                            refine Rn.bipushv (v := 25) dX3_bindingOf_104 bp_25 ?_
                            refine Rn.icmp_lt dX3_bindingOf_106 (fun h106_6 => ?_) (fun h106_6 => ?_)
                            · skip
                              refine Rn.iconstv (v := 0) dX3_bindingOf_119 ic_0 ?_
                              exact Rn.iret (ty := .int) dX3_bindingOf_120 rfl rfl hQ
                            · skip
                              first | exact absurd (by decide) h106_6 | exact absurd h106_6 (by decide)
                          · skip
                            have n24 : Int32.toInt x ≠ 24 := fun h => c24 (Int32.toInt_inj.mp (h.trans (by decide)))
                            by_cases c25 : x = 25
                            · subst c25
                              refine Rn.tableIn (off := 102) (tgt := 103) dX3_bindingOf_1 (by decide) (by decide) (by decide) (by decide) ?_
                              refine Rn.iload_n dX3_bindingOf_103 rfl ?_
                              refine Rn.bipushv (v := 25) dX3_bindingOf_104 bp_25 ?_
                              refine Rn.icmp_lt dX3_bindingOf_106 (fun h106_7 => ?_) (fun h106_7 => ?_)
                              · skip
                                first | exact absurd h106_7 (by decide) | exact absurd (by decide) h106_7
                              · skip
                                refine Rn.iload_n dX3_bindingOf_109 rfl ?_
                                refine Rn.bipushv (v := 30) dX3_bindingOf_110 bp_30 ?_
                                refine Rn.icmp_gt dX3_bindingOf_112 (fun h112_8 => ?_) (fun h112_8 => ?_)
                                · skip
                                  first | exact absurd h112_8 (by decide) | exact absurd (by decide) h112_8
                                · skip
                                  refine Rn.iconstv (v := 4) dX3_bindingOf_115 ic_4 ?_
                                  refine Rn.goto dX3_bindingOf_116 ?_
                                  exact Rn.iret (ty := .int) dX3_bindingOf_120 rfl rfl hQ
                            · skip
                              have n25 : Int32.toInt x ≠ 25 := fun h => c25 (Int32.toInt_inj.mp (h.trans (by decide)))
                              by_cases c26 : x = 26
                              · subst c26
                                refine Rn.tableIn (off := 102) (tgt := 103) dX3_bindingOf_1 (by decide) (by decide) (by decide) (by decide) ?_
                                refine Rn.iload_n dX3_bindingOf_103 rfl ?_
                                refine Rn.bipushv (v := 25) dX3_bindingOf_104 bp_25 ?_
                                refine Rn.icmp_lt dX3_bindingOf_106 (fun h106_9 => ?_) (fun h106_9 => ?_)
                                · skip
                                  first | exact absurd h106_9 (by decide) | exact absurd (by decide) h106_9
                                · skip
                                  refine Rn.iload_n dX3_bindingOf_109 rfl ?_
                                  refine Rn.bipushv (v := 30) dX3_bindingOf_110 bp_30 ?_
                                  refine Rn.icmp_gt dX3_bindingOf_112 (fun h112_10 => ?_) (fun h112_10 => ?_)
                                  · skip
                                    first | exact absurd h112_10 (by decide) | exact absurd (by decide) h112_10
                                  · skip
                                    refine Rn.iconstv (v := 4) dX3_bindingOf_115 ic_4 ?_
                                    refine Rn.goto dX3_bindingOf_116 ?_
                                    exact Rn.iret (ty := .int) dX3_bindingOf_120 rfl rfl hQ
                              · skip
                                have n26 : Int32.toInt x ≠ 26 := fun h => c26 (Int32.toInt_inj.mp (h.trans (by decide)))
                                by_cases c27 : x = 27
                                · subst c27
                                  refine Rn.tableIn (off := 102) (tgt := 103) dX3_bindingOf_1 (by decide) (by decide) (by decide) (by decide) ?_
                                  refine Rn.iload_n dX3_bindingOf_103 rfl ?_
                                  refine Rn.bipushv (v := 25) dX3_bindingOf_104 bp_25 ?_
                                  refine Rn.icmp_lt dX3_bindingOf_106 (fun h106_11 => ?_) (fun h106_11 => ?_)
                                  · skip
                                    first | exact absurd h106_11 (by decide) | exact absurd (by decide) h106_11
                                  · skip
                                    refine Rn.iload_n dX3_bindingOf_109 rfl ?_
                                    refine Rn.bipushv (v := 30) dX3_bindingOf_110 bp_30 ?_
                                    refine Rn.icmp_gt dX3_bindingOf_112 (fun h112_12 => ?_) (fun h112_12 => ?_)
                                    · skip
                                      first | exact absurd h112_12 (by decide) | exact absurd (by decide) h112_12
                                    · skip
                                      refine Rn.iconstv (v := 4) dX3_bindingOf_115 ic_4 ?_
                                      refine Rn.goto dX3_bindingOf_116 ?_
                                      exact Rn.iret (ty := .int) dX3_bindingOf_120 rfl rfl hQ
                                · skip
                                  have n27 : Int32.toInt x ≠ 27 := fun h => c27 (Int32.toInt_inj.mp (h.trans (by decide)))
                                  by_cases c28 : x = 28
                                  · subst c28
                                    refine Rn.tableIn (off := 102) (tgt := 103) dX3_bindingOf_1 (by decide) (by decide) (by decide) (by decide) ?_
                                    refine Rn.iload_n dX3_bindingOf_103 rfl ?_
                                    refine Rn.bipushv (v := 25) dX3_bindingOf_104 bp_25 ?_
                                    refine Rn.icmp_lt dX3_bindingOf_106 (fun h106_13 => ?_) (fun h106_13 => ?_)
                                    · skip
                                      first | exact absurd h106_13 (by decide) | exact absurd (by decide) h106_13
                                    · skip
                                      refine Rn.iload_n dX3_bindingOf_109 rfl ?_
                                      refine Rn.bipushv (v := 30) dX3_bindingOf_110 bp_30 ?_
                                      refine Rn.icmp_gt dX3_bindingOf_112 (fun h112_14 => ?_) (fun h112_14 => ?_)
                                      · skip
                                        first | exact absurd h112_14 (by decide) | exact absurd (by decide) h112_14
                                      · skip
                                        refine Rn.iconstv (v := 4) dX3_bindingOf_115 ic_4 ?_
                                        refine Rn.goto dX3_bindingOf_116 ?_
                                        exact Rn.iret (ty := .int) dX3_bindingOf_120 rfl rfl hQ
                                  · skip
                                    have n28 : Int32.toInt x ≠ 28 := fun h => c28 (Int32.toInt_inj.mp (h.trans (by decide)))
                                    by_cases c29 : x = 29
                                    · subst c29
                                      refine Rn.tableIn (off := 102) (tgt := 103) dX3_bindingOf_1 (by decide) (by decide) (by decide) (by decide) ?_
                                      refine Rn.iload_n dX3_bindingOf_103 rfl ?_
                                      refine Rn.bipushv (v := 25) dX3_bindingOf_104 bp_25 ?_
                                      refine Rn.icmp_lt dX3_bindingOf_106 (fun h106_15 => ?_) (fun h106_15 => ?_)
                                      · skip
                                        first | exact absurd h106_15 (by decide) | exact absurd (by decide) h106_15
                                      · skip
                                        refine Rn.iload_n dX3_bindingOf_109 rfl ?_
                                        refine Rn.bipushv (v := 30) dX3_bindingOf_110 bp_30 ?_
                                        refine Rn.icmp_gt dX3_bindingOf_112 (fun h112_16 => ?_) (fun h112_16 => ?_)
                                        · skip
                                          first | exact absurd h112_16 (by decide) | exact absurd (by decide) h112_16
                                        · skip
                                          refine Rn.iconstv (v := 4) dX3_bindingOf_115 ic_4 ?_
                                          refine Rn.goto dX3_bindingOf_116 ?_
                                          exact Rn.iret (ty := .int) dX3_bindingOf_120 rfl rfl hQ
                                    · skip
                                      have n29 : Int32.toInt x ≠ 29 := fun h => c29 (Int32.toInt_inj.mp (h.trans (by decide)))
                                      by_cases c30 : x = 30
                                      · subst c30
                                        refine Rn.tableIn (off := 102) (tgt := 103) dX3_bindingOf_1 (by decide) (by decide) (by decide) (by decide) ?_
                                        refine Rn.iload_n dX3_bindingOf_103 rfl ?_
                                        refine Rn.bipushv (v := 25) dX3_bindingOf_104 bp_25 ?_
                                        refine Rn.icmp_lt dX3_bindingOf_106 (fun h106_17 => ?_) (fun h106_17 => ?_)
                                        · skip
                                          first | exact absurd h106_17 (by decide) | exact absurd (by decide) h106_17
                                        · skip
                                          refine Rn.iload_n dX3_bindingOf_109 rfl ?_
                                          refine Rn.bipushv (v := 30) dX3_bindingOf_110 bp_30 ?_
                                          refine Rn.icmp_gt dX3_bindingOf_112 (fun h112_18 => ?_) (fun h112_18 => ?_)
                                          · skip
                                            first | exact absurd h112_18 (by decide) | exact absurd (by decide) h112_18
                                          · skip
                                            refine Rn.iconstv (v := 4) dX3_bindingOf_115 ic_4 ?_
                                            refine Rn.goto dX3_bindingOf_116 ?_
                                            exact Rn.iret (ty := .int) dX3_bindingOf_120 rfl rfl hQ
                                      · skip
                                        have n30 : Int32.toInt x ≠ 30 := fun h => c30 (Int32.toInt_inj.mp (h.trans (by decide)))
                                        refine Rn.tableOut (tgt := 103) dX3_bindingOf_1 (by omega) (by decide) ?_
                                        have eb : bnd x = if 25 ≤ x ∧ x ≤ 30 then 4 else 0 := by unfold bnd; rw [if_neg c16, if_neg c17, if_neg c18, if_neg c31, if_neg c32, if_neg c33, if_neg c34]
                                        refine Rn.iload_n dX3_bindingOf_103 rfl ?_
                                        refine Rn.bipushv (v := 25) dX3_bindingOf_104 bp_25 ?_
                                        refine Rn.icmp_lt dX3_bindingOf_106 (fun g1 => ?_) (fun g1 => ?_)
                                        · skip
                                          rw [eb, if_neg (fun h => absurd g1 (Int32.not_lt.mpr h.1))] at hQ
                                          refine Rn.iconstv (v := 0) dX3_bindingOf_119 ic_0 ?_
                                          exact Rn.iret (ty := .int) dX3_bindingOf_120 rfl rfl hQ
                                        · skip
                                          refine Rn.iload_n dX3_bindingOf_109 rfl ?_
                                          refine Rn.bipushv (v := 30) dX3_bindingOf_110 bp_30 ?_
                                          refine Rn.icmp_gt dX3_bindingOf_112 (fun g2 => ?_) (fun g2 => ?_)
                                          · skip
                                            rw [eb, if_neg (fun h => absurd g2 (Int32.not_lt.mpr h.2))] at hQ
                                            refine Rn.iconstv (v := 0) dX3_bindingOf_119 ic_0 ?_
                                            exact Rn.iret (ty := .int) dX3_bindingOf_120 rfl rfl hQ
                                          · skip
                                            rw [eb, if_pos ⟨Int32.not_lt.mp g1, Int32.not_lt.mp g2⟩] at hQ
                                            refine Rn.iconstv (v := 4) dX3_bindingOf_115 ic_4 ?_
                                            refine Rn.goto dX3_bindingOf_116 ?_
                                            exact Rn.iret (ty := .int) dX3_bindingOf_120 rfl rfl hQ
theorem tX3_await {G : Gx} {l : Launch} {ly : Ly} {M : Mm} {k : Nat} {x : Int32} (hk : M.1 5 4 = nI k ∧ k < 72) (hX : XW ly M.2.2) {Q : Qt} (hQ : Q none ly (sI (sI M 6 (upd (M.1 6) k x)) 5 (upd (M.1 5) 4 (nI (k + 1))))) : Mt G l mX3_await (0, 0, 0, false) [.ref 5, .int x] ly M Q := by
  refine Mt.of (lv := [some (.ref 5), some (.int x)]) rfl ?_
  refine Rn.aload_n dX3_await_0 rfl ?_
  refine Rn.getI dX3_await_1 fX3_33 rfl (xc5 hX) ?_
  refine Rn.topI (y := nI k) (hk.1) ?_
  refine Rn.aload_n dX3_await_4 rfl ?_
  refine Rn.getR dX3_await_5 fX3_9 rfl (xc5 hX) (show M.2.2 5 3 = some 6 from (xp5_3 hX)) ?_
  refine Rn.alen dX3_await_8 (xc6 hX) (by decide) ?_
  refine Rn.icmp_ge dX3_await_9 (fun g => ?_) (fun g => ?_)
  · skip
    exact absurd g (nI_ge (a := k) (b := 72) hk.2 (by decide))
  · skip
    refine Rn.aload_n dX3_await_12 rfl ?_
    refine Rn.getR dX3_await_13 fX3_9 rfl (xc5 hX) (show M.2.2 5 3 = some 6 from (xp5_3 hX)) ?_
    refine Rn.aload_n dX3_await_16 rfl ?_
    refine Rn.getI dX3_await_17 fX3_33 rfl (xc5 hX) ?_
    refine Rn.topI (y := nI k) (hk.1) ?_
    refine Rn.iload_n dX3_await_20 rfl ?_
    refine Rn.iastN (k0 := k) dX3_await_21 (xc6 hX) (by omega) (by decide) ?_
    refine Rn.aload_n dX3_await_22 rfl ?_
    refine Rn.dup dX3_await_23 rfl ?_
    refine Rn.getI dX3_await_24 fX3_33 rfl (xc5 hX) ?_
    refine Rn.topI (y := nI k) (hk.1) ?_
    refine Rn.iconstv (v := 1) dX3_await_27 ic_1 ?_
    refine Rn.iadd dX3_await_28 ?_
    refine Rn.topI (y := nI (k + 1)) (nI_add k 1) ?_
    refine Rn.putI dX3_await_29 fX3_33 rfl rfl rfl (xc5 hX) ?_
    exact Rn.vret dX3_await_32 rfl hQ
theorem tX6_failAt {G : Gx} {l : Launch} {ly : Ly} {M : Mm} {x y : Int32} (hX : XW ly M.2.2) : Mt G l mX6_failAt (0, 0, 0, false) [.ref 2, .int x, .int y] ly M (Is (some (.int 0)) ly (sI M 2 (upd (upd (M.1 2) 0 x) 1 y))) := by
  refine Mt.is (fun Q hQ => ?_)
  refine Mt.of (lv := [some (.ref 2), some (.int x), some (.int y)]) rfl ?_
  refine Rn.aload_n dX6_failAt_0 rfl ?_
  refine Rn.iload_n dX6_failAt_1 rfl ?_
  refine Rn.putI dX6_failAt_2 fX6_42 rfl rfl rfl (xc2 hX) ?_
  refine Rn.aload_n dX6_failAt_5 rfl ?_
  refine Rn.iload_n dX6_failAt_6 rfl ?_
  refine Rn.putI dX6_failAt_7 fX6_9 rfl rfl rfl (xc2 hX) ?_
  refine Rn.meq (M2 := sI M 2 (upd (upd (M.1 2) 0 x) 1 y)) (sI_sI _ _ _ _) ?_
  refine Rn.iconstv (v := 0) dX6_failAt_10 ic_0 ?_
  exact Rn.iret (ty := .boolean) dX6_failAt_11 rfl rfl hQ
theorem tX6_fail {G : Gx} {l : Launch} {ly : Ly} {M : Mm} {x : Int32} (hX : XW ly M.2.2) : Mt G l mX6_fail (1, 0, 0, false) [.ref 2, .int x] ly M (Is (some (.int 0)) ly (sI M 2 (upd (upd (M.1 2) 0 x) 1 (M.1 3 1)))) := by
  refine Mt.is (fun Q hQ => ?_)
  refine Mt.of (lv := [some (.ref 2), some (.int x)]) rfl ?_
  refine Rn.aload_n dX6_fail_0 rfl ?_
  refine Rn.iload_n dX6_fail_1 rfl ?_
  refine Rn.aload_n dX6_fail_2 rfl ?_
  refine Rn.getR dX6_fail_3 fX6_20 rfl (xc2 hX) (show M.2.2 2 2 = some 3 from (xp2_2 hX)) ?_
  refine Rn.getI dX6_fail_6 fX6_128 rfl (xc3 hX) ?_
  refine Rn.callV2 dX6_fail_9 vX6_138 (xc2 hX) (by decide) rfl (tX6_failAt hX) (by decide) ⟨(Nat.le_of_ble_eq_true rfl), (Nat.le_of_ble_eq_true rfl), (Nat.le_of_ble_eq_true rfl)⟩ (fun h => by cases h) (fun v1 ly1 M1 ⟨q1, q2, q3⟩ => ?_)
  rw [q1, q2, q3]
  show Rn G l mX6_fail (1, 0, 0, false) 12 [some (.ref 2), some (.int x)] [.int 0] ly (sI M 2 (upd (upd (M.1 2) 0 x) 1 (M.1 3 1))) Q
  exact Rn.iret (ty := .boolean) dX6_fail_12 rfl rfl hQ
theorem tX5_addKnot {G : Gx} {l : Launch} {ly : Ly} {M : Mm} {q k : Nat} {x : Int32} (hq : ly[q]? = some (.inr 5)) (hq1 : M.2.2 q 1 = some (q + 1)) (ha : ly[q + 1]? = some (.inl (0, 64))) (hk : M.1 q 0 = nI k ∧ k < 64) {Q : Qt} (hQ : Q none ly (sI (sI M (q + 1) (upd (M.1 (q + 1)) k x)) q (upd (M.1 q) 0 (nI (k + 1))))) : Mt G l mX5_addKnot (0, 0, 0, false) [.ref q, .int x] ly M Q := by
  refine Mt.of (lv := [some (.ref q), some (.int x)]) rfl ?_
  refine Rn.aload_n dX5_addKnot_0 rfl ?_
  refine Rn.getI dX5_addKnot_1 fX5_19 rfl hq ?_
  refine Rn.topI (y := nI k) (hk.1) ?_
  refine Rn.bipushv (v := 64) dX5_addKnot_4 bp_64 ?_
  refine Rn.icmp_ge dX5_addKnot_6 (fun g => ?_) (fun g => ?_)
  · skip
    exact absurd g (nI_ge (a := k) (b := 64) hk.2 (by decide))
  · skip
    refine Rn.aload_n dX5_addKnot_9 rfl ?_
    refine Rn.getR dX5_addKnot_10 fX5_9 rfl hq hq1 ?_
    refine Rn.aload_n dX5_addKnot_13 rfl ?_
    refine Rn.getI dX5_addKnot_14 fX5_19 rfl hq ?_
    refine Rn.topI (y := nI k) (hk.1) ?_
    refine Rn.iload_n dX5_addKnot_17 rfl ?_
    refine Rn.iastN (k0 := k) dX5_addKnot_18 ha (by omega) (by decide) ?_
    refine Rn.aload_n dX5_addKnot_19 rfl ?_
    refine Rn.dup dX5_addKnot_20 rfl ?_
    refine Rn.getI dX5_addKnot_21 fX5_19 rfl hq ?_
    refine Rn.topI (y := M.1 q 0) ((congrFun (sI_ne (show q ≠ q + 1 by omega)) 0)) ?_
    refine Rn.topI (y := nI k) (hk.1) ?_
    refine Rn.iconstv (v := 1) dX5_addKnot_24 ic_1 ?_
    refine Rn.iadd dX5_addKnot_25 ?_
    refine Rn.topI (y := nI (k + 1)) (nI_add k 1) ?_
    refine Rn.putI dX5_addKnot_26 fX5_19 rfl rfl rfl hq ?_
    refine Rn.meq (M2 := sI (sI M (q + 1) (upd (M.1 (q + 1)) k x)) q (upd (M.1 q) 0 (nI (k + 1)))) (congrArg (fun r9 => sI (sI M (q + 1) (upd (M.1 (q + 1)) k x)) q (upd r9 0 (nI (k + 1)))) (sI_ne (show q ≠ q + 1 by omega))) ?_
    exact Rn.vret dX5_addKnot_29 rfl hQ
