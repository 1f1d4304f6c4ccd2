def bcI (x : Int32) : Nat → Int32
  | 0 => 0
  | k + 1 => bcI x k + ((x >>> (nI k &&& 31)) &&& 1)
def cntR (M : Mm) (n nw nf t : Nat) (s : Sc) (x : Int32) : Int32 := if x = 0 then nI n else if x = 1 then nI nw else if x = 2 then nI nf else if x = 3 then M.1 151 8 else if x = 4 then M.1 151 9 else if x = 5 then M.1 151 12 else if x = 6 then nI t else if x = 7 then M.1 149 70 else if x = 8 then knN (M.1 149 71) (M.1 149 70) else if x = 9 then M.1 149 51 else if x = 10 then bcI s.2.2.2.2.2.1 12 else if x = 11 then (if M.1 171 0 = 0 then 0 else 1) else if x = 12 then gr s.1 n else if x = 13 then gr s.2.2.1 n else -1
theorem tX12_count {G : Gx} {l : Launch} {ly : Ly} {M : Mm} {x : Int32} {n nw t nf : Nat} {p : P4} {h0 c0 : Int32} {W : Wx} {lw : Nat → (Nat → Int32) × Nat} {s : Sc} {fc fk ca : Nat → Int32} (hS : RS M n nw t nf p h0 c0 W lw s fc fk) (hca : cas n nf c0 fc fk ca)  (hR : RW ly M.2.2) {Q : Qt} (hQ : ∀ K, qR M K → Q (some (.int (cntR M n nw nf t s x))) ly K) : Mt G l mX12_count (3, 0, 0, false) [.ref 149, .int x] ly M Q := by
  refine Mt.of (lv := [some (.ref 149), some (.int x), none, none]) rfl ?_
  refine Rn.aload_n dX12_count_0 rfl ?_
  refine Rn.iconstv (v := 0) dX12_count_1 ic_0 ?_
  refine Rn.putI dX12_count_2 fX12_169 rfl rfl rfl (rc149 hR) ?_
  refine Rn.iconstv (v := 0) dX12_count_5 ic_0 ?_
  refine Rn.istore_n (lv' := [some (.ref 149), some (.int x), some (.int 0), none]) dX12_count_6 (by decide) rfl ?_
  refine Rn.iload_n dX12_count_7 rfl ?_
  by_cases c0 : x = 0
  · subst c0
    refine Rn.tableIn (off := 72) (tgt := 80) dX12_count_8 (by decide) (by decide) (by decide) (by decide) ?_
    refine Rn.aload_n dX12_count_80 rfl ?_
    refine Rn.getR dX12_count_81 fX12_15 rfl (rc149 hR) (show M.2.2 149 3 = some 151 from (rpt3 hR)) ?_
    refine Rn.iconstv (v := 0) dX12_count_84 ic_0 ?_
    refine Rn.iald dX12_count_85 (rc151 hR) (by unfold vp_in; decide) ?_
    refine Rn.topI (y := M.1 151 0) (rfl) ?_
    refine Rn.topI (y := nI n) (hS.n.1) ?_
    exact Rn.iret (ty := .int) dX12_count_86 rfl rfl (hQ _ qR.rf.f0)
  · skip
    by_cases c1 : x = 1
    · subst c1
      refine Rn.tableIn (off := 79) (tgt := 87) dX12_count_8 (by decide) (by decide) (by decide) (by decide) ?_
      refine Rn.aload_n dX12_count_87 rfl ?_
      refine Rn.getR dX12_count_88 fX12_15 rfl (rc149 hR) (show M.2.2 149 3 = some 151 from (rpt3 hR)) ?_
      refine Rn.bipushv (v := 6) dX12_count_91 bp_6 ?_
      refine Rn.iald dX12_count_93 (rc151 hR) (by unfold vp_in; decide) ?_
      refine Rn.topI (y := M.1 151 6) (rfl) ?_
      refine Rn.topI (y := nI nw) (hS.nw) ?_
      exact Rn.iret (ty := .int) dX12_count_94 rfl rfl (hQ _ qR.rf.f0)
    · skip
      by_cases c2 : x = 2
      · subst c2
        refine Rn.tableIn (off := 87) (tgt := 95) dX12_count_8 (by decide) (by decide) (by decide) (by decide) ?_
        refine Rn.aload_n dX12_count_95 rfl ?_
        refine Rn.getR dX12_count_96 fX12_107 rfl (rc149 hR) (show M.2.2 149 46 = some 180 from (rpt46 hR)) ?_
        refine Rn.iconstv (v := 0) dX12_count_99 ic_0 ?_
        refine Rn.iald dX12_count_100 (rc180 hR) (by unfold vp_in; decide) ?_
        refine Rn.topI (y := M.1 180 0) (rfl) ?_
        refine Rn.topI (y := nI nf) (hS.2.2.1.1) ?_
        exact Rn.iret (ty := .int) dX12_count_101 rfl rfl (hQ _ qR.rf.f0)
      · skip
        by_cases c3 : x = 3
        · subst c3
          refine Rn.tableIn (off := 94) (tgt := 102) dX12_count_8 (by decide) (by decide) (by decide) (by decide) ?_
          refine Rn.aload_n dX12_count_102 rfl ?_
          refine Rn.getR dX12_count_103 fX12_15 rfl (rc149 hR) (show M.2.2 149 3 = some 151 from (rpt3 hR)) ?_
          refine Rn.bipushv (v := 8) dX12_count_106 bp_8 ?_
          refine Rn.iald dX12_count_108 (rc151 hR) (by unfold vp_in; decide) ?_
          refine Rn.topI (y := M.1 151 8) (rfl) ?_
          exact Rn.iret (ty := .int) dX12_count_109 rfl rfl (hQ _ qR.rf.f0)
        · skip
          by_cases c4 : x = 4
          · subst c4
            refine Rn.tableIn (off := 102) (tgt := 110) dX12_count_8 (by decide) (by decide) (by decide) (by decide) ?_
            refine Rn.aload_n dX12_count_110 rfl ?_
            refine Rn.getR dX12_count_111 fX12_15 rfl (rc149 hR) (show M.2.2 149 3 = some 151 from (rpt3 hR)) ?_
            refine Rn.bipushv (v := 9) dX12_count_114 bp_9 ?_
            refine Rn.iald dX12_count_116 (rc151 hR) (by unfold vp_in; decide) ?_
            refine Rn.topI (y := M.1 151 9) (rfl) ?_
            exact Rn.iret (ty := .int) dX12_count_117 rfl rfl (hQ _ qR.rf.f0)
          · skip
            by_cases c5 : x = 5
            · subst c5
              refine Rn.tableIn (off := 110) (tgt := 118) dX12_count_8 (by decide) (by decide) (by decide) (by decide) ?_
              refine Rn.aload_n dX12_count_118 rfl ?_
              refine Rn.getR dX12_count_119 fX12_15 rfl (rc149 hR) (show M.2.2 149 3 = some 151 from (rpt3 hR)) ?_
              refine Rn.bipushv (v := 12) dX12_count_122 bp_12 ?_
              refine Rn.iald dX12_count_124 (rc151 hR) (by unfold vp_in; decide) ?_
              refine Rn.topI (y := M.1 151 12) (rfl) ?_
              exact Rn.iret (ty := .int) dX12_count_125 rfl rfl (hQ _ qR.rf.f0)
            · skip
              by_cases c6 : x = 6
              · subst c6
                refine Rn.tableIn (off := 118) (tgt := 126) dX12_count_8 (by decide) (by decide) (by decide) (by decide) ?_
                refine Rn.aload_n dX12_count_126 rfl ?_
                refine Rn.getR dX12_count_127 fX12_73 rfl (rc149 hR) (show M.2.2 149 35 = some 169 from (rpt35 hR)) ?_
                refine Rn.iconstv (v := 0) dX12_count_130 ic_0 ?_
                refine Rn.iald dX12_count_131 (rc169 hR) (by unfold vp_in; decide) ?_
                refine Rn.topI (y := M.1 169 0) (rfl) ?_
                refine Rn.topI (y := nI t) (hS.2.1.2.2.2.2.2.2.1.1) ?_
                exact Rn.iret (ty := .int) dX12_count_132 rfl rfl (hQ _ qR.rf.f0)
              · skip
                by_cases c7 : x = 7
                · subst c7
                  refine Rn.tableIn (off := 125) (tgt := 133) dX12_count_8 (by decide) (by decide) (by decide) (by decide) ?_
                  refine Rn.aload_n dX12_count_133 rfl ?_
                  refine Rn.getI dX12_count_134 fX12_334 rfl (rc149 hR) ?_
                  exact Rn.iret (ty := .int) dX12_count_137 rfl rfl (hQ _ qR.rf.f0)
                · skip
                  by_cases c8 : x = 8
                  · subst c8
                    refine Rn.tableIn (off := 130) (tgt := 138) dX12_count_8 (by decide) (by decide) (by decide) (by decide) ?_
                    refine Rn.aload_n dX12_count_138 rfl ?_
                    refine Rn.callV0 dX12_count_139 vX12_514 (rc149 hR) (by decide) rfl (tX12_knownMany (M := sI M 149 (upd (M.1 149) 0 0)) hR) (by decide) ⟨(Nat.le_of_ble_eq_true rfl), (Nat.le_of_ble_eq_true rfl), (Nat.le_of_ble_eq_true rfl)⟩ (fun h => by cases h) (fun v1 ly1 M1 ⟨q1, q2, q3⟩ => ?_)
                    rw [q1, q2, q3]
                    refine Rn.topI (y := knN (M.1 149 71) (M.1 149 70)) (rfl) ?_
                    exact Rn.iret (ty := .int) dX12_count_142 rfl rfl (hQ _ qR.rf.f0)
                  · skip
                    by_cases c9 : x = 9
                    · subst c9
                      refine Rn.tableIn (off := 135) (tgt := 143) dX12_count_8 (by decide) (by decide) (by decide) (by decide) ?_
                      refine Rn.aload_n dX12_count_143 rfl ?_
                      refine Rn.getI dX12_count_144 fX12_340 rfl (rc149 hR) ?_
                      exact Rn.iret (ty := .int) dX12_count_147 rfl rfl (hQ _ qR.rf.f0)
                    · skip
                      by_cases c10 : x = 10
                      · subst c10
                        refine Rn.tableIn (off := 140) (tgt := 148) dX12_count_8 (by decide) (by decide) (by decide) (by decide) ?_
                        refine Rn.iconstv (v := 0) dX12_count_148 ic_0 ?_
                        refine Rn.istore_n (lv' := [some (.ref 149), some (.int 10), some (.int 0), some (.int 0)]) dX12_count_149 (by decide) rfl ?_
                        have loop : ∀ f i : Nat, i + f = 12 → Rn G l mX12_count (3, 0, 0, false) 150 [some (.ref 149), some (.int 10), some (.int (bcI s.2.2.2.2.2.1 i)), some (.int (nI i))] [] ly (sI M 149 (upd (M.1 149) 0 0)) Q := by
                          intro f
                          induction f with
                          | zero =>
                            intro i hi
                            refine Rn.iload_n dX12_count_150 rfl ?_
                            refine Rn.bipushv (v := 12) dX12_count_151 bp_12 ?_
                            refine Rn.icmp_ge dX12_count_153 (fun hc1 => ?_) (fun hc1 => ?_)
                            · skip
                              have ei : i = 12 := by omega
                              refine Rn.iload_n dX12_count_175 rfl ?_
                              rw [ei]
                              exact Rn.iret (ty := .int) dX12_count_176 rfl rfl (hQ _ qR.rf.f0)
                            · skip
                              exact absurd (nI_le (a := 12) (b := i) (by omega) (by omega)) hc1
                          | succ f ih =>
                            intro i hi
                            refine Rn.iload_n dX12_count_150 rfl ?_
                            refine Rn.bipushv (v := 12) dX12_count_151 bp_12 ?_
                            refine Rn.icmp_ge dX12_count_153 (fun hc1 => ?_) (fun hc1 => ?_)
                            · skip
                              exact absurd hc1 (nI_ge (a := i) (b := 12) (by omega) (by omega))
                            · skip
                              refine Rn.iload_n dX12_count_156 rfl ?_
                              refine Rn.aload_n dX12_count_157 rfl ?_
                              refine Rn.getR dX12_count_158 fX12_83 rfl (rc149 hR) (show M.2.2 149 38 = some 172 from (rpt38 hR)) ?_
                              refine Rn.iconstv (v := 0) dX12_count_161 ic_0 ?_
                              refine Rn.iald dX12_count_162 (rc172 hR) (by unfold vp_in; decide) ?_
                              refine Rn.topI (y := M.1 172 0) (rfl) ?_
                              refine Rn.topI (y := s.2.2.2.2.2.1) (hS.2.1.2.2.2.2.2.1) ?_
                              refine Rn.iload_n dX12_count_163 rfl ?_
                              refine Rn.ishr dX12_count_164 ?_
                              refine Rn.iconstv (v := 1) dX12_count_165 ic_1 ?_
                              refine Rn.iand dX12_count_166 ?_
                              refine Rn.iadd dX12_count_167 ?_
                              refine Rn.topI (y := bcI s.2.2.2.2.2.1 (i + 1)) (rfl) ?_
                              refine Rn.istore_n (lv' := [some (.ref 149), some (.int 10), some (.int (bcI s.2.2.2.2.2.1 (i + 1))), some (.int (nI i))]) dX12_count_168 (by decide) rfl ?_
                              refine Rn.iincN (lv' := [some (.ref 149), some (.int 10), some (.int (bcI s.2.2.2.2.2.1 (i + 1))), some (.int (nI (i + 1)))]) dX12_count_169 rfl (by decide) rfl ?_
                              refine Rn.goto dX12_count_172 ?_
                              exact ih (i + 1) (by omega)
                        exact loop 12 0 (by omega)
                      · skip
                        by_cases c11 : x = 11
                        · subst c11
                          refine Rn.tableIn (off := 169) (tgt := 177) dX12_count_8 (by decide) (by decide) (by decide) (by decide) ?_
                          refine Rn.aload_n dX12_count_177 rfl ?_
                          refine Rn.getR dX12_count_178 fX12_79 rfl (rc149 hR) (show M.2.2 149 37 = some 171 from (rpt37 hR)) ?_
                          refine Rn.iconstv (v := 0) dX12_count_181 ic_0 ?_
                          refine Rn.zald dX12_count_182 (rc171 hR) (by unfold vp_in; decide) ?_
                          refine Rn.topI (y := M.1 171 0) (rfl) ?_
                          refine Rn.if_eq dX12_count_183 (fun hb => ?_) (fun hb => ?_)
                          · skip
                            refine Rn.iconstv (v := 0) dX12_count_190 ic_0 ?_
                            have hA : ∀ K, qR M K → Q (some (.int 0)) ly K := fun K hK => by have h9 := hQ K hK; rw [(show cntR M n nw nf t s 11 = (if M.1 171 0 = 0 then 0 else 1) from rfl).trans (if_pos hb)] at h9; exact h9
                            exact Rn.iret (ty := .int) dX12_count_191 rfl rfl (hA _ qR.rf.f0)
                          · skip
                            refine Rn.iconstv (v := 1) dX12_count_186 ic_1 ?_
                            refine Rn.goto dX12_count_187 ?_
                            have hA : ∀ K, qR M K → Q (some (.int 1)) ly K := fun K hK => by have h9 := hQ K hK; rw [(show cntR M n nw nf t s 11 = (if M.1 171 0 = 0 then 0 else 1) from rfl).trans (if_neg hb)] at h9; exact h9
                            exact Rn.iret (ty := .int) dX12_count_191 rfl rfl (hA _ qR.rf.f0)
                        · skip
                          by_cases c12 : x = 12
                          · subst c12
                            refine Rn.tableIn (off := 184) (tgt := 192) dX12_count_8 (by decide) (by decide) (by decide) (by decide) ?_
                            refine Rn.aload_n dX12_count_192 rfl ?_
                            refine Rn.iconstv (v := 0) dX12_count_193 ic_0 ?_
                            refine Rn.aload_n dX12_count_194 rfl ?_
                            refine Rn.getR dX12_count_195 fX12_86 rfl (rc149 hR) (show M.2.2 149 39 = some 173 from (rpt39 hR)) ?_
                            refine Rn.callV2 dX12_count_198 vX12_457 (rc149 hR) (by decide) rfl (tX12_greatest173 (b := 0) (n := n) (M := sI M 149 (upd (M.1 149) 0 0)) (by decide) hS.n.1 hS.n.2 hR) (by decide) ⟨(Nat.le_of_ble_eq_true rfl), (Nat.le_of_ble_eq_true rfl), (Nat.le_of_ble_eq_true rfl)⟩ (fun h => by cases h) (fun v1 ly1 M1 ⟨q1, q2, q3⟩ => ?_)
                            rw [q1, q2, q3]
                            refine Rn.topI (y := gr s.1 n) (gr_E hS.2.1.1 n hS.n.2) ?_
                            exact Rn.iret (ty := .int) dX12_count_201 rfl rfl (hQ _ qR.rf.f0)
                          · skip
                            by_cases c13 : x = 13
                            · subst c13
                              refine Rn.tableIn (off := 194) (tgt := 202) dX12_count_8 (by decide) (by decide) (by decide) (by decide) ?_
                              refine Rn.aload_n dX12_count_202 rfl ?_
                              refine Rn.iconstv (v := 0) dX12_count_203 ic_0 ?_
                              refine Rn.aload_n dX12_count_204 rfl ?_
                              refine Rn.getR dX12_count_205 fX12_92 rfl (rc149 hR) (show M.2.2 149 41 = some 175 from (rpt41 hR)) ?_
                              refine Rn.callV2 dX12_count_208 vX12_457 (rc149 hR) (by decide) rfl (tX12_greatest175 (b := 0) (n := n) (M := sI M 149 (upd (M.1 149) 0 0)) (by decide) hS.n.1 hS.n.2 hR) (by decide) ⟨(Nat.le_of_ble_eq_true rfl), (Nat.le_of_ble_eq_true rfl), (Nat.le_of_ble_eq_true rfl)⟩ (fun h => by cases h) (fun v1 ly1 M1 ⟨q1, q2, q3⟩ => ?_)
                              rw [q1, q2, q3]
                              refine Rn.topI (y := gr s.2.2.1 n) (gr_E hS.2.1.2.2.1 n hS.n.2) ?_
                              exact Rn.iret (ty := .int) dX12_count_211 rfl rfl (hQ _ qR.rf.f0)
                            · skip
                              have n0 : Int32.toInt x ≠ 0 := fun h => c0 (Int32.toInt_inj.mp (h.trans (by decide)))
                              have n1 : Int32.toInt x ≠ 1 := fun h => c1 (Int32.toInt_inj.mp (h.trans (by decide)))
                              have n2 : Int32.toInt x ≠ 2 := fun h => c2 (Int32.toInt_inj.mp (h.trans (by decide)))
                              have n3 : Int32.toInt x ≠ 3 := fun h => c3 (Int32.toInt_inj.mp (h.trans (by decide)))
                              have n4 : Int32.toInt x ≠ 4 := fun h => c4 (Int32.toInt_inj.mp (h.trans (by decide)))
                              have n5 : Int32.toInt x ≠ 5 := fun h => c5 (Int32.toInt_inj.mp (h.trans (by decide)))
                              have n6 : Int32.toInt x ≠ 6 := fun h => c6 (Int32.toInt_inj.mp (h.trans (by decide)))
                              have n7 : Int32.toInt x ≠ 7 := fun h => c7 (Int32.toInt_inj.mp (h.trans (by decide)))
                              have n8 : Int32.toInt x ≠ 8 := fun h => c8 (Int32.toInt_inj.mp (h.trans (by decide)))
                              have n9 : Int32.toInt x ≠ 9 := fun h => c9 (Int32.toInt_inj.mp (h.trans (by decide)))
                              have n10 : Int32.toInt x ≠ 10 := fun h => c10 (Int32.toInt_inj.mp (h.trans (by decide)))
                              have n11 : Int32.toInt x ≠ 11 := fun h => c11 (Int32.toInt_inj.mp (h.trans (by decide)))
                              have n12 : Int32.toInt x ≠ 12 := fun h => c12 (Int32.toInt_inj.mp (h.trans (by decide)))
                              have n13 : Int32.toInt x ≠ 13 := fun h => c13 (Int32.toInt_inj.mp (h.trans (by decide)))
                              refine Rn.tableOut (tgt := 212) dX12_count_8 (by omega) (by decide) ?_
                              refine Rn.iconstv (v := -1) dX12_count_212 ic_m1 ?_
                              exact Rn.iret (ty := .int) dX12_count_213 rfl rfl (by unfold cntR at hQ; rw [if_neg c0, if_neg c1, if_neg c2, if_neg c3, if_neg c4, if_neg c5, if_neg c6, if_neg c7, if_neg c8, if_neg c9, if_neg c10, if_neg c11, if_neg c12, if_neg c13] at hQ; exact hQ _ qR.rf.f0)
