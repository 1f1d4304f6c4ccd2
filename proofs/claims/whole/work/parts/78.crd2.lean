/-- the class's reader alone has changed -/
def xrF (M K : Mm) : Prop := K.2.2 = M.2.2 ∧ (∀ a, a ≠ 3 → K.1 a = M.1 a) ∧ (∀ j, (j = 4 ∨ j = 5 ∨ 6 < j) → K.1 3 j = M.1 3 j)
theorem xrF.rf {M : Mm} : xrF M M := ⟨rfl, fun _ _ => rfl, fun _ _ => rfl⟩
theorem xrF.tr {M N K : Mm} (h : xrF M N) (g : xrF N K) : xrF M K := ⟨g.1.trans h.1, fun a a1 => (g.2.1 a a1).trans (h.2.1 a a1), fun j a1 => (g.2.2 j a1).trans (h.2.2 j a1)⟩
theorem xrF.r {M N : Mm} {f : Nat → Int32} (h : xrF M N) (hf : ∀ j, (j = 4 ∨ j = 5 ∨ 6 < j) → f j = N.1 3 j) : xrF M (sI N 3 f) := h.tr ⟨rfl, fun a a1 => sI_ne a1, hf⟩
def nmC (f : Nat → Int32) (p : Nat) : Nat → Int32
  | 0 => 0
  | k + 1 => mn 1000000 (nmC f p k * 10 + f (p + k) - 48)
def lbS (f : Nat → Int32) (p : Nat) : Nat → Int32
  | 0 => 0
  | k + 1 => lbS f p k ||| ltB (f (p + k)) k
theorem tX8_singleSign {G : Gx} {l : Launch} {ly : Ly} {M : Mm} {x : Int32} (hx : x < 256) : Mt G l mX8_singleSign (0, 0, 0, false) [.int x] ly M (Is (some (.int (sgK x))) ly M) := by
  refine Mt.is (fun Q hQ => ?_)
  refine Mt.of (lv := [some (.int x)]) rfl ?_
  refine Rn.iload_n dX8_singleSign_0 rfl ?_
  by_cases c40 : x = 40
  · subst c40
    refine Rn.tableIn (off := 128) (tgt := 129) dX8_singleSign_1 (by decide) (by decide) (by decide) (by decide) ?_
    refine Rn.bipushv (v := 35) dX8_singleSign_129 bp_35 ?_
    exact Rn.iret (ty := .int) dX8_singleSign_131 rfl rfl hQ
  · skip
    by_cases c41 : x = 41
    · subst c41
      refine Rn.tableIn (off := 131) (tgt := 132) dX8_singleSign_1 (by decide) (by decide) (by decide) (by decide) ?_
      refine Rn.bipushv (v := 36) dX8_singleSign_132 bp_36 ?_
      exact Rn.iret (ty := .int) dX8_singleSign_134 rfl rfl hQ
    · skip
      by_cases c42 : x = 42
      · subst c42
        refine Rn.tableIn (off := 122) (tgt := 123) dX8_singleSign_1 (by decide) (by decide) (by decide) (by decide) ?_
        refine Rn.bipushv (v := 33) dX8_singleSign_123 bp_33 ?_
        exact Rn.iret (ty := .int) dX8_singleSign_125 rfl rfl hQ
      · skip
        by_cases c43 : x = 43
        · subst c43
          refine Rn.tableIn (off := 116) (tgt := 117) dX8_singleSign_1 (by decide) (by decide) (by decide) (by decide) ?_
          refine Rn.bipushv (v := 31) dX8_singleSign_117 bp_31 ?_
          exact Rn.iret (ty := .int) dX8_singleSign_119 rfl rfl hQ
        · skip
          by_cases c45 : x = 45
          · subst c45
            refine Rn.tableIn (off := 119) (tgt := 120) dX8_singleSign_1 (by decide) (by decide) (by decide) (by decide) ?_
            refine Rn.bipushv (v := 32) dX8_singleSign_120 bp_32 ?_
            exact Rn.iret (ty := .int) dX8_singleSign_122 rfl rfl hQ
          · skip
            by_cases c47 : x = 47
            · subst c47
              refine Rn.tableIn (off := 125) (tgt := 126) dX8_singleSign_1 (by decide) (by decide) (by decide) (by decide) ?_
              refine Rn.bipushv (v := 34) dX8_singleSign_126 bp_34 ?_
              exact Rn.iret (ty := .int) dX8_singleSign_128 rfl rfl hQ
            · skip
              by_cases c59 : x = 59
              · subst c59
                refine Rn.tableIn (off := 134) (tgt := 135) dX8_singleSign_1 (by decide) (by decide) (by decide) (by decide) ?_
                refine Rn.bipushv (v := 37) dX8_singleSign_135 bp_37 ?_
                exact Rn.iret (ty := .int) dX8_singleSign_137 rfl rfl hQ
              · skip
                by_cases c60 : x = 60
                · subst c60
                  refine Rn.tableIn (off := 107) (tgt := 108) dX8_singleSign_1 (by decide) (by decide) (by decide) (by decide) ?_
                  refine Rn.bipushv (v := 25) dX8_singleSign_108 bp_25 ?_
                  exact Rn.iret (ty := .int) dX8_singleSign_110 rfl rfl hQ
                · skip
                  by_cases c61 : x = 61
                  · subst c61
                    refine Rn.tableIn (off := 110) (tgt := 111) dX8_singleSign_1 (by decide) (by decide) (by decide) (by decide) ?_
                    refine Rn.bipushv (v := 27) dX8_singleSign_111 bp_27 ?_
                    exact Rn.iret (ty := .int) dX8_singleSign_113 rfl rfl hQ
                  · skip
                    by_cases c62 : x = 62
                    · subst c62
                      refine Rn.tableIn (off := 113) (tgt := 114) dX8_singleSign_1 (by decide) (by decide) (by decide) (by decide) ?_
                      refine Rn.bipushv (v := 30) dX8_singleSign_114 bp_30 ?_
                      exact Rn.iret (ty := .int) dX8_singleSign_116 rfl rfl hQ
                    · skip
                      have n40 : Int32.toInt x ≠ 40 := fun h => c40 (Int32.toInt_inj.mp (h.trans (by decide)))
                      have n41 : Int32.toInt x ≠ 41 := fun h => c41 (Int32.toInt_inj.mp (h.trans (by decide)))
                      have n42 : Int32.toInt x ≠ 42 := fun h => c42 (Int32.toInt_inj.mp (h.trans (by decide)))
                      have n43 : Int32.toInt x ≠ 43 := fun h => c43 (Int32.toInt_inj.mp (h.trans (by decide)))
                      have n45 : Int32.toInt x ≠ 45 := fun h => c45 (Int32.toInt_inj.mp (h.trans (by decide)))
                      have n47 : Int32.toInt x ≠ 47 := fun h => c47 (Int32.toInt_inj.mp (h.trans (by decide)))
                      have n59 : Int32.toInt x ≠ 59 := fun h => c59 (Int32.toInt_inj.mp (h.trans (by decide)))
                      have n60 : Int32.toInt x ≠ 60 := fun h => c60 (Int32.toInt_inj.mp (h.trans (by decide)))
                      have n61 : Int32.toInt x ≠ 61 := fun h => c61 (Int32.toInt_inj.mp (h.trans (by decide)))
                      have n62 : Int32.toInt x ≠ 62 := fun h => c62 (Int32.toInt_inj.mp (h.trans (by decide)))
                      by_cases c44 : x = 44
                      · subst c44
                        refine Rn.tableIn (off := 137) (tgt := 138) dX8_singleSign_1 (by decide) (by decide) (by decide) (by decide) ?_
                        refine Rn.bipushv (v := 41) dX8_singleSign_138 bp_41 ?_
                        exact Rn.iret (ty := .int) dX8_singleSign_140 rfl rfl hQ
                      · skip
                        have n44 : Int32.toInt x ≠ 44 := fun h => c44 (Int32.toInt_inj.mp (h.trans (by decide)))
                        by_cases c46 : x = 46
                        · subst c46
                          refine Rn.tableIn (off := 137) (tgt := 138) dX8_singleSign_1 (by decide) (by decide) (by decide) (by decide) ?_
                          refine Rn.bipushv (v := 41) dX8_singleSign_138 bp_41 ?_
                          exact Rn.iret (ty := .int) dX8_singleSign_140 rfl rfl hQ
                        · skip
                          have n46 : Int32.toInt x ≠ 46 := fun h => c46 (Int32.toInt_inj.mp (h.trans (by decide)))
                          by_cases c48 : x = 48
                          · subst c48
                            refine Rn.tableIn (off := 137) (tgt := 138) dX8_singleSign_1 (by decide) (by decide) (by decide) (by decide) ?_
                            refine Rn.bipushv (v := 41) dX8_singleSign_138 bp_41 ?_
                            exact Rn.iret (ty := .int) dX8_singleSign_140 rfl rfl hQ
                          · skip
                            have n48 : Int32.toInt x ≠ 48 := fun h => c48 (Int32.toInt_inj.mp (h.trans (by decide)))
                            by_cases c49 : x = 49
                            · subst c49
                              refine Rn.tableIn (off := 137) (tgt := 138) dX8_singleSign_1 (by decide) (by decide) (by decide) (by decide) ?_
                              refine Rn.bipushv (v := 41) dX8_singleSign_138 bp_41 ?_
                              exact Rn.iret (ty := .int) dX8_singleSign_140 rfl rfl hQ
                            · skip
                              have n49 : Int32.toInt x ≠ 49 := fun h => c49 (Int32.toInt_inj.mp (h.trans (by decide)))
                              by_cases c50 : x = 50
                              · subst c50
                                refine Rn.tableIn (off := 137) (tgt := 138) dX8_singleSign_1 (by decide) (by decide) (by decide) (by decide) ?_
                                refine Rn.bipushv (v := 41) dX8_singleSign_138 bp_41 ?_
                                exact Rn.iret (ty := .int) dX8_singleSign_140 rfl rfl hQ
                              · skip
                                have n50 : Int32.toInt x ≠ 50 := fun h => c50 (Int32.toInt_inj.mp (h.trans (by decide)))
                                by_cases c51 : x = 51
                                · subst c51
                                  refine Rn.tableIn (off := 137) (tgt := 138) dX8_singleSign_1 (by decide) (by decide) (by decide) (by decide) ?_
                                  refine Rn.bipushv (v := 41) dX8_singleSign_138 bp_41 ?_
                                  exact Rn.iret (ty := .int) dX8_singleSign_140 rfl rfl hQ
                                · skip
                                  have n51 : Int32.toInt x ≠ 51 := fun h => c51 (Int32.toInt_inj.mp (h.trans (by decide)))
                                  by_cases c52 : x = 52
                                  · subst c52
                                    refine Rn.tableIn (off := 137) (tgt := 138) dX8_singleSign_1 (by decide) (by decide) (by decide) (by decide) ?_
                                    refine Rn.bipushv (v := 41) dX8_singleSign_138 bp_41 ?_
                                    exact Rn.iret (ty := .int) dX8_singleSign_140 rfl rfl hQ
                                  · skip
                                    have n52 : Int32.toInt x ≠ 52 := fun h => c52 (Int32.toInt_inj.mp (h.trans (by decide)))
                                    by_cases c53 : x = 53
                                    · subst c53
                                      refine Rn.tableIn (off := 137) (tgt := 138) dX8_singleSign_1 (by decide) (by decide) (by decide) (by decide) ?_
                                      refine Rn.bipushv (v := 41) dX8_singleSign_138 bp_41 ?_
                                      exact Rn.iret (ty := .int) dX8_singleSign_140 rfl rfl hQ
                                    · skip
                                      have n53 : Int32.toInt x ≠ 53 := fun h => c53 (Int32.toInt_inj.mp (h.trans (by decide)))
                                      by_cases c54 : x = 54
                                      · subst c54
                                        refine Rn.tableIn (off := 137) (tgt := 138) dX8_singleSign_1 (by decide) (by decide) (by decide) (by decide) ?_
                                        refine Rn.bipushv (v := 41) dX8_singleSign_138 bp_41 ?_
                                        exact Rn.iret (ty := .int) dX8_singleSign_140 rfl rfl hQ
                                      · skip
                                        have n54 : Int32.toInt x ≠ 54 := fun h => c54 (Int32.toInt_inj.mp (h.trans (by decide)))
                                        by_cases c55 : x = 55
                                        · subst c55
                                          refine Rn.tableIn (off := 137) (tgt := 138) dX8_singleSign_1 (by decide) (by decide) (by decide) (by decide) ?_
                                          refine Rn.bipushv (v := 41) dX8_singleSign_138 bp_41 ?_
                                          exact Rn.iret (ty := .int) dX8_singleSign_140 rfl rfl hQ
                                        · skip
                                          have n55 : Int32.toInt x ≠ 55 := fun h => c55 (Int32.toInt_inj.mp (h.trans (by decide)))
                                          by_cases c56 : x = 56
                                          · subst c56
                                            refine Rn.tableIn (off := 137) (tgt := 138) dX8_singleSign_1 (by decide) (by decide) (by decide) (by decide) ?_
                                            refine Rn.bipushv (v := 41) dX8_singleSign_138 bp_41 ?_
                                            exact Rn.iret (ty := .int) dX8_singleSign_140 rfl rfl hQ
                                          · skip
                                            have n56 : Int32.toInt x ≠ 56 := fun h => c56 (Int32.toInt_inj.mp (h.trans (by decide)))
                                            by_cases c57 : x = 57
                                            · subst c57
                                              refine Rn.tableIn (off := 137) (tgt := 138) dX8_singleSign_1 (by decide) (by decide) (by decide) (by decide) ?_
                                              refine Rn.bipushv (v := 41) dX8_singleSign_138 bp_41 ?_
                                              exact Rn.iret (ty := .int) dX8_singleSign_140 rfl rfl hQ
                                            · skip
                                              have n57 : Int32.toInt x ≠ 57 := fun h => c57 (Int32.toInt_inj.mp (h.trans (by decide)))
                                              by_cases c58 : x = 58
                                              · subst c58
                                                refine Rn.tableIn (off := 137) (tgt := 138) dX8_singleSign_1 (by decide) (by decide) (by decide) (by decide) ?_
                                                refine Rn.bipushv (v := 41) dX8_singleSign_138 bp_41 ?_
                                                exact Rn.iret (ty := .int) dX8_singleSign_140 rfl rfl hQ
                                              · skip
                                                have n58 : Int32.toInt x ≠ 58 := fun h => c58 (Int32.toInt_inj.mp (h.trans (by decide)))
                                                refine Rn.tableOut (tgt := 138) dX8_singleSign_1 (by omega) (by decide) ?_
                                                refine Rn.bipushv (v := 41) dX8_singleSign_138 bp_41 ?_
                                                have ne : ∀ k : Int32, ¬ k < 256 → ¬ x = k := fun k hk e => hk (e ▸ hx)
                                                rw [show sgK x = 41 by unfold sgK; rw [if_neg (ne 256 (by decide)), if_neg (ne 257 (by decide)), if_neg (ne 258 (by decide)), if_neg c60, if_neg c61, if_neg c62, if_neg c43, if_neg c45, if_neg c42, if_neg c47, if_neg c40, if_neg c41, if_neg c59]] at hQ
                                                exact Rn.iret (ty := .int) dX8_singleSign_140 rfl rfl hQ
theorem tX8_readNumber {G : Gx} {l : Launch} {ly : Ly} {M : Mm} {n p : Nat} {f : Nat → Int32} (hn : M.1 3 5 = nI n ∧ n ≤ 700) (hi : M.1 3 6 = nI p ∧ p ≤ n) (hf : tpR (M.1 1) f n) (hX : XW ly M.2.2) {Q : Qt} (hQ : ∀ K, xrF M K → K.1 3 0 = 38 → K.1 3 1 = M.1 3 1 → K.1 3 2 = nmC f p (scN isD f (n - p) p - p) → K.1 3 6 = nI (scN isD f (n - p) p) → Q none ly K) : Mt G l mX8_readNumber (1, 0, 0, false) [.ref 3] ly M Q := by
  refine Mt.of (lv := [some (.ref 3)]) rfl ?_
  refine Rn.aload_n dX8_readNumber_0 rfl ?_
  refine Rn.iconstv (v := 0) dX8_readNumber_1 ic_0 ?_
  refine Rn.putI dX8_readNumber_2 fX8_82 rfl rfl rfl (xc3 hX) ?_
  have loop : ∀ (g k : Nat) (KK : Mm), p + k + g = n → scN isD f (n - p) p = scN isD f g (p + k) → xrF M KK → KK.1 3 1 = M.1 3 1 → KK.1 3 2 = nmC f p k → KK.1 3 6 = nI (p + k) → Rn G l mX8_readNumber (1, 0, 0, false) 5 [some (.ref 3)] [] ly KK Q := by
    intro g
    induction g with
    | zero =>
      intro k KK hk he hF h1 h2 h6
      have hXKK : XW ly KK.2.2 := by rw [hF.1]; exact hX
      refine Rn.aload_n dX8_readNumber_5 rfl ?_
      refine Rn.getI dX8_readNumber_6 fX8_43 rfl (xc3 hXKK) ?_
      refine Rn.topI (y := nI (p + k)) (h6) ?_
      refine Rn.aload_n dX8_readNumber_9 rfl ?_
      refine Rn.getI dX8_readNumber_10 fX8_40 rfl (xc3 hXKK) ?_
      refine Rn.topI (y := nI n) ((hF.2.2 5 (by omega)).trans hn.1) ?_
      refine Rn.icmp_ge dX8_readNumber_13 (fun g1 => ?_) (fun g1 => ?_)
      · skip
        have hee : scN isD f (n - p) p = p + k := by rw [he]; rfl
        refine Rn.aload_n dX8_readNumber_73 rfl ?_
        refine Rn.bipushv (v := 38) dX8_readNumber_74 bp_38 ?_
        refine Rn.putI dX8_readNumber_76 fX8_56 rfl rfl rfl (xc3 hXKK) ?_
        rw [hee, Nat.add_sub_cancel_left] at hQ
        exact Rn.vret dX8_readNumber_79 rfl (hQ _ (hF.r (fun j hj => pk_un (by omega))) rfl h1 h2 h6)
      · skip
        exact absurd (nI_le (a := n) (b := p + k) (by omega) (by omega)) g1
    | succ g ih =>
      intro k KK hk he hF h1 h2 h6
      have hXKK : XW ly KK.2.2 := by rw [hF.1]; exact hX
      refine Rn.aload_n dX8_readNumber_5 rfl ?_
      refine Rn.getI dX8_readNumber_6 fX8_43 rfl (xc3 hXKK) ?_
      refine Rn.topI (y := nI (p + k)) (h6) ?_
      refine Rn.aload_n dX8_readNumber_9 rfl ?_
      refine Rn.getI dX8_readNumber_10 fX8_40 rfl (xc3 hXKK) ?_
      refine Rn.topI (y := nI n) ((hF.2.2 5 (by omega)).trans hn.1) ?_
      refine Rn.icmp_ge dX8_readNumber_13 (fun g1 => ?_) (fun g1 => ?_)
      · skip
        exact absurd g1 (nI_ge (a := p + k) (b := n) (by omega) (by omega))
      · skip
        have hlt : p + k < n := by omega
        have e1 : KK.1 1 = M.1 1 := hF.2.1 1 (by decide)
        have hs2 : scN isD f (g + 1) (p + k) = if isD (f (p + k)) = true then scN isD f g (p + k + 1) else p + k := rfl
        refine Rn.aload_n dX8_readNumber_16 rfl ?_
        refine Rn.getR dX8_readNumber_17 fX8_15 rfl (xc3 hXKK) (show KK.2.2 3 4 = some 1 from (xp3_4 hXKK)) ?_
        refine Rn.aload_n dX8_readNumber_20 rfl ?_
        refine Rn.getI dX8_readNumber_21 fX8_43 rfl (xc3 hXKK) ?_
        refine Rn.topI (y := nI (p + k)) (h6) ?_
        refine Rn.baldN (k0 := (p + k)) dX8_readNumber_24 (xc1 hXKK) (by omega) (by decide) ?_
        refine Rn.topI (y := M.1 1 (p + k)) (congrFun e1 _) ?_
        refine Rn.callS1 dX8_readNumber_25 vX8_66 (tX8_isDigit) (by decide) ⟨(Nat.le_of_ble_eq_true rfl), (Nat.le_of_ble_eq_true rfl), (Nat.le_of_ble_eq_true rfl)⟩ (fun h => by cases h) (fun v1 ly1 M1 ⟨q1, q2, q3⟩ => ?_)
        rw [q1, q2, q3]
        refine Rn.if_eq dX8_readNumber_28 (fun g2 => ?_) (fun g2 => ?_)
        · skip
          have hd : ¬ isD (f (p + k)) = true := (hf.D hlt).elim (fun h => h.2) (fun h => absurd (h.1.symm.trans g2) (by decide))
          have hee : scN isD f (n - p) p = p + k := by rw [he, hs2, if_neg hd]
          refine Rn.aload_n dX8_readNumber_73 rfl ?_
          refine Rn.bipushv (v := 38) dX8_readNumber_74 bp_38 ?_
          refine Rn.putI dX8_readNumber_76 fX8_56 rfl rfl rfl (xc3 hXKK) ?_
          rw [hee, Nat.add_sub_cancel_left] at hQ
          exact Rn.vret dX8_readNumber_79 rfl (hQ _ (hF.r (fun j hj => pk_un (by omega))) rfl h1 h2 h6)
        · skip
          have hd : isD (f (p + k)) = true := (hf.D hlt).elim (fun h => absurd h.1 g2) (fun h => h.2)
          have hg : M.1 1 (p + k) = f (p + k) := (hf (p + k) hlt).2.elim (fun h => h.2) (fun h => absurd (Int32.le_trans h.1 (of_decide_eq_true hd).2) (by decide))
          refine Rn.aload_n dX8_readNumber_31 rfl ?_
          refine Rn.ldc dX8_readNumber_32 kX8_85 ?_
          refine Rn.aload_n dX8_readNumber_34 rfl ?_
          refine Rn.getI dX8_readNumber_35 fX8_82 rfl (xc3 hXKK) ?_
          refine Rn.topI (y := nmC f p k) (h2) ?_
          refine Rn.bipushv (v := 10) dX8_readNumber_38 bp_10 ?_
          refine Rn.imul dX8_readNumber_40 ?_
          refine Rn.aload_n dX8_readNumber_41 rfl ?_
          refine Rn.getR dX8_readNumber_42 fX8_15 rfl (xc3 hXKK) (show KK.2.2 3 4 = some 1 from (xp3_4 hXKK)) ?_
          refine Rn.aload_n dX8_readNumber_45 rfl ?_
          refine Rn.getI dX8_readNumber_46 fX8_43 rfl (xc3 hXKK) ?_
          refine Rn.topI (y := nI (p + k)) (h6) ?_
          refine Rn.baldN (k0 := (p + k)) dX8_readNumber_49 (xc1 hXKK) (by omega) (by decide) ?_
          refine Rn.topI (y := f (p + k)) ((congrFun e1 _).trans hg) ?_
          refine Rn.iadd dX8_readNumber_50 ?_
          refine Rn.bipushv (v := 48) dX8_readNumber_51 bp_48 ?_
          refine Rn.isub dX8_readNumber_53 ?_
          refine Rn.mmin dX8_readNumber_54 jX8_35 jw_mmin ⟨(Nat.le_of_ble_eq_true rfl), (Nat.le_of_ble_eq_true rfl)⟩ ?_
          refine Rn.topI (y := nmC f p (k + 1)) (rfl) ?_
          refine Rn.putI dX8_readNumber_57 fX8_82 rfl rfl rfl (xc3 hXKK) ?_
          refine Rn.aload_n dX8_readNumber_60 rfl ?_
          refine Rn.dup dX8_readNumber_61 rfl ?_
          refine Rn.getI dX8_readNumber_62 fX8_43 rfl (xc3 hXKK) ?_
          refine Rn.topI (y := nI (p + k)) (h6) ?_
          refine Rn.iconstv (v := 1) dX8_readNumber_65 ic_1 ?_
          refine Rn.iadd dX8_readNumber_66 ?_
          refine Rn.topI (y := nI (p + k + 1)) (nI_add (p + k) 1) ?_
          refine Rn.putI dX8_readNumber_67 fX8_43 rfl rfl rfl (xc3 hXKK) ?_
          refine Rn.meq (M2 := sI KK 3 (upd (upd (KK.1 3) 2 (nmC f p (k + 1))) 6 (nI (p + k + 1)))) (sI_sI _ _ _ _) ?_
          refine Rn.goto dX8_readNumber_70 ?_
          exact ih (k + 1) _ (by omega) (by rw [he, hs2, if_pos hd]; rfl) (hF.r (fun j hj => (pk_un (by omega)).trans (pk_un (by omega)))) h1 rfl rfl
  exact loop (n - p) 0 _ (by omega) rfl (xrF.rf.r (fun j hj => pk_un (by omega))) rfl rfl hi.1
theorem tX8_readWord {G : Gx} {l : Launch} {ly : Ly} {M : Mm} {n p : Nat} {f : Nat → Int32} (hn : M.1 3 5 = nI n ∧ n ≤ 700) (hi : M.1 3 6 = nI p ∧ p ≤ n) (hf : tpR (M.1 1) f n) (hpl : M.1 3 1 = nI p) (hX : XW ly M.2.2) {Q : Qt} (hQ : ∀ K, xrF M K → K.1 3 0 = (if 6 < scN isS f (n - p) p - p then 41 else if wdF (fun j => decide (M.1 4 j = lbS f p (scN isS f (n - p) p - p))) 25 0 = -1 then 39 else wdF (fun j => decide (M.1 4 j = lbS f p (scN isS f (n - p) p - p))) 25 0) → K.1 3 1 = M.1 3 1 → K.1 3 3 = lbS f p (scN isS f (n - p) p - p) → K.1 3 6 = nI (scN isS f (n - p) p) → Q none ly K) : Mt G l mX8_readWord (1, 0, 0, false) [.ref 3] ly M Q := by
  refine Mt.of (lv := [some (.ref 3)]) rfl ?_
  have hE := scN_le (P := isS) (f := f) (n - p) p
  refine Rn.aload_n dX8_readWord_0 rfl ?_
  refine Rn.iconstv (v := 0) dX8_readWord_1 ic_0 ?_
  refine Rn.putI dX8_readWord_2 fX8_76 rfl rfl rfl (xc3 hX) ?_
  have loop : ∀ (g k : Nat) (KK : Mm), p + k + g = n → scN isS f (n - p) p = scN isS f g (p + k) → xrF M KK → KK.1 3 1 = M.1 3 1 → KK.1 3 3 = lbS f p k → KK.1 3 6 = nI (p + k) → Rn G l mX8_readWord (1, 0, 0, false) 5 [some (.ref 3)] [] ly KK Q := by
    intro g
    induction g with
    | zero =>
      intro k KK hk he hF h1 h3 h6
      have hXKK : XW ly KK.2.2 := by rw [hF.1]; exact hX
      refine Rn.aload_n dX8_readWord_5 rfl ?_
      refine Rn.getI dX8_readWord_6 fX8_43 rfl (xc3 hXKK) ?_
      refine Rn.topI (y := nI (p + k)) (h6) ?_
      refine Rn.aload_n dX8_readWord_9 rfl ?_
      refine Rn.getI dX8_readWord_10 fX8_40 rfl (xc3 hXKK) ?_
      refine Rn.topI (y := nI n) ((hF.2.2 5 (by omega)).trans hn.1) ?_
      refine Rn.icmp_ge dX8_readWord_13 (fun g1 => ?_) (fun g1 => ?_)
      · skip
        have hee : scN isS f (n - p) p = p + k := by rw [he]; rfl
        rw [hee, Nat.add_sub_cancel_left] at hQ
        have e4 : KK.1 4 = M.1 4 := hF.2.1 4 (by decide)
        refine Rn.aload_n dX8_readWord_74 rfl ?_
        refine Rn.aload_n dX8_readWord_75 rfl ?_
        refine Rn.getI dX8_readWord_76 fX8_43 rfl (xc3 hXKK) ?_
        refine Rn.topI (y := nI (p + k)) (h6) ?_
        refine Rn.aload_n dX8_readWord_79 rfl ?_
        refine Rn.getI dX8_readWord_80 fX8_49 rfl (xc3 hXKK) ?_
        refine Rn.topI (y := nI p) (h1.trans hpl) ?_
        refine Rn.isub dX8_readWord_83 ?_
        refine Rn.topI (y := nI k) (by rw [Nat.add_comm]; exact nI_subk k p) ?_
        refine Rn.bipushv (v := 6) dX8_readWord_84 bp_6 ?_
        refine Rn.icmp_le dX8_readWord_86 (fun g5 => ?_) (fun g5 => ?_)
        · skip
          rw [if_neg (by have := (nI_leI (b := 6) (by omega) (by decide)).mp g5; omega)] at hQ
          refine Rn.aload_n dX8_readWord_94 rfl ?_
          refine Rn.callV0 dX8_readWord_95 vX8_79 (xc3 hXKK) (by decide) rfl (tX8_wordKind (M := KK) hXKK) (by decide) ⟨(Nat.le_of_ble_eq_true rfl), (Nat.le_of_ble_eq_true rfl), (Nat.le_of_ble_eq_true rfl)⟩ (fun h => by cases h) (fun v1 ly1 M1 ⟨q1, q2, q3⟩ => ?_)
          rw [q1, q2, q3]
          refine Rn.topI (y := if wdF (fun j => decide (M.1 4 j = lbS f p k)) 25 0 = -1 then 39 else wdF (fun j => decide (M.1 4 j = lbS f p k)) 25 0) (by rw [e4, h3]) ?_
          refine Rn.putI dX8_readWord_98 fX8_56 rfl rfl rfl (xc3 hXKK) ?_
          exact Rn.vret dX8_readWord_101 rfl (hQ _ (hF.r (fun j hj => pk_un (by omega))) rfl h1 h3 h6)
        · skip
          rw [if_pos (by have h9 : ¬ k ≤ 6 := fun h => g5 ((nI_leI (b := 6) (by omega) (by decide)).mpr h); omega)] at hQ
          refine Rn.bipushv (v := 41) dX8_readWord_89 bp_41 ?_
          refine Rn.goto dX8_readWord_91 ?_
          refine Rn.putI dX8_readWord_98 fX8_56 rfl rfl rfl (xc3 hXKK) ?_
          exact Rn.vret dX8_readWord_101 rfl (hQ _ (hF.r (fun j hj => pk_un (by omega))) rfl h1 h3 h6)
      · skip
        exact absurd (nI_le (a := n) (b := p + k) (by omega) (by omega)) g1
    | succ g ih =>
      intro k KK hk he hF h1 h3 h6
      have hXKK : XW ly KK.2.2 := by rw [hF.1]; exact hX
      refine Rn.aload_n dX8_readWord_5 rfl ?_
      refine Rn.getI dX8_readWord_6 fX8_43 rfl (xc3 hXKK) ?_
      refine Rn.topI (y := nI (p + k)) (h6) ?_
      refine Rn.aload_n dX8_readWord_9 rfl ?_
      refine Rn.getI dX8_readWord_10 fX8_40 rfl (xc3 hXKK) ?_
      refine Rn.topI (y := nI n) ((hF.2.2 5 (by omega)).trans hn.1) ?_
      refine Rn.icmp_ge dX8_readWord_13 (fun g1 => ?_) (fun g1 => ?_)
      · skip
        exact absurd g1 (nI_ge (a := p + k) (b := n) (by omega) (by omega))
      · skip
        have hlt : p + k < n := by omega
        have e1 : KK.1 1 = M.1 1 := hF.2.1 1 (by decide)
        have hs2 : scN isS f (g + 1) (p + k) = if isS (f (p + k)) = true then scN isS f g (p + k + 1) else p + k := rfl
        refine Rn.aload_n dX8_readWord_16 rfl ?_
        refine Rn.getR dX8_readWord_17 fX8_15 rfl (xc3 hXKK) (show KK.2.2 3 4 = some 1 from (xp3_4 hXKK)) ?_
        refine Rn.aload_n dX8_readWord_20 rfl ?_
        refine Rn.getI dX8_readWord_21 fX8_43 rfl (xc3 hXKK) ?_
        refine Rn.topI (y := nI (p + k)) (h6) ?_
        refine Rn.baldN (k0 := (p + k)) dX8_readWord_24 (xc1 hXKK) (by omega) (by decide) ?_
        refine Rn.topI (y := M.1 1 (p + k)) (congrFun e1 _) ?_
        refine Rn.callS1 dX8_readWord_25 vX8_59 (tX8_isLetter) (by decide) ⟨(Nat.le_of_ble_eq_true rfl), (Nat.le_of_ble_eq_true rfl), (Nat.le_of_ble_eq_true rfl)⟩ (fun h => by cases h) (fun v1 ly1 M1 ⟨q1, q2, q3⟩ => ?_)
        rw [q1, q2, q3]
        refine Rn.if_eq dX8_readWord_28 (fun g2 => ?_) (fun g2 => ?_)
        · skip
          have hd : ¬ isS (f (p + k)) = true := (hf.S hlt).elim (fun h => h.2) (fun h => absurd (h.1.symm.trans g2) (by decide))
          have hee : scN isS f (n - p) p = p + k := by rw [he, hs2, if_neg hd]
          rw [hee, Nat.add_sub_cancel_left] at hQ
          have e4 : KK.1 4 = M.1 4 := hF.2.1 4 (by decide)
          refine Rn.aload_n dX8_readWord_74 rfl ?_
          refine Rn.aload_n dX8_readWord_75 rfl ?_
          refine Rn.getI dX8_readWord_76 fX8_43 rfl (xc3 hXKK) ?_
          refine Rn.topI (y := nI (p + k)) (h6) ?_
          refine Rn.aload_n dX8_readWord_79 rfl ?_
          refine Rn.getI dX8_readWord_80 fX8_49 rfl (xc3 hXKK) ?_
          refine Rn.topI (y := nI p) (h1.trans hpl) ?_
          refine Rn.isub dX8_readWord_83 ?_
          refine Rn.topI (y := nI k) (by rw [Nat.add_comm]; exact nI_subk k p) ?_
          refine Rn.bipushv (v := 6) dX8_readWord_84 bp_6 ?_
          refine Rn.icmp_le dX8_readWord_86 (fun g5 => ?_) (fun g5 => ?_)
          · skip
            rw [if_neg (by have := (nI_leI (b := 6) (by omega) (by decide)).mp g5; omega)] at hQ
            refine Rn.aload_n dX8_readWord_94 rfl ?_
            refine Rn.callV0 dX8_readWord_95 vX8_79 (xc3 hXKK) (by decide) rfl (tX8_wordKind (M := KK) hXKK) (by decide) ⟨(Nat.le_of_ble_eq_true rfl), (Nat.le_of_ble_eq_true rfl), (Nat.le_of_ble_eq_true rfl)⟩ (fun h => by cases h) (fun v1 ly1 M1 ⟨q1, q2, q3⟩ => ?_)
            rw [q1, q2, q3]
            refine Rn.topI (y := if wdF (fun j => decide (M.1 4 j = lbS f p k)) 25 0 = -1 then 39 else wdF (fun j => decide (M.1 4 j = lbS f p k)) 25 0) (by rw [e4, h3]) ?_
            refine Rn.putI dX8_readWord_98 fX8_56 rfl rfl rfl (xc3 hXKK) ?_
            exact Rn.vret dX8_readWord_101 rfl (hQ _ (hF.r (fun j hj => pk_un (by omega))) rfl h1 h3 h6)
          · skip
            rw [if_pos (by have h9 : ¬ k ≤ 6 := fun h => g5 ((nI_leI (b := 6) (by omega) (by decide)).mpr h); omega)] at hQ
            refine Rn.bipushv (v := 41) dX8_readWord_89 bp_41 ?_
            refine Rn.goto dX8_readWord_91 ?_
            refine Rn.putI dX8_readWord_98 fX8_56 rfl rfl rfl (xc3 hXKK) ?_
            exact Rn.vret dX8_readWord_101 rfl (hQ _ (hF.r (fun j hj => pk_un (by omega))) rfl h1 h3 h6)
        · skip
          have hd : isS (f (p + k)) = true := (hf.S hlt).elim (fun h => absurd h.1 g2) (fun h => h.2)
          have hg : M.1 1 (p + k) = f (p + k) := (hf (p + k) hlt).2.elim (fun h => h.2) (fun h => absurd (Int32.le_trans h.1 (of_decide_eq_true hd).2) (by decide))
          refine Rn.aload_n dX8_readWord_31 rfl ?_
          refine Rn.dup dX8_readWord_32 rfl ?_
          refine Rn.getI dX8_readWord_33 fX8_76 rfl (xc3 hXKK) ?_
          refine Rn.topI (y := lbS f p k) (h3) ?_
          refine Rn.aload_n dX8_readWord_36 rfl ?_
          refine Rn.getR dX8_readWord_37 fX8_15 rfl (xc3 hXKK) (show KK.2.2 3 4 = some 1 from (xp3_4 hXKK)) ?_
          refine Rn.aload_n dX8_readWord_40 rfl ?_
          refine Rn.getI dX8_readWord_41 fX8_43 rfl (xc3 hXKK) ?_
          refine Rn.topI (y := nI (p + k)) (h6) ?_
          refine Rn.baldN (k0 := (p + k)) dX8_readWord_44 (xc1 hXKK) (by omega) (by decide) ?_
          refine Rn.topI (y := f (p + k)) ((congrFun e1 _).trans hg) ?_
          refine Rn.aload_n dX8_readWord_45 rfl ?_
          refine Rn.getI dX8_readWord_46 fX8_43 rfl (xc3 hXKK) ?_
          refine Rn.topI (y := nI (p + k)) (h6) ?_
          refine Rn.aload_n dX8_readWord_49 rfl ?_
          refine Rn.getI dX8_readWord_50 fX8_49 rfl (xc3 hXKK) ?_
          refine Rn.topI (y := nI p) (h1.trans hpl) ?_
          refine Rn.isub dX8_readWord_53 ?_
          refine Rn.topI (y := nI k) (by rw [Nat.add_comm]; exact nI_subk k p) ?_
          refine Rn.callS2 dX8_readWord_54 vX8_31 (tX8_letterBits (x := f (p + k)) (k := k) (by omega)) (by decide) ⟨(Nat.le_of_ble_eq_true rfl), (Nat.le_of_ble_eq_true rfl), (Nat.le_of_ble_eq_true rfl)⟩ (fun h => by cases h) (fun v1 ly1 M1 ⟨q1, q2, q3⟩ => ?_)
          rw [q1, q2, q3]
          refine Rn.ior dX8_readWord_57 ?_
          refine Rn.topI (y := lbS f p (k + 1)) (rfl) ?_
          refine Rn.putI dX8_readWord_58 fX8_76 rfl rfl rfl (xc3 hXKK) ?_
          refine Rn.aload_n dX8_readWord_61 rfl ?_
          refine Rn.dup dX8_readWord_62 rfl ?_
          refine Rn.getI dX8_readWord_63 fX8_43 rfl (xc3 hXKK) ?_
          refine Rn.topI (y := nI (p + k)) (h6) ?_
          refine Rn.iconstv (v := 1) dX8_readWord_66 ic_1 ?_
          refine Rn.iadd dX8_readWord_67 ?_
          refine Rn.topI (y := nI (p + k + 1)) (nI_add (p + k) 1) ?_
          refine Rn.putI dX8_readWord_68 fX8_43 rfl rfl rfl (xc3 hXKK) ?_
          refine Rn.meq (M2 := sI KK 3 (upd (upd (KK.1 3) 3 (lbS f p (k + 1))) 6 (nI (p + k + 1)))) (sI_sI _ _ _ _) ?_
          refine Rn.goto dX8_readWord_71 ?_
          exact ih (k + 1) _ (by omega) (by rw [he, hs2, if_pos hd]; rfl) (hF.r (fun j hj => (pk_un (by omega)).trans (pk_un (by omega)))) h1 rfl rfl
  exact loop (n - p) 0 _ (by omega) rfl (xrF.rf.r (fun j hj => pk_un (by omega))) rfl rfl hi.1
