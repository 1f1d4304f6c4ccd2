theorem tX12_named {G : Gx} {l : Launch} {ly : Ly} {M : Mm} {x y : Int32} {c : Nat → Nat} (hc : ∀ k, k < 4 → M.1 151 (6 + k) = nI (c k)) (hb : c 0 ≤ 6 ∧ c 1 ≤ 4 ∧ c 2 ≤ 4 ∧ c 3 ≤ 3) (hR : RW ly M.2.2) {Q : Qt} (hQ : ((x < 0 ∨ 4 ≤ x) → Q (some (.int (-1))) ly (sI M 149 (upd (M.1 149) 0 0))) ∧ (x = 0 → Q (some (.int (wdF (fun j => decide (M.1 152 (0 + j) = y)) (c 0) 0))) ly (sI M 149 (upd (M.1 149) 0 0))) ∧ (x = 1 → Q (some (.int (wdF (fun j => decide (M.1 158 (0 + j) = y)) (c 1) 0))) ly (sI M 149 (upd (M.1 149) 0 0))) ∧ (x = 2 → Q (some (.int (wdF (fun j => decide (M.1 161 (0 + j) = y)) (c 2) 0))) ly (sI M 149 (upd (M.1 149) 0 0))) ∧ (x = 3 → Q (some (.int (wdF (fun j => decide (M.1 164 (0 + j) = y)) (c 3) 0))) ly (sI M 149 (upd (M.1 149) 0 0)))) : Mt G l mX12_named (1, 0, 0, false) [.ref 149, .int x, .int y] ly M Q := by
  refine Mt.of (lv := [some (.ref 149), some (.int x), some (.int y)]) rfl ?_
  refine Rn.aload_n dX12_named_0 rfl ?_
  refine Rn.iconstv (v := 0) dX12_named_1 ic_0 ?_
  refine Rn.putI dX12_named_2 fX12_169 rfl rfl rfl (rc149 hR) ?_
  refine Rn.iload_n dX12_named_5 rfl ?_
  by_cases c0 : x = 0
  · subst c0
    refine Rn.tableIn (off := 30) (tgt := 36) dX12_named_6 (by decide) (by decide) (by decide) (by decide) ?_
    refine Rn.aload_n dX12_named_36 rfl ?_
    refine Rn.getR dX12_named_37 fX12_18 rfl (rc149 hR) (show M.2.2 149 4 = some 152 from (rpt4 hR)) ?_
    refine Rn.iconstv (v := 0) dX12_named_40 ic_0 ?_
    refine Rn.aload_n dX12_named_41 rfl ?_
    refine Rn.getR dX12_named_42 fX12_15 rfl (rc149 hR) (show M.2.2 149 3 = some 151 from (rpt3 hR)) ?_
    refine Rn.bipushv (v := 6) dX12_named_45 bp_6 ?_
    refine Rn.iald dX12_named_47 (rc151 hR) (by unfold vp_in; decide) ?_
    refine Rn.topI (y := M.1 151 6) (rfl) ?_
    refine Rn.topI (y := nI (c 0)) (hc 0 (by decide)) ?_
    refine Rn.iload_n dX12_named_48 rfl ?_
    refine Rn.callS4 dX12_named_49 vX12_241 (tX12_found (M := sI M 149 (upd (M.1 149) 0 0)) (a := 152) (fo := 0) (m := c 0) (len := 12) (x := y) (rc152 hR) (by omega) (by decide)) (by decide) ⟨(Nat.le_of_ble_eq_true rfl), (Nat.le_of_ble_eq_true rfl), (Nat.le_of_ble_eq_true rfl)⟩ (fun h => by cases h) (fun v1 ly1 M1 ⟨q1, q2, q3⟩ => ?_)
    rw [q1, q2, q3]
    exact Rn.iret (ty := .int) dX12_named_52 rfl rfl (hQ.2.1 rfl)
  · skip
    by_cases c1 : x = 1
    · subst c1
      refine Rn.tableIn (off := 47) (tgt := 53) dX12_named_6 (by decide) (by decide) (by decide) (by decide) ?_
      refine Rn.aload_n dX12_named_53 rfl ?_
      refine Rn.getR dX12_named_54 fX12_36 rfl (rc149 hR) (show M.2.2 149 10 = some 158 from (rpt10 hR)) ?_
      refine Rn.iconstv (v := 0) dX12_named_57 ic_0 ?_
      refine Rn.aload_n dX12_named_58 rfl ?_
      refine Rn.getR dX12_named_59 fX12_15 rfl (rc149 hR) (show M.2.2 149 3 = some 151 from (rpt3 hR)) ?_
      refine Rn.bipushv (v := 7) dX12_named_62 bp_7 ?_
      refine Rn.iald dX12_named_64 (rc151 hR) (by unfold vp_in; decide) ?_
      refine Rn.topI (y := M.1 151 7) (rfl) ?_
      refine Rn.topI (y := nI (c 1)) (hc 1 (by decide)) ?_
      refine Rn.iload_n dX12_named_65 rfl ?_
      refine Rn.callS4 dX12_named_66 vX12_241 (tX12_found (M := sI M 149 (upd (M.1 149) 0 0)) (a := 158) (fo := 0) (m := c 1) (len := 8) (x := y) (rc158 hR) (by omega) (by decide)) (by decide) ⟨(Nat.le_of_ble_eq_true rfl), (Nat.le_of_ble_eq_true rfl), (Nat.le_of_ble_eq_true rfl)⟩ (fun h => by cases h) (fun v1 ly1 M1 ⟨q1, q2, q3⟩ => ?_)
      rw [q1, q2, q3]
      exact Rn.iret (ty := .int) dX12_named_69 rfl rfl (hQ.2.2.1 rfl)
    · skip
      by_cases c2 : x = 2
      · subst c2
        refine Rn.tableIn (off := 64) (tgt := 70) dX12_named_6 (by decide) (by decide) (by decide) (by decide) ?_
        refine Rn.aload_n dX12_named_70 rfl ?_
        refine Rn.getR dX12_named_71 fX12_45 rfl (rc149 hR) (show M.2.2 149 13 = some 161 from (rpt13 hR)) ?_
        refine Rn.iconstv (v := 0) dX12_named_74 ic_0 ?_
        refine Rn.aload_n dX12_named_75 rfl ?_
        refine Rn.getR dX12_named_76 fX12_15 rfl (rc149 hR) (show M.2.2 149 3 = some 151 from (rpt3 hR)) ?_
        refine Rn.bipushv (v := 8) dX12_named_79 bp_8 ?_
        refine Rn.iald dX12_named_81 (rc151 hR) (by unfold vp_in; decide) ?_
        refine Rn.topI (y := M.1 151 8) (rfl) ?_
        refine Rn.topI (y := nI (c 2)) (hc 2 (by decide)) ?_
        refine Rn.iload_n dX12_named_82 rfl ?_
        refine Rn.callS4 dX12_named_83 vX12_241 (tX12_found (M := sI M 149 (upd (M.1 149) 0 0)) (a := 161) (fo := 0) (m := c 2) (len := 8) (x := y) (rc161 hR) (by omega) (by decide)) (by decide) ⟨(Nat.le_of_ble_eq_true rfl), (Nat.le_of_ble_eq_true rfl), (Nat.le_of_ble_eq_true rfl)⟩ (fun h => by cases h) (fun v1 ly1 M1 ⟨q1, q2, q3⟩ => ?_)
        rw [q1, q2, q3]
        exact Rn.iret (ty := .int) dX12_named_86 rfl rfl (hQ.2.2.2.1 rfl)
      · skip
        by_cases c3 : x = 3
        · subst c3
          refine Rn.tableIn (off := 81) (tgt := 87) dX12_named_6 (by decide) (by decide) (by decide) (by decide) ?_
          refine Rn.aload_n dX12_named_87 rfl ?_
          refine Rn.getR dX12_named_88 fX12_54 rfl (rc149 hR) (show M.2.2 149 16 = some 164 from (rpt16 hR)) ?_
          refine Rn.iconstv (v := 0) dX12_named_91 ic_0 ?_
          refine Rn.aload_n dX12_named_92 rfl ?_
          refine Rn.getR dX12_named_93 fX12_15 rfl (rc149 hR) (show M.2.2 149 3 = some 151 from (rpt3 hR)) ?_
          refine Rn.bipushv (v := 9) dX12_named_96 bp_9 ?_
          refine Rn.iald dX12_named_98 (rc151 hR) (by unfold vp_in; decide) ?_
          refine Rn.topI (y := M.1 151 9) (rfl) ?_
          refine Rn.topI (y := nI (c 3)) (hc 3 (by decide)) ?_
          refine Rn.iload_n dX12_named_99 rfl ?_
          refine Rn.callS4 dX12_named_100 vX12_241 (tX12_found (M := sI M 149 (upd (M.1 149) 0 0)) (a := 164) (fo := 0) (m := c 3) (len := 6) (x := y) (rc164 hR) (by omega) (by decide)) (by decide) ⟨(Nat.le_of_ble_eq_true rfl), (Nat.le_of_ble_eq_true rfl), (Nat.le_of_ble_eq_true rfl)⟩ (fun h => by cases h) (fun v1 ly1 M1 ⟨q1, q2, q3⟩ => ?_)
          rw [q1, q2, q3]
          exact Rn.iret (ty := .int) dX12_named_103 rfl rfl (hQ.2.2.2.2 rfl)
        · skip
          have n0 : Int32.toInt x ≠ 0 := fun h => c0 (Int32.toInt_inj.mp (h.trans (by decide)))
          have n1 : Int32.toInt x ≠ 1 := fun h => c1 (Int32.toInt_inj.mp (h.trans (by decide)))
          have n2 : Int32.toInt x ≠ 2 := fun h => c2 (Int32.toInt_inj.mp (h.trans (by decide)))
          have n3 : Int32.toInt x ≠ 3 := fun h => c3 (Int32.toInt_inj.mp (h.trans (by decide)))
          refine Rn.tableOut (tgt := 104) dX12_named_6 (by omega) (by decide) ?_
          refine Rn.iconstv (v := -1) dX12_named_104 ic_m1 ?_
          exact Rn.iret (ty := .int) dX12_named_105 rfl rfl (hQ.1 (Classical.byContradiction (fun g => by
            have g1 : ¬ x < 0 := fun h => g (Or.inl h)
            have g2 : x < 4 := Int32.not_le.mp (fun h => g (Or.inr h))
            obtain ⟨m, hm, rfl⟩ := nI_of g1
            have g3 : m < 4 := (nI_ltI (a := m) (b := 4) hm (by decide)).mp g2
            rcases (show m = 0 ∨ m = 1 ∨ m = 2 ∨ m = 3 by omega) with rfl | rfl | rfl | rfl
            · exact c0 rfl
            · exact c1 rfl
            · exact c2 rfl
            · exact c3 rfl)))
theorem tX12_look {G : Gx} {l : Launch} {ly : Ly} {M : Mm} {x y : Int32} {nw : Nat} (hw : M.1 151 6 = nI nw ∧ nw ≤ 6) (hR : RW ly M.2.2) {Q : Qt} (hQ : (¬ (∃ j : Nat, j < nw ∧ x = nI j) → Q (some (.int 0)) ly (sI M 149 (upd (M.1 149) 0 1))) ∧ (∀ j : Nat, j < nw → x = nI j → ((y < 0 ∨ 4 < y) → Q (some (.int 0)) ly (sI M 149 (upd (M.1 149) 0 2))) ∧ (y = 0 → Q (some (.int (M.1 177 j))) ly (sI M 149 (upd (M.1 149) 0 0))) ∧ (y = 1 → Q (some (.int (M.1 153 j))) ly (sI M 149 (upd (M.1 149) 0 0))) ∧ (y = 2 → Q (some (.int (M.1 154 j))) ly (sI M 149 (upd (M.1 149) 0 0))) ∧ (y = 3 → Q (some (.int (M.1 178 j))) ly (sI M 149 (upd (M.1 149) 0 0))) ∧ (y = 4 → Q (some (.int (M.1 179 j))) ly (sI M 149 (upd (M.1 149) 0 0))))) : Mt G l mX12_look (2, 0, 0, false) [.ref 149, .int x, .int y] ly M Q := by
  refine Mt.of (lv := [some (.ref 149), some (.int x), some (.int y)]) rfl ?_
  refine Rn.aload_n dX12_look_0 rfl ?_
  refine Rn.aload_n dX12_look_1 rfl ?_
  refine Rn.iload_n dX12_look_2 rfl ?_
  refine Rn.callV1 dX12_look_3 vX12_443 (rc149 hR) (by decide) rfl (tX12_isWalker (M := M) (x := x) hR) (by decide) ⟨(Nat.le_of_ble_eq_true rfl), (Nat.le_of_ble_eq_true rfl), (Nat.le_of_ble_eq_true rfl)⟩ (fun h => by cases h) (fun v1 ly1 M1 ⟨q1, q2, q3⟩ => ?_)
  rw [q1, q2, q3]
  refine Rn.topI (y := inN x (nI nw)) (congrArg (inN x) hw.1) ?_
  rcases inN_1 (x := x) (k := nw) (by omega) with ⟨g1, g2⟩ | ⟨g1, j, hj, rfl⟩
  · skip
    refine Rn.topI (y := 0) (g1) ?_
    refine Rn.if_ne dX12_look_6 (fun h9 => (by first | exact absurd h9 (by decide) | exact absurd (by decide) h9)) (fun h9 => ?_)
    refine Rn.iconstv (v := 1) dX12_look_9 ic_1 ?_
    refine Rn.goto dX12_look_10 ?_
    refine Rn.putI dX12_look_27 fX12_169 rfl rfl rfl (rc149 hR) ?_
    refine Rn.aload_n dX12_look_30 rfl ?_
    refine Rn.getI dX12_look_31 fX12_169 rfl (rc149 hR) ?_
    show Rn G l mX12_look (2, 0, 0, false) 34 [some (.ref 149), some (.int x), some (.int y)] [.int 1] ly (sI M 149 (upd (M.1 149) 0 1)) Q
    refine Rn.if_eq dX12_look_34 (fun h9 => (by first | exact absurd h9 (by decide) | exact absurd (by decide) h9)) (fun h9 => ?_)
    refine Rn.iconstv (v := 0) dX12_look_37 ic_0 ?_
    exact Rn.iret (ty := .int) dX12_look_38 rfl rfl (hQ.1 (fun h => g2 h))
  · skip
    refine Rn.topI (y := 1) (g1) ?_
    have hQ2 := hQ.2 j hj rfl
    refine Rn.if_ne dX12_look_6 (fun h9 => ?_) (fun h9 => (by first | exact absurd h9 (by decide) | exact absurd (by decide) h9))
    refine Rn.iload_n dX12_look_13 rfl ?_
    refine Rn.if_lt dX12_look_14 (fun y0 => ?_) (fun y0 => ?_)
    · skip
      refine Rn.iconstv (v := 2) dX12_look_22 ic_2 ?_
      refine Rn.goto dX12_look_23 ?_
      refine Rn.putI dX12_look_27 fX12_169 rfl rfl rfl (rc149 hR) ?_
      refine Rn.aload_n dX12_look_30 rfl ?_
      refine Rn.getI dX12_look_31 fX12_169 rfl (rc149 hR) ?_
      show Rn G l mX12_look (2, 0, 0, false) 34 [some (.ref 149), some (.int (nI j)), some (.int y)] [.int 2] ly (sI M 149 (upd (M.1 149) 0 2)) Q
      refine Rn.if_eq dX12_look_34 (fun h9 => (by first | exact absurd h9 (by decide) | exact absurd (by decide) h9)) (fun h9 => ?_)
      refine Rn.iconstv (v := 0) dX12_look_37 ic_0 ?_
      exact Rn.iret (ty := .int) dX12_look_38 rfl rfl (hQ2.1 (Or.inl y0))
    · skip
      refine Rn.iload_n dX12_look_17 rfl ?_
      refine Rn.iconstv (v := 4) dX12_look_18 ic_4 ?_
      refine Rn.icmp_le dX12_look_19 (fun y4 => ?_) (fun y4 => ?_)
      · skip
        refine Rn.iconstv (v := 0) dX12_look_26 ic_0 ?_
        refine Rn.putI dX12_look_27 fX12_169 rfl rfl rfl (rc149 hR) ?_
        refine Rn.aload_n dX12_look_30 rfl ?_
        refine Rn.getI dX12_look_31 fX12_169 rfl (rc149 hR) ?_
        show Rn G l mX12_look (2, 0, 0, false) 34 [some (.ref 149), some (.int (nI j)), some (.int y)] [.int 0] ly (sI M 149 (upd (M.1 149) 0 0)) Q
        refine Rn.if_eq dX12_look_34 (fun h9 => ?_) (fun h9 => (by first | exact absurd h9 (by decide) | exact absurd (by decide) h9))
        refine Rn.iload_n dX12_look_39 rfl ?_
        by_cases c0 : y = 0
        · subst c0
          refine Rn.tableIn (off := 32) (tgt := 72) dX12_look_40 (by decide) (by decide) (by decide) (by decide) ?_
          refine Rn.aload_n dX12_look_72 rfl ?_
          refine Rn.getR dX12_look_73 fX12_98 rfl (rc149 hR) (show M.2.2 149 43 = some 177 from (rpt43 hR)) ?_
          refine Rn.iload_n dX12_look_76 rfl ?_
          refine Rn.ialdN (k0 := j) dX12_look_77 (rc177 hR) (by omega) (by decide) ?_
          exact Rn.iret (ty := .int) dX12_look_78 rfl rfl (hQ2.2.1 rfl)
        · skip
          by_cases c1 : y = 1
          · subst c1
            refine Rn.tableIn (off := 39) (tgt := 79) dX12_look_40 (by decide) (by decide) (by decide) (by decide) ?_
            refine Rn.aload_n dX12_look_79 rfl ?_
            refine Rn.getR dX12_look_80 fX12_21 rfl (rc149 hR) (show M.2.2 149 5 = some 153 from (rpt5 hR)) ?_
            refine Rn.iload_n dX12_look_83 rfl ?_
            refine Rn.ialdN (k0 := j) dX12_look_84 (rc153 hR) (by omega) (by decide) ?_
            exact Rn.iret (ty := .int) dX12_look_85 rfl rfl (hQ2.2.2.1 rfl)
          · skip
            by_cases c2 : y = 2
            · subst c2
              refine Rn.tableIn (off := 46) (tgt := 86) dX12_look_40 (by decide) (by decide) (by decide) (by decide) ?_
              refine Rn.aload_n dX12_look_86 rfl ?_
              refine Rn.getR dX12_look_87 fX12_24 rfl (rc149 hR) (show M.2.2 149 6 = some 154 from (rpt6 hR)) ?_
              refine Rn.iload_n dX12_look_90 rfl ?_
              refine Rn.ialdN (k0 := j) dX12_look_91 (rc154 hR) (by omega) (by decide) ?_
              exact Rn.iret (ty := .int) dX12_look_92 rfl rfl (hQ2.2.2.2.1 rfl)
            · skip
              by_cases c3 : y = 3
              · subst c3
                refine Rn.tableIn (off := 53) (tgt := 93) dX12_look_40 (by decide) (by decide) (by decide) (by decide) ?_
                refine Rn.aload_n dX12_look_93 rfl ?_
                refine Rn.getR dX12_look_94 fX12_101 rfl (rc149 hR) (show M.2.2 149 44 = some 178 from (rpt44 hR)) ?_
                refine Rn.iload_n dX12_look_97 rfl ?_
                refine Rn.ialdN (k0 := j) dX12_look_98 (rc178 hR) (by omega) (by decide) ?_
                exact Rn.iret (ty := .int) dX12_look_99 rfl rfl (hQ2.2.2.2.2.1 rfl)
              · skip
                have n0 : Int32.toInt y ≠ 0 := fun h => c0 (Int32.toInt_inj.mp (h.trans (by decide)))
                have n1 : Int32.toInt y ≠ 1 := fun h => c1 (Int32.toInt_inj.mp (h.trans (by decide)))
                have n2 : Int32.toInt y ≠ 2 := fun h => c2 (Int32.toInt_inj.mp (h.trans (by decide)))
                have n3 : Int32.toInt y ≠ 3 := fun h => c3 (Int32.toInt_inj.mp (h.trans (by decide)))
                refine Rn.tableOut (tgt := 100) dX12_look_40 (by omega) (by decide) ?_
                refine Rn.aload_n dX12_look_100 rfl ?_
                refine Rn.getR dX12_look_101 fX12_104 rfl (rc149 hR) (show M.2.2 149 45 = some 179 from (rpt45 hR)) ?_
                refine Rn.iload_n dX12_look_104 rfl ?_
                refine Rn.ialdN (k0 := j) dX12_look_105 (rc179 hR) (by omega) (by decide) ?_
                exact Rn.iret (ty := .int) dX12_look_106 rfl rfl (hQ2.2.2.2.2.2 (by
            obtain ⟨m, hm, rfl⟩ := nI_of y0
            have g3 : m ≤ 4 := (nI_leI (a := m) (b := 4) hm (by decide)).mp y4
            rcases (show m = 0 ∨ m = 1 ∨ m = 2 ∨ m = 3 ∨ m = 4 by omega) with rfl | rfl | rfl | rfl | rfl
            · exact absurd rfl c0
            · exact absurd rfl c1
            · exact absurd rfl c2
            · exact absurd rfl c3
            · rfl))
      · skip
        refine Rn.iconstv (v := 2) dX12_look_22 ic_2 ?_
        refine Rn.goto dX12_look_23 ?_
        refine Rn.putI dX12_look_27 fX12_169 rfl rfl rfl (rc149 hR) ?_
        refine Rn.aload_n dX12_look_30 rfl ?_
        refine Rn.getI dX12_look_31 fX12_169 rfl (rc149 hR) ?_
        show Rn G l mX12_look (2, 0, 0, false) 34 [some (.ref 149), some (.int (nI j)), some (.int y)] [.int 2] ly (sI M 149 (upd (M.1 149) 0 2)) Q
        refine Rn.if_eq dX12_look_34 (fun h9 => (by first | exact absurd h9 (by decide) | exact absurd (by decide) h9)) (fun h9 => ?_)
        refine Rn.iconstv (v := 0) dX12_look_37 ic_0 ?_
        exact Rn.iret (ty := .int) dX12_look_38 rfl rfl (hQ2.1 (Or.inr (Int32.not_le.mp y4)))
