def leafK (x : Int32) : Prop := x = 38 ∨ (19 ≤ x ∧ x ≤ 24)
theorem tX3_readNo {G : Gx} {l : Launch} {ly : Ly} {M : Mm} {pq c : Nat} {x : Int32} (h35 : ¬ x = 35) (hpq : M.2.2 5 1 = some pq) (hpl : ly[pq]? = some (.inr 7)) (hc : M.1 pq 8 = nI c ∧ c ≤ 64) (hno : ¬ ((leafK x ∨ (x = 18 ∧ ¬ M.1 5 8 = 0)) ∧ ¬ (c = 64 ∨ (x = 38 ∧ 9999 < M.1 3 2)))) (hX : XW ly M.2.2) {Q : Qt} (hQ : (¬ leafK x → ¬ (x = 18 ∧ ¬ M.1 5 8 = 0) → Q (some (.int 1)) ly M) ∧ ((leafK x ∨ (x = 18 ∧ ¬ M.1 5 8 = 0)) → (c = 64 ∨ (x = 38 ∧ 9999 < M.1 3 2)) → Q (some (.int 2)) ly M)) : Mt G l mX3_readOperand (2, 0, 0, false) [.ref 5, .int x] ly M Q := by
  refine Mt.of (lv := [some (.ref 5), some (.int x), none]) rfl ?_
  refine Rn.iload_n dX3_readOperand_0 rfl ?_
  refine Rn.bipushv (v := 35) dX3_readOperand_1 bp_35 ?_
  refine Rn.icmp_ne dX3_readOperand_3 (fun g35 => ?_) (fun g35 => ?_)
  · skip
    refine Rn.iload_n dX3_readOperand_11 rfl ?_
    refine Rn.bipushv (v := 38) dX3_readOperand_12 bp_38 ?_
    have join : ∀ lf : Int32, (¬ lf = 0 ↔ leafK x) → Rn G l mX3_readOperand (2, 0, 0, false) 34 [some (.ref 5), some (.int x), none] [.int lf] ly M Q := by
      intro lf hlf
      refine Rn.istore_n (lv' := [some (.ref 5), some (.int x), some (.int lf)]) dX3_readOperand_34 (by decide) rfl ?_
      refine Rn.iload_n dX3_readOperand_35 rfl ?_
      refine Rn.if_ne dX3_readOperand_36 (fun l1 => ?_) (fun l1 => ?_)
      · skip
        refine Rn.aload_n dX3_readOperand_54 rfl ?_
        refine Rn.getR dX3_readOperand_55 fX3_19 rfl (xc5 hX) (show M.2.2 5 1 = some pq from hpq) ?_
        refine Rn.getI dX3_readOperand_58 fX3_72 rfl hpl ?_
        refine Rn.topI (y := nI c) (hc.1) ?_
        refine Rn.bipushv (v := 64) dX3_readOperand_61 bp_64 ?_
        refine Rn.icmp_ge dX3_readOperand_63 (fun r1 => ?_) (fun r1 => ?_)
        · skip
          refine Rn.iconstv (v := 2) dX3_readOperand_85 ic_2 ?_
          exact Rn.iret (ty := .int) dX3_readOperand_86 rfl rfl (hQ.2 (Or.inl (hlf.mp l1)) (Or.inl (by have := (nI_leI (a := 64) (b := c) (by decide) (by omega)).mp r1; omega)))
        · skip
          refine Rn.iload_n dX3_readOperand_66 rfl ?_
          refine Rn.bipushv (v := 38) dX3_readOperand_67 bp_38 ?_
          refine Rn.icmp_ne dX3_readOperand_69 (fun r2 => ?_) (fun r2 => ?_)
          · skip
            exact absurd ⟨(Or.inl (hlf.mp l1)), fun h => h.elim (fun e => r1 (by rw [e]; decide)) (fun h => r2 h.1)⟩ hno
          · skip
            refine Rn.aload_n dX3_readOperand_72 rfl ?_
            refine Rn.getR dX3_readOperand_73 fX3_15 rfl (xc5 hX) (show M.2.2 5 0 = some 3 from (xp5_0 hX)) ?_
            refine Rn.getI dX3_readOperand_76 fX3_77 rfl (xc3 hX) ?_
            refine Rn.sipushv (v := 9999) dX3_readOperand_79 sp_9999 ?_
            refine Rn.icmp_le dX3_readOperand_82 (fun r3 => ?_) (fun r3 => ?_)
            · skip
              exact absurd ⟨(Or.inl (hlf.mp l1)), fun h => h.elim (fun e => r1 (by rw [e]; decide)) (fun h => absurd h.2 (Int32.not_lt.mpr r3))⟩ hno
            · skip
              refine Rn.iconstv (v := 2) dX3_readOperand_85 ic_2 ?_
              exact Rn.iret (ty := .int) dX3_readOperand_86 rfl rfl (hQ.2 (Or.inl (hlf.mp l1)) (Or.inr ⟨r2, Int32.not_le.mp r3⟩))
      · skip
        have nl : ¬ leafK x := fun h => hlf.mpr h l1
        refine Rn.iload_n dX3_readOperand_39 rfl ?_
        refine Rn.bipushv (v := 18) dX3_readOperand_40 bp_18 ?_
        refine Rn.icmp_ne dX3_readOperand_42 (fun n1 => ?_) (fun n1 => ?_)
        · skip
          refine Rn.iconstv (v := 1) dX3_readOperand_52 ic_1 ?_
          exact Rn.iret (ty := .int) dX3_readOperand_53 rfl rfl (hQ.1 nl (fun h => n1 h.1))
        · skip
          refine Rn.aload_n dX3_readOperand_45 rfl ?_
          refine Rn.getI dX3_readOperand_46 fX3_46 rfl (xc5 hX) ?_
          refine Rn.if_ne dX3_readOperand_49 (fun n2 => ?_) (fun n2 => ?_)
          · skip
            refine Rn.aload_n dX3_readOperand_54 rfl ?_
            refine Rn.getR dX3_readOperand_55 fX3_19 rfl (xc5 hX) (show M.2.2 5 1 = some pq from hpq) ?_
            refine Rn.getI dX3_readOperand_58 fX3_72 rfl hpl ?_
            refine Rn.topI (y := nI c) (hc.1) ?_
            refine Rn.bipushv (v := 64) dX3_readOperand_61 bp_64 ?_
            refine Rn.icmp_ge dX3_readOperand_63 (fun r1 => ?_) (fun r1 => ?_)
            · skip
              refine Rn.iconstv (v := 2) dX3_readOperand_85 ic_2 ?_
              exact Rn.iret (ty := .int) dX3_readOperand_86 rfl rfl (hQ.2 (Or.inr ⟨n1, n2⟩) (Or.inl (by have := (nI_leI (a := 64) (b := c) (by decide) (by omega)).mp r1; omega)))
            · skip
              refine Rn.iload_n dX3_readOperand_66 rfl ?_
              refine Rn.bipushv (v := 38) dX3_readOperand_67 bp_38 ?_
              refine Rn.icmp_ne dX3_readOperand_69 (fun r2 => ?_) (fun r2 => ?_)
              · skip
                exact absurd ⟨(Or.inr ⟨n1, n2⟩), fun h => h.elim (fun e => r1 (by rw [e]; decide)) (fun h => r2 h.1)⟩ hno
              · skip
                refine Rn.aload_n dX3_readOperand_72 rfl ?_
                refine Rn.getR dX3_readOperand_73 fX3_15 rfl (xc5 hX) (show M.2.2 5 0 = some 3 from (xp5_0 hX)) ?_
                refine Rn.getI dX3_readOperand_76 fX3_77 rfl (xc3 hX) ?_
                refine Rn.sipushv (v := 9999) dX3_readOperand_79 sp_9999 ?_
                refine Rn.icmp_le dX3_readOperand_82 (fun r3 => ?_) (fun r3 => ?_)
                · skip
                  exact absurd ⟨(Or.inr ⟨n1, n2⟩), fun h => h.elim (fun e => r1 (by rw [e]; decide)) (fun h => absurd h.2 (Int32.not_lt.mpr r3))⟩ hno
                · skip
                  refine Rn.iconstv (v := 2) dX3_readOperand_85 ic_2 ?_
                  exact Rn.iret (ty := .int) dX3_readOperand_86 rfl rfl (hQ.2 (Or.inr ⟨n1, n2⟩) (Or.inr ⟨r2, Int32.not_le.mp r3⟩))
          · skip
            refine Rn.iconstv (v := 1) dX3_readOperand_52 ic_1 ?_
            exact Rn.iret (ty := .int) dX3_readOperand_53 rfl rfl (hQ.1 nl (fun h => h.2 n2))
    refine Rn.icmp_eq dX3_readOperand_14 (fun m1 => ?_) (fun m1 => ?_)
    · skip
      refine Rn.iconstv (v := 1) dX3_readOperand_29 ic_1 ?_
      refine Rn.goto dX3_readOperand_30 ?_
      exact join 1 ⟨fun _ => Or.inl m1, fun _ => by decide⟩
    · skip
      refine Rn.iload_n dX3_readOperand_17 rfl ?_
      refine Rn.bipushv (v := 19) dX3_readOperand_18 bp_19 ?_
      refine Rn.icmp_lt dX3_readOperand_20 (fun m2 => ?_) (fun m2 => ?_)
      · skip
        refine Rn.iconstv (v := 0) dX3_readOperand_33 ic_0 ?_
        exact join 0 ⟨fun h => absurd rfl h, fun h => h.elim (fun h => absurd h m1) (fun h => absurd m2 (Int32.not_lt.mpr h.1))⟩
      · skip
        refine Rn.iload_n dX3_readOperand_23 rfl ?_
        refine Rn.bipushv (v := 24) dX3_readOperand_24 bp_24 ?_
        refine Rn.icmp_gt dX3_readOperand_26 (fun m3 => ?_) (fun m3 => ?_)
        · skip
          refine Rn.iconstv (v := 0) dX3_readOperand_33 ic_0 ?_
          exact join 0 ⟨fun h => absurd rfl h, fun h => h.elim (fun h => absurd h m1) (fun h => absurd m3 (Int32.not_lt.mpr h.2))⟩
        · skip
          refine Rn.iconstv (v := 1) dX3_readOperand_29 ic_1 ?_
          refine Rn.goto dX3_readOperand_30 ?_
          exact join 1 ⟨fun _ => Or.inr ⟨Int32.not_lt.mp m2, Int32.not_lt.mp m3⟩, fun _ => by decide⟩
  · skip
    exact absurd g35 h35
