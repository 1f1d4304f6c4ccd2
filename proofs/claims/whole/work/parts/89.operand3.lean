theorem tX3_readNumber {G : Gx} {l : Launch} {ly : Ly} {M : Mm} {q k : Nat} {pq c : Nat} (hpq : M.2.2 5 1 = some pq) (hp7 : 7 ≤ pq) (hpl : ly[pq]? = some (.inr 7)) (hc : M.1 pq 8 = nI c ∧ c < 64) (hq : lwP ly M.2.2 q) (hqp : q ≠ pq ∧ q + 1 ≠ pq) (hk : M.1 q 0 = nI k ∧ k < 64) (hv : M.1 3 2 ≤ 9999) (hX : XW ly M.2.2) {Q : Qt} (hQ : ∀ K : Mm, K.2.2 = M.2.2 → (∀ a, a ≠ 5 → a ≠ q → a ≠ q + 1 → a ≠ pq → K.1 a = M.1 a) → K.1 (q + 1) = upd (M.1 (q + 1)) k (M.1 3 2) → K.1 q = upd (M.1 q) 0 (nI (k + 1)) → K.1 5 = upd (M.1 5) 7 0 → K.1 pq = upd (M.1 pq) 8 (nI (c + 1)) → Q (some (.int 0)) ly K) : Mt G l mX3_readOperand (2, 0, 0, false) [.ref 5, .int 38] ly M Q := by
  refine Mt.of (lv := [some (.ref 5), some (.int 38), none]) rfl ?_
  obtain ⟨z7, z2, z3, z4, z5⟩ := hq
  refine Rn.iload_n dX3_readOperand_0 rfl ?_
  refine Rn.bipushv (v := 35) dX3_readOperand_1 bp_35 ?_
  refine Rn.icmp_ne dX3_readOperand_3 (fun b1 => ?_) (fun b1 => ?_)
  · skip
    refine Rn.iload_n dX3_readOperand_11 rfl ?_
    refine Rn.bipushv (v := 38) dX3_readOperand_12 bp_38 ?_
    refine Rn.icmp_eq dX3_readOperand_14 (fun b2 => ?_) (fun b2 => ?_)
    · skip
      refine Rn.iconstv (v := 1) dX3_readOperand_29 ic_1 ?_
      refine Rn.goto dX3_readOperand_30 ?_
      refine Rn.istore_n (lv' := [some (.ref 5), some (.int 38), some (.int 1)]) dX3_readOperand_34 (by decide) rfl ?_
      refine Rn.iload_n dX3_readOperand_35 rfl ?_
      refine Rn.if_ne dX3_readOperand_36 (fun b3 => ?_) (fun b3 => ?_)
      · skip
        refine Rn.aload_n dX3_readOperand_54 rfl ?_
        refine Rn.getR dX3_readOperand_55 fX3_19 rfl (xc5 hX) (show M.2.2 5 1 = some pq from hpq) ?_
        refine Rn.getI dX3_readOperand_58 fX3_72 rfl hpl ?_
        refine Rn.topI (y := nI c) (hc.1) ?_
        refine Rn.bipushv (v := 64) dX3_readOperand_61 bp_64 ?_
        refine Rn.icmp_ge dX3_readOperand_63 (fun b4 => ?_) (fun b4 => ?_)
        · skip
          exact absurd ((nI_leI (a := 64) (b := c) (by decide) (by omega)).mp b4) (by omega)
        · skip
          refine Rn.iload_n dX3_readOperand_66 rfl ?_
          refine Rn.bipushv (v := 38) dX3_readOperand_67 bp_38 ?_
          refine Rn.icmp_ne dX3_readOperand_69 (fun b5 => ?_) (fun b5 => ?_)
          · skip
            first | exact absurd b5 (by decide) | exact absurd (by decide) b5
          · skip
            refine Rn.aload_n dX3_readOperand_72 rfl ?_
            refine Rn.getR dX3_readOperand_73 fX3_15 rfl (xc5 hX) (show M.2.2 5 0 = some 3 from (xp5_0 hX)) ?_
            refine Rn.getI dX3_readOperand_76 fX3_77 rfl (xc3 hX) ?_
            refine Rn.sipushv (v := 9999) dX3_readOperand_79 sp_9999 ?_
            refine Rn.icmp_le dX3_readOperand_82 (fun b6 => ?_) (fun b6 => ?_)
            · skip
              refine Rn.aload_n dX3_readOperand_87 rfl ?_
              refine Rn.getR dX3_readOperand_88 fX3_19 rfl (xc5 hX) (show M.2.2 5 1 = some pq from hpq) ?_
              refine Rn.dup dX3_readOperand_91 rfl ?_
              refine Rn.getI dX3_readOperand_92 fX3_72 rfl hpl ?_
              refine Rn.topI (y := nI c) (hc.1) ?_
              refine Rn.iconstv (v := 1) dX3_readOperand_95 ic_1 ?_
              refine Rn.iadd dX3_readOperand_96 ?_
              refine Rn.topI (y := nI (c + 1)) (nI_add c 1) ?_
              refine Rn.putI dX3_readOperand_97 fX3_72 rfl rfl rfl hpl ?_
              refine Rn.iload_n dX3_readOperand_100 rfl ?_
              refine Rn.bipushv (v := 18) dX3_readOperand_101 bp_18 ?_
              refine Rn.icmp_ne dX3_readOperand_103 (fun b7 => ?_) (fun b7 => ?_)
              · skip
                refine Rn.iload_n dX3_readOperand_115 rfl ?_
                refine Rn.bipushv (v := 38) dX3_readOperand_116 bp_38 ?_
                refine Rn.icmp_ne dX3_readOperand_118 (fun b8 => ?_) (fun b8 => ?_)
                · skip
                  first | exact absurd b8 (by decide) | exact absurd (by decide) b8
                · skip
                  refine Rn.aload_n dX3_readOperand_121 rfl ?_
                  refine Rn.getR dX3_readOperand_122 fX3_23 rfl (xc5 hX) (show M.2.2 5 2 = some q from z2) ?_
                  refine Rn.aload_n dX3_readOperand_125 rfl ?_
                  refine Rn.getR dX3_readOperand_126 fX3_15 rfl (xc5 hX) (show M.2.2 5 0 = some 3 from (xp5_0 hX)) ?_
                  refine Rn.getI dX3_readOperand_129 fX3_77 rfl (xc3 hX) ?_
                  refine Rn.topI (y := M.1 3 2) ((congrFun (sI_ne (show 3 ≠ pq by omega)) 2)) ?_
                  refine Rn.callV1 dX3_readOperand_132 vX3_83 z3 (by decide) rfl (tX5_addKnot (M := sI M pq (upd (M.1 pq) 8 (nI (c + 1)))) (q := q) (k := k) (x := M.1 3 2) (Q := fun v0 ly0 K => v0 = none ∧ ly0 = ly ∧ K = sI (sI (sI M pq (upd (M.1 pq) 8 (nI (c + 1)))) (q + 1) (upd ((sI M pq (upd (M.1 pq) 8 (nI (c + 1)))).1 (q + 1)) k (M.1 3 2))) q (upd ((sI M pq (upd (M.1 pq) 8 (nI (c + 1)))).1 q) 0 (nI (k + 1)))) z3 z4 z5 ⟨(congrFun (sI_ne hqp.1) 0).trans hk.1, hk.2⟩ ⟨rfl, rfl, rfl⟩) (by decide) ⟨(Nat.le_of_ble_eq_true rfl), (Nat.le_of_ble_eq_true rfl), (Nat.le_of_ble_eq_true rfl)⟩ (fun h => by cases h) (fun v1 ly1 N1 ⟨q1, q2, q3⟩ => ?_)
                  rw [q1, q2]
                  have fq1 : N1.1 (q + 1) = upd (M.1 (q + 1)) k (M.1 3 2) := by rw [q3, sI_ne (by omega), sI_at, sI_ne hqp.2]
                  have fq : N1.1 q = upd (M.1 q) 0 (nI (k + 1)) := by rw [q3, sI_at, sI_ne hqp.1]
                  have fp : N1.1 pq = upd (M.1 pq) 8 (nI (c + 1)) := by rw [q3, sI_ne hqp.1.symm, sI_ne hqp.2.symm, sI_at]
                  have fo : ∀ a, a ≠ q → a ≠ q + 1 → a ≠ pq → N1.1 a = M.1 a := fun a a1 a2 a3 => by rw [q3, sI_ne a1, sI_ne a2, sI_ne a3]
                  have fr : N1.2.2 = M.2.2 := by rw [q3]; rfl
                  clear q3
                  have hXN1 : XW ly N1.2.2 := by rw [fr]; exact hX
                  refine Rn.goto dX3_readOperand_135 ?_
                  refine Rn.aload_n dX3_readOperand_148 rfl ?_
                  refine Rn.iload_n dX3_readOperand_149 rfl ?_
                  refine Rn.if_ne dX3_readOperand_150 (fun b9 => ?_) (fun b9 => ?_)
                  · skip
                    refine Rn.iconstv (v := 0) dX3_readOperand_157 ic_0 ?_
                    refine Rn.putZ dX3_readOperand_158 fX3_42 rfl rfl rfl (by decide) (xc5 hXN1) ?_
                    refine Rn.iconstv (v := 0) dX3_readOperand_161 ic_0 ?_
                    refine Rn.iret (ty := .int) dX3_readOperand_162 rfl rfl (hQ _ fr (fun a a1 a2 a3 a4 => (sI_ne a1).trans (fo a a2 a3 a4)) ((sI_ne (by omega)).trans fq1) ((sI_ne (by omega)).trans fq) ?_ ((sI_ne (by omega)).trans fp))
                    rw [sI_at, fo 5 (by omega) (by omega) (by omega)]
                  · skip
                    first | exact absurd b9 (by decide) | exact absurd (by decide) b9
              · skip
                first | exact absurd b7 (by decide) | exact absurd (by decide) b7
            · skip
              exact absurd hv b6
      · skip
        first | exact absurd b3 (by decide) | exact absurd (by decide) b3
    · skip
      first | exact absurd b2 (by decide) | exact absurd (by decide) b2
  · skip
    first | exact absurd b1 (by decide) | exact absurd (by decide) b1
theorem tX3_readName {G : Gx} {l : Launch} {ly : Ly} {M : Mm} {q k : Nat} {pq c : Nat} (hpq : M.2.2 5 1 = some pq) (hp7 : 7 ≤ pq) (hpl : ly[pq]? = some (.inr 7)) (hc : M.1 pq 8 = nI c ∧ c < 64) (hq : lwP ly M.2.2 q) (hqp : q ≠ pq ∧ q + 1 ≠ pq) (hk : M.1 q 0 = nI k ∧ k < 64) {x : Int32} (hx : 19 ≤ x ∧ x ≤ 24) (hX : XW ly M.2.2) {Q : Qt} (hQ : ∀ K : Mm, K.2.2 = M.2.2 → (∀ a, a ≠ 5 → a ≠ q → a ≠ q + 1 → a ≠ pq → K.1 a = M.1 a) → K.1 (q + 1) = upd (M.1 (q + 1)) k (-1 - x) → K.1 q = upd (M.1 q) 0 (nI (k + 1)) → K.1 5 = upd (M.1 5) 7 0 → K.1 pq = upd (M.1 pq) 8 (nI (c + 1)) → Q (some (.int 0)) ly K) : Mt G l mX3_readOperand (2, 0, 0, false) [.ref 5, .int x] ly M Q := by
  refine Mt.of (lv := [some (.ref 5), some (.int x), none]) rfl ?_
  obtain ⟨z7, z2, z3, z4, z5⟩ := hq
  refine Rn.iload_n dX3_readOperand_0 rfl ?_
  refine Rn.bipushv (v := 35) dX3_readOperand_1 bp_35 ?_
  refine Rn.icmp_ne dX3_readOperand_3 (fun b1 => ?_) (fun b1 => ?_)
  · skip
    refine Rn.iload_n dX3_readOperand_11 rfl ?_
    refine Rn.bipushv (v := 38) dX3_readOperand_12 bp_38 ?_
    refine Rn.icmp_eq dX3_readOperand_14 (fun b2 => ?_) (fun b2 => ?_)
    · skip
      exact absurd (show x ≤ 24 from hx.2) (by rw [b2]; decide)
    · skip
      refine Rn.iload_n dX3_readOperand_17 rfl ?_
      refine Rn.bipushv (v := 19) dX3_readOperand_18 bp_19 ?_
      refine Rn.icmp_lt dX3_readOperand_20 (fun b3 => ?_) (fun b3 => ?_)
      · skip
        exact absurd b3 (Int32.not_lt.mpr hx.1)
      · skip
        refine Rn.iload_n dX3_readOperand_23 rfl ?_
        refine Rn.bipushv (v := 24) dX3_readOperand_24 bp_24 ?_
        refine Rn.icmp_gt dX3_readOperand_26 (fun b4 => ?_) (fun b4 => ?_)
        · skip
          exact absurd b4 (Int32.not_lt.mpr hx.2)
        · skip
          refine Rn.iconstv (v := 1) dX3_readOperand_29 ic_1 ?_
          refine Rn.goto dX3_readOperand_30 ?_
          refine Rn.istore_n (lv' := [some (.ref 5), some (.int x), some (.int 1)]) dX3_readOperand_34 (by decide) rfl ?_
          refine Rn.iload_n dX3_readOperand_35 rfl ?_
          refine Rn.if_ne dX3_readOperand_36 (fun b5 => ?_) (fun b5 => ?_)
          · skip
            refine Rn.aload_n dX3_readOperand_54 rfl ?_
            refine Rn.getR dX3_readOperand_55 fX3_19 rfl (xc5 hX) (show M.2.2 5 1 = some pq from hpq) ?_
            refine Rn.getI dX3_readOperand_58 fX3_72 rfl hpl ?_
            refine Rn.topI (y := nI c) (hc.1) ?_
            refine Rn.bipushv (v := 64) dX3_readOperand_61 bp_64 ?_
            refine Rn.icmp_ge dX3_readOperand_63 (fun b6 => ?_) (fun b6 => ?_)
            · skip
              exact absurd ((nI_leI (a := 64) (b := c) (by decide) (by omega)).mp b6) (by omega)
            · skip
              refine Rn.iload_n dX3_readOperand_66 rfl ?_
              refine Rn.bipushv (v := 38) dX3_readOperand_67 bp_38 ?_
              refine Rn.icmp_ne dX3_readOperand_69 (fun b7 => ?_) (fun b7 => ?_)
              · skip
                refine Rn.aload_n dX3_readOperand_87 rfl ?_
                refine Rn.getR dX3_readOperand_88 fX3_19 rfl (xc5 hX) (show M.2.2 5 1 = some pq from hpq) ?_
                refine Rn.dup dX3_readOperand_91 rfl ?_
                refine Rn.getI dX3_readOperand_92 fX3_72 rfl hpl ?_
                refine Rn.topI (y := nI c) (hc.1) ?_
                refine Rn.iconstv (v := 1) dX3_readOperand_95 ic_1 ?_
                refine Rn.iadd dX3_readOperand_96 ?_
                refine Rn.topI (y := nI (c + 1)) (nI_add c 1) ?_
                refine Rn.putI dX3_readOperand_97 fX3_72 rfl rfl rfl hpl ?_
                refine Rn.iload_n dX3_readOperand_100 rfl ?_
                refine Rn.bipushv (v := 18) dX3_readOperand_101 bp_18 ?_
                refine Rn.icmp_ne dX3_readOperand_103 (fun b8 => ?_) (fun b8 => ?_)
                · skip
                  refine Rn.iload_n dX3_readOperand_115 rfl ?_
                  refine Rn.bipushv (v := 38) dX3_readOperand_116 bp_38 ?_
                  refine Rn.icmp_ne dX3_readOperand_118 (fun b9 => ?_) (fun b9 => ?_)
                  · skip
                    refine Rn.aload_n dX3_readOperand_138 rfl ?_
                    refine Rn.getR dX3_readOperand_139 fX3_23 rfl (xc5 hX) (show M.2.2 5 2 = some q from z2) ?_
                    refine Rn.iconstv (v := -1) dX3_readOperand_142 ic_m1 ?_
                    refine Rn.iload_n dX3_readOperand_143 rfl ?_
                    refine Rn.isub dX3_readOperand_144 ?_
                    refine Rn.callV1 dX3_readOperand_145 vX3_83 z3 (by decide) rfl (tX5_addKnot (M := sI M pq (upd (M.1 pq) 8 (nI (c + 1)))) (q := q) (k := k) (x := -1 - x) (Q := fun v0 ly0 K => v0 = none ∧ ly0 = ly ∧ K = sI (sI (sI M pq (upd (M.1 pq) 8 (nI (c + 1)))) (q + 1) (upd ((sI M pq (upd (M.1 pq) 8 (nI (c + 1)))).1 (q + 1)) k (-1 - x))) q (upd ((sI M pq (upd (M.1 pq) 8 (nI (c + 1)))).1 q) 0 (nI (k + 1)))) z3 z4 z5 ⟨(congrFun (sI_ne hqp.1) 0).trans hk.1, hk.2⟩ ⟨rfl, rfl, rfl⟩) (by decide) ⟨(Nat.le_of_ble_eq_true rfl), (Nat.le_of_ble_eq_true rfl), (Nat.le_of_ble_eq_true rfl)⟩ (fun h => by cases h) (fun v1 ly1 N1 ⟨q1, q2, q3⟩ => ?_)
                    rw [q1, q2]
                    have fq1 : N1.1 (q + 1) = upd (M.1 (q + 1)) k (-1 - x) := by rw [q3, sI_ne (by omega), sI_at, sI_ne hqp.2]
                    have fq : N1.1 q = upd (M.1 q) 0 (nI (k + 1)) := by rw [q3, sI_at, sI_ne hqp.1]
                    have fp : N1.1 pq = upd (M.1 pq) 8 (nI (c + 1)) := by rw [q3, sI_ne hqp.1.symm, sI_ne hqp.2.symm, sI_at]
                    have fo : ∀ a, a ≠ q → a ≠ q + 1 → a ≠ pq → N1.1 a = M.1 a := fun a a1 a2 a3 => by rw [q3, sI_ne a1, sI_ne a2, sI_ne a3]
                    have fr : N1.2.2 = M.2.2 := by rw [q3]; rfl
                    clear q3
                    have hXN1 : XW ly N1.2.2 := by rw [fr]; exact hX
                    refine Rn.aload_n dX3_readOperand_148 rfl ?_
                    refine Rn.iload_n dX3_readOperand_149 rfl ?_
                    refine Rn.if_ne dX3_readOperand_150 (fun b10 => ?_) (fun b10 => ?_)
                    · skip
                      refine Rn.iconstv (v := 0) dX3_readOperand_157 ic_0 ?_
                      refine Rn.putZ dX3_readOperand_158 fX3_42 rfl rfl rfl (by decide) (xc5 hXN1) ?_
                      refine Rn.iconstv (v := 0) dX3_readOperand_161 ic_0 ?_
                      refine Rn.iret (ty := .int) dX3_readOperand_162 rfl rfl (hQ _ fr (fun a a1 a2 a3 a4 => (sI_ne a1).trans (fo a a2 a3 a4)) ((sI_ne (by omega)).trans fq1) ((sI_ne (by omega)).trans fq) ?_ ((sI_ne (by omega)).trans fp))
                      rw [sI_at, fo 5 (by omega) (by omega) (by omega)]
                    · skip
                      first | exact absurd b10 (by decide) | exact absurd (by decide) b10
                  · skip
                    exact absurd (show x ≤ 24 from hx.2) (by rw [b9]; decide)
                · skip
                  exact absurd (show 19 ≤ x from hx.1) (by rw [b8]; decide)
              · skip
                exact absurd (show x ≤ 24 from hx.2) (by rw [b7]; decide)
          · skip
            first | exact absurd b5 (by decide) | exact absurd (by decide) b5
  · skip
    exact absurd (show x ≤ 24 from hx.2) (by rw [b1]; decide)
