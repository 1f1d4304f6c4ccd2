theorem tX3_readNot {G : Gx} {l : Launch} {ly : Ly} {M : Mm} {k : Nat} {pq c : Nat} (hpq : M.2.2 5 1 = some pq) (hp7 : 7 ≤ pq) (hpl : ly[pq]? = some (.inr 7)) (hc : M.1 pq 8 = nI c ∧ c < 64) (h8 : ¬ M.1 5 8 = 0) (hk : M.1 5 4 = nI k ∧ k < 72) (hX : XW ly M.2.2) {Q : Qt} (hQ : ∀ K : Mm, K.2.2 = M.2.2 → (∀ a, a ≠ 5 → a ≠ 6 → a ≠ pq → K.1 a = M.1 a) → K.1 6 = upd (M.1 6) k 18 → K.1 5 4 = nI (k + 1) → K.1 5 7 = 1 → (∀ j, j ≠ 4 → j ≠ 7 → K.1 5 j = M.1 5 j) → K.1 pq = upd (M.1 pq) 8 (nI (c + 1)) → Q (some (.int 0)) ly K) : Mt G l mX3_readOperand (2, 0, 0, false) [.ref 5, .int 18] ly M Q := by
  refine Mt.of (lv := [some (.ref 5), some (.int 18), none]) rfl ?_
  refine Rn.iload_n dX3_readOperand_0 rfl ?_
  refine Rn.bipushv (v := 35) dX3_readOperand_1 bp_35 ?_
  refine Rn.icmp_ne dX3_readOperand_3 (fun b1 => ?_) (fun b1 => ?_)
  · skip
    refine Rn.iload_n dX3_readOperand_11 rfl ?_
    refine Rn.bipushv (v := 38) dX3_readOperand_12 bp_38 ?_
    refine Rn.icmp_eq dX3_readOperand_14 (fun b2 => ?_) (fun b2 => ?_)
    · skip
      first | exact absurd b2 (by decide) | exact absurd (by decide) b2
    · skip
      refine Rn.iload_n dX3_readOperand_17 rfl ?_
      refine Rn.bipushv (v := 19) dX3_readOperand_18 bp_19 ?_
      refine Rn.icmp_lt dX3_readOperand_20 (fun b3 => ?_) (fun b3 => ?_)
      · skip
        refine Rn.iconstv (v := 0) dX3_readOperand_33 ic_0 ?_
        refine Rn.istore_n (lv' := [some (.ref 5), some (.int 18), some (.int 0)]) dX3_readOperand_34 (by decide) rfl ?_
        refine Rn.iload_n dX3_readOperand_35 rfl ?_
        refine Rn.if_ne dX3_readOperand_36 (fun b4 => ?_) (fun b4 => ?_)
        · skip
          first | exact absurd b4 (by decide) | exact absurd (by decide) b4
        · skip
          refine Rn.iload_n dX3_readOperand_39 rfl ?_
          refine Rn.bipushv (v := 18) dX3_readOperand_40 bp_18 ?_
          refine Rn.icmp_ne dX3_readOperand_42 (fun b5 => ?_) (fun b5 => ?_)
          · skip
            first | exact absurd b5 (by decide) | exact absurd (by decide) b5
          · skip
            refine Rn.aload_n dX3_readOperand_45 rfl ?_
            refine Rn.getI dX3_readOperand_46 fX3_46 rfl (xc5 hX) ?_
            refine Rn.if_ne dX3_readOperand_49 (fun b6 => ?_) (fun b6 => ?_)
            · skip
              refine Rn.aload_n dX3_readOperand_54 rfl ?_
              refine Rn.getR dX3_readOperand_55 fX3_19 rfl (xc5 hX) (show M.2.2 5 1 = some pq from hpq) ?_
              refine Rn.getI dX3_readOperand_58 fX3_72 rfl hpl ?_
              refine Rn.topI (y := nI c) (hc.1) ?_
              refine Rn.bipushv (v := 64) dX3_readOperand_61 bp_64 ?_
              refine Rn.icmp_ge dX3_readOperand_63 (fun b7 => ?_) (fun b7 => ?_)
              · skip
                exact absurd ((nI_leI (a := 64) (b := c) (by decide) (by omega)).mp b7) (by omega)
              · skip
                refine Rn.iload_n dX3_readOperand_66 rfl ?_
                refine Rn.bipushv (v := 38) dX3_readOperand_67 bp_38 ?_
                refine Rn.icmp_ne dX3_readOperand_69 (fun b8 => ?_) (fun b8 => ?_)
                · skip
                  refine Rn.aload_n dX3_readOperand_87 rfl ?_
                  refine Rn.getR dX3_readOperand_88 fX3_19 rfl (xc5 hX) (show M.2.2 5 1 = some pq from hpq) ?_
                  refine Rn.dup dX3_readOperand_91 rfl ?_
                  refine Rn.getI dX3_readOperand_92 fX3_72 rfl hpl ?_
                  refine Rn.topI (y := nI c) (hc.1) ?_
                  refine Rn.iconstv (v := 1) dX3_readOperand_95 ic_1 ?_
                  refine Rn.iadd dX3_readOperand_96 ?_
                  refine Rn.topI (y := nI (c + 1)) (nI_add c 1) ?_
                  refine Rn.putI dX3_readOperand_97 fX3_72 rfl rfl rfl hpl ?_
                  refine Rn.iload_n dX3_readOperand_100 rfl ?_
                  refine Rn.bipushv (v := 18) dX3_readOperand_101 bp_18 ?_
                  refine Rn.icmp_ne dX3_readOperand_103 (fun b9 => ?_) (fun b9 => ?_)
                  · skip
                    first | exact absurd b9 (by decide) | exact absurd (by decide) b9
                  · skip
                    refine Rn.aload_n dX3_readOperand_106 rfl ?_
                    refine Rn.bipushv (v := 18) dX3_readOperand_107 bp_18 ?_
                    refine Rn.callV1 dX3_readOperand_109 vX3_80 (xc5 hX) (by decide) rfl (tX3_await (M := sI M pq (upd (M.1 pq) 8 (nI (c + 1)))) (k := k) (x := 18) (Q := fun v0 ly0 K => v0 = none ∧ ly0 = ly ∧ K = sI (sI (sI M pq (upd (M.1 pq) 8 (nI (c + 1)))) 6 (upd ((sI M pq (upd (M.1 pq) 8 (nI (c + 1)))).1 6) k 18)) 5 (upd ((sI M pq (upd (M.1 pq) 8 (nI (c + 1)))).1 5) 4 (nI (k + 1)))) ⟨(congrFun (sI_ne (by omega)) 4).trans hk.1, hk.2⟩ hX ⟨rfl, rfl, rfl⟩) (by decide) ⟨(Nat.le_of_ble_eq_true rfl), (Nat.le_of_ble_eq_true rfl), (Nat.le_of_ble_eq_true rfl)⟩ (fun h => by cases h) (fun v1 ly1 N1 ⟨q1, q2, q3⟩ => ?_)
                    rw [q1, q2]
                    have f5 : N1.1 5 = upd (M.1 5) 4 (nI (k + 1)) := by rw [q3, sI_at, sI_ne (show 5 ≠ pq by omega)]
                    have f6 : N1.1 6 = upd (M.1 6) k 18 := by rw [q3, sI_ne (by decide), sI_at, sI_ne (show 6 ≠ pq by omega)]
                    have fp : N1.1 pq = upd (M.1 pq) 8 (nI (c + 1)) := by rw [q3, sI_ne (by omega), sI_ne (by omega), sI_at]
                    have fo : ∀ a, a ≠ 5 → a ≠ 6 → a ≠ pq → N1.1 a = M.1 a := fun a a1 a2 a3 => by rw [q3, sI_ne a1, sI_ne a2, sI_ne a3]
                    have fr : N1.2.2 = M.2.2 := by rw [q3]; rfl
                    clear q3
                    have hXN1 : XW ly N1.2.2 := by rw [fr]; exact hX
                    refine Rn.goto dX3_readOperand_112 ?_
                    refine Rn.aload_n dX3_readOperand_148 rfl ?_
                    refine Rn.iload_n dX3_readOperand_149 rfl ?_
                    refine Rn.if_ne dX3_readOperand_150 (fun b10 => ?_) (fun b10 => ?_)
                    · skip
                      first | exact absurd b10 (by decide) | exact absurd (by decide) b10
                    · skip
                      refine Rn.iconstv (v := 1) dX3_readOperand_153 ic_1 ?_
                      refine Rn.goto dX3_readOperand_154 ?_
                      refine Rn.putZ dX3_readOperand_158 fX3_42 rfl rfl rfl (by decide) (xc5 hXN1) ?_
                      refine Rn.iconstv (v := 0) dX3_readOperand_161 ic_0 ?_
                      refine Rn.iret (ty := .int) dX3_readOperand_162 rfl rfl (hQ _ fr (fun a a1 a2 a3 => (sI_ne a1).trans (fo a a1 a2 a3)) ((sI_ne (by decide)).trans f6) ?_ rfl (fun j j1 j2 => ?_) ((sI_ne (by omega)).trans fp))
                      · show upd (N1.1 5) 7 1 4 = _
                        rw [pk_un (by decide), f5]; exact pk_us
                      · show upd (N1.1 5) 7 1 j = _
                        rw [pk_un j2, f5, pk_un j1]
                · skip
                  first | exact absurd b8 (by decide) | exact absurd (by decide) b8
            · skip
              exact absurd b6 h8
      · skip
        first | exact absurd b3 (by decide) | exact absurd (by decide) b3
  · skip
    first | exact absurd b1 (by decide) | exact absurd (by decide) b1
