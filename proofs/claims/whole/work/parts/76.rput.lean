theorem tX12_fresh {G : Gx} {l : Launch} {ly : Ly} {M : Mm} {n i a fo m len : Nat} (h : RD M n i) (ha : ly[a]? = some (.inl (0, len))) (hm : fo + m ≤ len) (hl : len ≤ 100) (hR : RW ly M.2.2) {Q : Qt} (hQ : (¬ M.1 149 29 = 0 → Q (some (.int 0)) ly M) ∧ (M.1 149 29 = 0 → ¬ M.1 149 27 = 1 → Q (some (.int 0)) ly (wrM M 1)) ∧ (M.1 149 29 = 0 → M.1 149 27 = 1 → ¬ wdF (fun j => decide (M.1 a (fo + j) = M.1 149 28)) m 0 = -1 → Q (some (.int 0)) ly (wrM M 3)) ∧ (M.1 149 29 = 0 → M.1 149 27 = 1 → wdF (fun j => decide (M.1 a (fo + j) = M.1 149 28)) m 0 = -1 → ∀ K, tkF M K → RD K n (nx (M.1 150) n i) → Q (some (.int (M.1 149 28))) ly K)) : Mt G l mX12_fresh (7, 0, 0, false) [.ref 149, .ref a, .int (nI fo), .int (nI m)] ly M Q := by
  refine Mt.of (lv := [some (.ref 149), some (.ref a), some (.int (nI fo)), some (.int (nI m)), none]) rfl ?_
  refine Rn.aload_n dX12_fresh_0 rfl ?_
  refine Rn.getI dX12_fresh_1 fX12_222 rfl (rc149 hR) ?_
  refine Rn.if_eq dX12_fresh_4 (fun g0 => ?_) (fun g0 => ?_)
  · skip
    refine Rn.aload_n dX12_fresh_9 rfl ?_
    refine Rn.getI dX12_fresh_10 fX12_188 rfl (rc149 hR) ?_
    refine Rn.iconstv (v := 1) dX12_fresh_13 ic_1 ?_
    refine Rn.icmp_eq dX12_fresh_14 (fun g1 => ?_) (fun g1 => ?_)
    · skip
      refine Rn.aload_n dX12_fresh_25 rfl ?_
      refine Rn.iload_n dX12_fresh_26 rfl ?_
      refine Rn.iload_n dX12_fresh_27 rfl ?_
      refine Rn.aload_n dX12_fresh_28 rfl ?_
      refine Rn.getI dX12_fresh_29 fX12_198 rfl (rc149 hR) ?_
      refine Rn.callS4 dX12_fresh_32 vX12_241 (tX12_found (M := M) (a := a) (fo := fo) (m := m) (x := M.1 149 28) ha hm hl) (by decide) ⟨(Nat.le_of_ble_eq_true rfl), (Nat.le_of_ble_eq_true rfl), (Nat.le_of_ble_eq_true rfl)⟩ (fun h => by cases h) (fun v1 ly1 M1 ⟨q1, q2, q3⟩ => ?_)
      rw [q1, q2, q3]
      refine Rn.iconstv (v := -1) dX12_fresh_35 ic_m1 ?_
      refine Rn.icmp_eq dX12_fresh_36 (fun g2 => ?_) (fun g2 => ?_)
      · skip
        refine Rn.aload_n dX12_fresh_44 rfl ?_
        refine Rn.getI dX12_fresh_45 fX12_222 rfl (rc149 hR) ?_
        refine Rn.if_eq dX12_fresh_48 (fun t1 => ?_) (fun t1 => ?_)
        · skip
          refine Rn.aload_n dX12_fresh_53 rfl ?_
          refine Rn.getI dX12_fresh_54 fX12_198 rfl (rc149 hR) ?_
          refine Rn.istore (lv' := [some (.ref 149), some (.ref a), some (.int (nI fo)), some (.int (nI m)), some (.int (M.1 149 28))]) dX12_fresh_57 (by decide) rfl ?_
          refine Rn.aload_n dX12_fresh_59 rfl ?_
          refine Rn.callV0 dX12_fresh_60 vX12_228 (rc149 hR) (by decide) rfl (rdTok (M := M) (n := n) (i := i) (Q := fun v0 ly0 K => v0 = none ∧ ly0 = ly ∧ tkF M K ∧ RD K n (nx (M.1 150) n i)) h hR (fun K t1 t2 => ⟨rfl, rfl, t1, t2⟩)) (by decide) ⟨(Nat.le_of_ble_eq_true rfl), (Nat.le_of_ble_eq_true rfl), (Nat.le_of_ble_eq_true rfl)⟩ (fun h => by cases h) (fun v1 ly1 N1 ⟨q1, q2, t3, t4⟩ => ?_)
          rw [q1, q2]
          refine Rn.iload dX12_fresh_63 rfl ?_
          exact Rn.iret (ty := .int) dX12_fresh_65 rfl rfl (hQ.2.2.2 g0 g1 g2 N1 t3 t4)
        · skip
          exact absurd g0 t1
      · skip
        refine Rn.aload_n dX12_fresh_39 rfl ?_
        refine Rn.iconstv (v := 3) dX12_fresh_40 ic_3 ?_
        refine Rn.callV1 dX12_fresh_41 vX12_231 (rc149 hR) (by decide) rfl (rdWrong (M := M) (x := 3) g0 hR) (by decide) ⟨(Nat.le_of_ble_eq_true rfl), (Nat.le_of_ble_eq_true rfl), (Nat.le_of_ble_eq_true rfl)⟩ (fun h => by cases h) (fun v1 ly1 M1 ⟨q1, q2, q3⟩ => ?_)
        rw [q1, q2, q3]
        show Rn G l mX12_fresh (7, 0, 0, false) 44 [some (.ref 149), some (.ref a), some (.int (nI fo)), some (.int (nI m)), none] [] ly (sI M 149 (upd (upd (M.1 149) 29 3) 30 (M.1 149 26))) Q
        refine Rn.aload_n dX12_fresh_44 rfl ?_
        refine Rn.getI dX12_fresh_45 fX12_222 rfl (rc149 hR) ?_
        refine Rn.if_eq dX12_fresh_48 (fun t1 => ?_) (fun t1 => ?_)
        · skip
          exact absurd (show (3 : Int32) = 0 from t1) (by decide)
        · skip
          refine Rn.iconstv (v := 0) dX12_fresh_51 ic_0 ?_
          exact Rn.iret (ty := .int) dX12_fresh_52 rfl rfl (hQ.2.2.1 g0 g1 g2)
    · skip
      refine Rn.aload_n dX12_fresh_17 rfl ?_
      refine Rn.iconstv (v := 1) dX12_fresh_18 ic_1 ?_
      refine Rn.callV1 dX12_fresh_19 vX12_231 (rc149 hR) (by decide) rfl (rdWrong (M := M) (x := 1) g0 hR) (by decide) ⟨(Nat.le_of_ble_eq_true rfl), (Nat.le_of_ble_eq_true rfl), (Nat.le_of_ble_eq_true rfl)⟩ (fun h => by cases h) (fun v1 ly1 M1 ⟨q1, q2, q3⟩ => ?_)
      rw [q1, q2, q3]
      show Rn G l mX12_fresh (7, 0, 0, false) 22 [some (.ref 149), some (.ref a), some (.int (nI fo)), some (.int (nI m)), none] [] ly (sI M 149 (upd (upd (M.1 149) 29 1) 30 (M.1 149 26))) Q
      refine Rn.goto dX12_fresh_22 ?_
      refine Rn.aload_n dX12_fresh_44 rfl ?_
      refine Rn.getI dX12_fresh_45 fX12_222 rfl (rc149 hR) ?_
      refine Rn.if_eq dX12_fresh_48 (fun t1 => ?_) (fun t1 => ?_)
      · skip
        exact absurd (show (1 : Int32) = 0 from t1) (by decide)
      · skip
        refine Rn.iconstv (v := 0) dX12_fresh_51 ic_0 ?_
        exact Rn.iret (ty := .int) dX12_fresh_52 rfl rfl (hQ.2.1 g0 g1)
  · skip
    refine Rn.iconstv (v := 0) dX12_fresh_7 ic_0 ?_
    exact Rn.iret (ty := .int) dX12_fresh_8 rfl rfl (hQ.1 g0)
theorem tX12_puts {G : Gx} {l : Launch} {ly : Ly} {M : Mm} {k : Nat} {x y : Int32} (hk : M.1 151 25 = nI k ∧ k < 64) (hR : RW ly M.2.2) {Q : Qt} (hQ : (¬ M.1 149 29 = 0 → Q none ly M) ∧ (M.1 149 29 = 0 → Q none ly (sI (sI (sI M 167 (upd (M.1 167) (64 + k) x)) 168 (upd (M.1 168) (64 + k) y)) 151 (upd (M.1 151) 25 (nI (k + 1)))))) : Mt G l mX12_puts (1, 0, 0, false) [.ref 149, .int x, .int y] ly M Q := by
  refine Mt.of (lv := [some (.ref 149), some (.int x), some (.int y)]) rfl ?_
  refine Rn.aload_n dX12_puts_0 rfl ?_
  refine Rn.getI dX12_puts_1 fX12_222 rfl (rc149 hR) ?_
  refine Rn.if_eq dX12_puts_4 (fun g0 => ?_) (fun g0 => ?_)
  · skip
    refine Rn.aload_n dX12_puts_8 rfl ?_
    refine Rn.getR dX12_puts_9 fX12_63 rfl (rc149 hR) (show M.2.2 149 19 = some 167 from (rpt19 hR)) ?_
    refine Rn.bipushv (v := 64) dX12_puts_12 bp_64 ?_
    refine Rn.aload_n dX12_puts_14 rfl ?_
    refine Rn.bipushv (v := 12) dX12_puts_15 bp_12 ?_
    refine Rn.callV1 dX12_puts_17 vX12_245 (rc149 hR) (by decide) rfl (tX12_fresher (M := M) (k := 12) (by decide) hR) (by decide) ⟨(Nat.le_of_ble_eq_true rfl), (Nat.le_of_ble_eq_true rfl), (Nat.le_of_ble_eq_true rfl)⟩ (fun h => by cases h) (fun v1 ly1 M1 ⟨q1, q2, q3⟩ => ?_)
    rw [q1, q2, q3]
    refine Rn.topI (y := nI k) (hk.1) ?_
    refine Rn.iadd dX12_puts_20 ?_
    refine Rn.topI (y := nI (64 + k)) (nI_add 64 k) ?_
    refine Rn.iload_n dX12_puts_21 rfl ?_
    refine Rn.iastN (k0 := (64 + k)) dX12_puts_22 (rc167 hR) (by omega) (by decide) ?_
    refine Rn.aload_n dX12_puts_23 rfl ?_
    refine Rn.getR dX12_puts_24 fX12_66 rfl (rc149 hR) (show M.2.2 149 20 = some 168 from (rpt20 hR)) ?_
    refine Rn.bipushv (v := 64) dX12_puts_27 bp_64 ?_
    refine Rn.aload_n dX12_puts_29 rfl ?_
    refine Rn.bipushv (v := 12) dX12_puts_30 bp_12 ?_
    refine Rn.callV1 dX12_puts_32 vX12_245 (rc149 hR) (by decide) rfl (tX12_fresher (M := sI M 167 (upd (M.1 167) (64 + k) x)) (k := 12) (by decide) hR) (by decide) ⟨(Nat.le_of_ble_eq_true rfl), (Nat.le_of_ble_eq_true rfl), (Nat.le_of_ble_eq_true rfl)⟩ (fun h => by cases h) (fun v1 ly1 M1 ⟨q1, q2, q3⟩ => ?_)
    rw [q1, q2, q3]
    refine Rn.topI (y := nI k) (hk.1) ?_
    refine Rn.iadd dX12_puts_35 ?_
    refine Rn.topI (y := nI (64 + k)) (nI_add 64 k) ?_
    refine Rn.iload_n dX12_puts_36 rfl ?_
    refine Rn.iastN (k0 := (64 + k)) dX12_puts_37 (rc168 hR) (by omega) (by decide) ?_
    refine Rn.aload_n dX12_puts_38 rfl ?_
    refine Rn.bipushv (v := 12) dX12_puts_39 bp_12 ?_
    refine Rn.aload_n dX12_puts_41 rfl ?_
    refine Rn.bipushv (v := 12) dX12_puts_42 bp_12 ?_
    refine Rn.callV1 dX12_puts_44 vX12_245 (rc149 hR) (by decide) rfl (tX12_fresher (M := sI (sI M 167 (upd (M.1 167) (64 + k) x)) 168 (upd (M.1 168) (64 + k) y)) (k := 12) (by decide) hR) (by decide) ⟨(Nat.le_of_ble_eq_true rfl), (Nat.le_of_ble_eq_true rfl), (Nat.le_of_ble_eq_true rfl)⟩ (fun h => by cases h) (fun v1 ly1 M1 ⟨q1, q2, q3⟩ => ?_)
    rw [q1, q2, q3]
    refine Rn.topI (y := nI k) (hk.1) ?_
    refine Rn.iconstv (v := 1) dX12_puts_47 ic_1 ?_
    refine Rn.iadd dX12_puts_48 ?_
    refine Rn.topI (y := nI (k + 1)) (nI_add k 1) ?_
    refine Rn.callV2 dX12_puts_49 vX12_265 (rc149 hR) (by decide) rfl (tX12_reads (M := sI (sI M 167 (upd (M.1 167) (64 + k) x)) 168 (upd (M.1 168) (64 + k) y)) (k := 12) (x := nI (k + 1)) (by decide) hR) (by decide) ⟨(Nat.le_of_ble_eq_true rfl), (Nat.le_of_ble_eq_true rfl), (Nat.le_of_ble_eq_true rfl)⟩ (fun h => by cases h) (fun v1 ly1 M1 ⟨q1, q2, q3⟩ => ?_)
    rw [q1, q2, q3]
    show Rn G l mX12_puts (1, 0, 0, false) 52 [some (.ref 149), some (.int x), some (.int y)] [] ly (sI (sI (sI M 167 (upd (M.1 167) (64 + k) x)) 168 (upd (M.1 168) (64 + k) y)) 151 (upd (M.1 151) 25 (nI (k + 1)))) Q
    exact Rn.vret dX12_puts_52 rfl (hQ.2 g0)
  · skip
    exact Rn.vret dX12_puts_7 rfl (hQ.1 g0)
theorem tX12_isFull {G : Gx} {l : Launch} {ly : Ly} {M : Mm} {x : Int32} (hR : RW ly M.2.2) : Mt G l mX12_isFull (1, 0, 0, false) [.ref 149, .int x] ly M (Is (some (.int (if (x = 4 ∧ M.1 151 19 = 6) ∨ (x = 5 ∧ M.1 151 20 = 4) ∨ (x = 6 ∧ M.1 151 21 = 4) ∨ (x = 9 ∧ M.1 151 22 = 3) then 1 else 0))) ly M) := by
  refine Mt.is (fun Q hQ => ?_)
  refine Mt.of (lv := [some (.ref 149), some (.int x)]) rfl ?_
  refine Rn.iload_n dX12_isFull_0 rfl ?_
  refine Rn.iconstv (v := 4) dX12_isFull_1 ic_4 ?_
  refine Rn.icmp_ne dX12_isFull_2 (fun a0 => ?_) (fun a0 => ?_)
  · skip
    refine Rn.iload_n dX12_isFull_16 rfl ?_
    refine Rn.iconstv (v := 5) dX12_isFull_17 ic_5 ?_
    refine Rn.icmp_ne dX12_isFull_18 (fun a1 => ?_) (fun a1 => ?_)
    · skip
      refine Rn.iload_n dX12_isFull_31 rfl ?_
      refine Rn.bipushv (v := 6) dX12_isFull_32 bp_6 ?_
      refine Rn.icmp_ne dX12_isFull_34 (fun a2 => ?_) (fun a2 => ?_)
      · skip
        refine Rn.iload_n dX12_isFull_47 rfl ?_
        refine Rn.bipushv (v := 9) dX12_isFull_48 bp_9 ?_
        refine Rn.icmp_ne dX12_isFull_50 (fun a3 => ?_) (fun a3 => ?_)
        · skip
          refine Rn.iconstv (v := 0) dX12_isFull_67 ic_0 ?_
          rw [if_neg (fun e => e.elim (fun e => a0 e.1) (fun e => e.elim (fun e => a1 e.1) (fun e => e.elim (fun e => a2 e.1) (fun e => (fun e => a3 e.1) e))))] at hQ
          exact Rn.iret (ty := .boolean) dX12_isFull_68 rfl rfl hQ
        · skip
          refine Rn.aload_n dX12_isFull_53 rfl ?_
          refine Rn.bipushv (v := 9) dX12_isFull_54 bp_9 ?_
          refine Rn.callV1 dX12_isFull_56 vX12_245 (rc149 hR) (by decide) rfl (tX12_fresher (M := M) (k := 9) (by decide) hR) (by decide) ⟨(Nat.le_of_ble_eq_true rfl), (Nat.le_of_ble_eq_true rfl), (Nat.le_of_ble_eq_true rfl)⟩ (fun h => by cases h) (fun v1 ly1 M1 ⟨q1, q2, q3⟩ => ?_)
          rw [q1, q2, q3]
          refine Rn.iconstv (v := 3) dX12_isFull_59 ic_3 ?_
          refine Rn.icmp_ne dX12_isFull_60 (fun b3 => ?_) (fun b3 => ?_)
          · skip
            refine Rn.iconstv (v := 0) dX12_isFull_67 ic_0 ?_
            rw [if_neg (fun e => e.elim (fun e => a0 e.1) (fun e => e.elim (fun e => a1 e.1) (fun e => e.elim (fun e => a2 e.1) (fun e => (fun e => b3 e.2) e))))] at hQ
            exact Rn.iret (ty := .boolean) dX12_isFull_68 rfl rfl hQ
          · skip
            refine Rn.iconstv (v := 1) dX12_isFull_63 ic_1 ?_
            refine Rn.goto dX12_isFull_64 ?_
            rw [if_pos (Or.inr (Or.inr (Or.inr (⟨a3, b3⟩))))] at hQ
            exact Rn.iret (ty := .boolean) dX12_isFull_68 rfl rfl hQ
      · skip
        refine Rn.aload_n dX12_isFull_37 rfl ?_
        refine Rn.bipushv (v := 8) dX12_isFull_38 bp_8 ?_
        refine Rn.callV1 dX12_isFull_40 vX12_245 (rc149 hR) (by decide) rfl (tX12_fresher (M := M) (k := 8) (by decide) hR) (by decide) ⟨(Nat.le_of_ble_eq_true rfl), (Nat.le_of_ble_eq_true rfl), (Nat.le_of_ble_eq_true rfl)⟩ (fun h => by cases h) (fun v1 ly1 M1 ⟨q1, q2, q3⟩ => ?_)
        rw [q1, q2, q3]
        refine Rn.iconstv (v := 4) dX12_isFull_43 ic_4 ?_
        refine Rn.icmp_eq dX12_isFull_44 (fun b2 => ?_) (fun b2 => ?_)
        · skip
          refine Rn.iconstv (v := 1) dX12_isFull_63 ic_1 ?_
          refine Rn.goto dX12_isFull_64 ?_
          rw [if_pos (Or.inr (Or.inr (Or.inl ⟨a2, b2⟩)))] at hQ
          exact Rn.iret (ty := .boolean) dX12_isFull_68 rfl rfl hQ
        · skip
          refine Rn.iload_n dX12_isFull_47 rfl ?_
          refine Rn.bipushv (v := 9) dX12_isFull_48 bp_9 ?_
          refine Rn.icmp_ne dX12_isFull_50 (fun a3 => ?_) (fun a3 => ?_)
          · skip
            refine Rn.iconstv (v := 0) dX12_isFull_67 ic_0 ?_
            rw [if_neg (fun e => e.elim (fun e => a0 e.1) (fun e => e.elim (fun e => a1 e.1) (fun e => e.elim (fun e => b2 e.2) (fun e => (fun e => a3 e.1) e))))] at hQ
            exact Rn.iret (ty := .boolean) dX12_isFull_68 rfl rfl hQ
          · skip
            refine Rn.aload_n dX12_isFull_53 rfl ?_
            refine Rn.bipushv (v := 9) dX12_isFull_54 bp_9 ?_
            refine Rn.callV1 dX12_isFull_56 vX12_245 (rc149 hR) (by decide) rfl (tX12_fresher (M := M) (k := 9) (by decide) hR) (by decide) ⟨(Nat.le_of_ble_eq_true rfl), (Nat.le_of_ble_eq_true rfl), (Nat.le_of_ble_eq_true rfl)⟩ (fun h => by cases h) (fun v1 ly1 M1 ⟨q1, q2, q3⟩ => ?_)
            rw [q1, q2, q3]
            refine Rn.iconstv (v := 3) dX12_isFull_59 ic_3 ?_
            refine Rn.icmp_ne dX12_isFull_60 (fun b3 => ?_) (fun b3 => ?_)
            · skip
              refine Rn.iconstv (v := 0) dX12_isFull_67 ic_0 ?_
              rw [if_neg (fun e => e.elim (fun e => a0 e.1) (fun e => e.elim (fun e => a1 e.1) (fun e => e.elim (fun e => b2 e.2) (fun e => (fun e => b3 e.2) e))))] at hQ
              exact Rn.iret (ty := .boolean) dX12_isFull_68 rfl rfl hQ
            · skip
              refine Rn.iconstv (v := 1) dX12_isFull_63 ic_1 ?_
              refine Rn.goto dX12_isFull_64 ?_
              rw [if_pos (Or.inr (Or.inr (Or.inr (⟨a3, b3⟩))))] at hQ
              exact Rn.iret (ty := .boolean) dX12_isFull_68 rfl rfl hQ
    · skip
      refine Rn.aload_n dX12_isFull_21 rfl ?_
      refine Rn.bipushv (v := 7) dX12_isFull_22 bp_7 ?_
      refine Rn.callV1 dX12_isFull_24 vX12_245 (rc149 hR) (by decide) rfl (tX12_fresher (M := M) (k := 7) (by decide) hR) (by decide) ⟨(Nat.le_of_ble_eq_true rfl), (Nat.le_of_ble_eq_true rfl), (Nat.le_of_ble_eq_true rfl)⟩ (fun h => by cases h) (fun v1 ly1 M1 ⟨q1, q2, q3⟩ => ?_)
      rw [q1, q2, q3]
      refine Rn.iconstv (v := 4) dX12_isFull_27 ic_4 ?_
      refine Rn.icmp_eq dX12_isFull_28 (fun b1 => ?_) (fun b1 => ?_)
      · skip
        refine Rn.iconstv (v := 1) dX12_isFull_63 ic_1 ?_
        refine Rn.goto dX12_isFull_64 ?_
        rw [if_pos (Or.inr (Or.inl ⟨a1, b1⟩))] at hQ
        exact Rn.iret (ty := .boolean) dX12_isFull_68 rfl rfl hQ
      · skip
        refine Rn.iload_n dX12_isFull_31 rfl ?_
        refine Rn.bipushv (v := 6) dX12_isFull_32 bp_6 ?_
        refine Rn.icmp_ne dX12_isFull_34 (fun a2 => ?_) (fun a2 => ?_)
        · skip
          refine Rn.iload_n dX12_isFull_47 rfl ?_
          refine Rn.bipushv (v := 9) dX12_isFull_48 bp_9 ?_
          refine Rn.icmp_ne dX12_isFull_50 (fun a3 => ?_) (fun a3 => ?_)
          · skip
            refine Rn.iconstv (v := 0) dX12_isFull_67 ic_0 ?_
            rw [if_neg (fun e => e.elim (fun e => a0 e.1) (fun e => e.elim (fun e => b1 e.2) (fun e => e.elim (fun e => a2 e.1) (fun e => (fun e => a3 e.1) e))))] at hQ
            exact Rn.iret (ty := .boolean) dX12_isFull_68 rfl rfl hQ
          · skip
            refine Rn.aload_n dX12_isFull_53 rfl ?_
            refine Rn.bipushv (v := 9) dX12_isFull_54 bp_9 ?_
            refine Rn.callV1 dX12_isFull_56 vX12_245 (rc149 hR) (by decide) rfl (tX12_fresher (M := M) (k := 9) (by decide) hR) (by decide) ⟨(Nat.le_of_ble_eq_true rfl), (Nat.le_of_ble_eq_true rfl), (Nat.le_of_ble_eq_true rfl)⟩ (fun h => by cases h) (fun v1 ly1 M1 ⟨q1, q2, q3⟩ => ?_)
            rw [q1, q2, q3]
            refine Rn.iconstv (v := 3) dX12_isFull_59 ic_3 ?_
            refine Rn.icmp_ne dX12_isFull_60 (fun b3 => ?_) (fun b3 => ?_)
            · skip
              refine Rn.iconstv (v := 0) dX12_isFull_67 ic_0 ?_
              rw [if_neg (fun e => e.elim (fun e => a0 e.1) (fun e => e.elim (fun e => b1 e.2) (fun e => e.elim (fun e => a2 e.1) (fun e => (fun e => b3 e.2) e))))] at hQ
              exact Rn.iret (ty := .boolean) dX12_isFull_68 rfl rfl hQ
            · skip
              refine Rn.iconstv (v := 1) dX12_isFull_63 ic_1 ?_
              refine Rn.goto dX12_isFull_64 ?_
              rw [if_pos (Or.inr (Or.inr (Or.inr (⟨a3, b3⟩))))] at hQ
              exact Rn.iret (ty := .boolean) dX12_isFull_68 rfl rfl hQ
        · skip
          refine Rn.aload_n dX12_isFull_37 rfl ?_
          refine Rn.bipushv (v := 8) dX12_isFull_38 bp_8 ?_
          refine Rn.callV1 dX12_isFull_40 vX12_245 (rc149 hR) (by decide) rfl (tX12_fresher (M := M) (k := 8) (by decide) hR) (by decide) ⟨(Nat.le_of_ble_eq_true rfl), (Nat.le_of_ble_eq_true rfl), (Nat.le_of_ble_eq_true rfl)⟩ (fun h => by cases h) (fun v1 ly1 M1 ⟨q1, q2, q3⟩ => ?_)
          rw [q1, q2, q3]
          refine Rn.iconstv (v := 4) dX12_isFull_43 ic_4 ?_
          refine Rn.icmp_eq dX12_isFull_44 (fun b2 => ?_) (fun b2 => ?_)
          · skip
            refine Rn.iconstv (v := 1) dX12_isFull_63 ic_1 ?_
            refine Rn.goto dX12_isFull_64 ?_
            rw [if_pos (Or.inr (Or.inr (Or.inl ⟨a2, b2⟩)))] at hQ
            exact Rn.iret (ty := .boolean) dX12_isFull_68 rfl rfl hQ
          · skip
            refine Rn.iload_n dX12_isFull_47 rfl ?_
            refine Rn.bipushv (v := 9) dX12_isFull_48 bp_9 ?_
            refine Rn.icmp_ne dX12_isFull_50 (fun a3 => ?_) (fun a3 => ?_)
            · skip
              refine Rn.iconstv (v := 0) dX12_isFull_67 ic_0 ?_
              rw [if_neg (fun e => e.elim (fun e => a0 e.1) (fun e => e.elim (fun e => b1 e.2) (fun e => e.elim (fun e => b2 e.2) (fun e => (fun e => a3 e.1) e))))] at hQ
              exact Rn.iret (ty := .boolean) dX12_isFull_68 rfl rfl hQ
            · skip
              refine Rn.aload_n dX12_isFull_53 rfl ?_
              refine Rn.bipushv (v := 9) dX12_isFull_54 bp_9 ?_
              refine Rn.callV1 dX12_isFull_56 vX12_245 (rc149 hR) (by decide) rfl (tX12_fresher (M := M) (k := 9) (by decide) hR) (by decide) ⟨(Nat.le_of_ble_eq_true rfl), (Nat.le_of_ble_eq_true rfl), (Nat.le_of_ble_eq_true rfl)⟩ (fun h => by cases h) (fun v1 ly1 M1 ⟨q1, q2, q3⟩ => ?_)
              rw [q1, q2, q3]
              refine Rn.iconstv (v := 3) dX12_isFull_59 ic_3 ?_
              refine Rn.icmp_ne dX12_isFull_60 (fun b3 => ?_) (fun b3 => ?_)
              · skip
                refine Rn.iconstv (v := 0) dX12_isFull_67 ic_0 ?_
                rw [if_neg (fun e => e.elim (fun e => a0 e.1) (fun e => e.elim (fun e => b1 e.2) (fun e => e.elim (fun e => b2 e.2) (fun e => (fun e => b3 e.2) e))))] at hQ
                exact Rn.iret (ty := .boolean) dX12_isFull_68 rfl rfl hQ
              · skip
                refine Rn.iconstv (v := 1) dX12_isFull_63 ic_1 ?_
                refine Rn.goto dX12_isFull_64 ?_
                rw [if_pos (Or.inr (Or.inr (Or.inr (⟨a3, b3⟩))))] at hQ
                exact Rn.iret (ty := .boolean) dX12_isFull_68 rfl rfl hQ
  · skip
    refine Rn.aload_n dX12_isFull_5 rfl ?_
    refine Rn.bipushv (v := 6) dX12_isFull_6 bp_6 ?_
    refine Rn.callV1 dX12_isFull_8 vX12_245 (rc149 hR) (by decide) rfl (tX12_fresher (M := M) (k := 6) (by decide) hR) (by decide) ⟨(Nat.le_of_ble_eq_true rfl), (Nat.le_of_ble_eq_true rfl), (Nat.le_of_ble_eq_true rfl)⟩ (fun h => by cases h) (fun v1 ly1 M1 ⟨q1, q2, q3⟩ => ?_)
    rw [q1, q2, q3]
    refine Rn.bipushv (v := 6) dX12_isFull_11 bp_6 ?_
    refine Rn.icmp_eq dX12_isFull_13 (fun b0 => ?_) (fun b0 => ?_)
    · skip
      refine Rn.iconstv (v := 1) dX12_isFull_63 ic_1 ?_
      refine Rn.goto dX12_isFull_64 ?_
      rw [if_pos (Or.inl ⟨a0, b0⟩)] at hQ
      exact Rn.iret (ty := .boolean) dX12_isFull_68 rfl rfl hQ
    · skip
      refine Rn.iload_n dX12_isFull_16 rfl ?_
      refine Rn.iconstv (v := 5) dX12_isFull_17 ic_5 ?_
      refine Rn.icmp_ne dX12_isFull_18 (fun a1 => ?_) (fun a1 => ?_)
      · skip
        refine Rn.iload_n dX12_isFull_31 rfl ?_
        refine Rn.bipushv (v := 6) dX12_isFull_32 bp_6 ?_
        refine Rn.icmp_ne dX12_isFull_34 (fun a2 => ?_) (fun a2 => ?_)
        · skip
          refine Rn.iload_n dX12_isFull_47 rfl ?_
          refine Rn.bipushv (v := 9) dX12_isFull_48 bp_9 ?_
          refine Rn.icmp_ne dX12_isFull_50 (fun a3 => ?_) (fun a3 => ?_)
          · skip
            refine Rn.iconstv (v := 0) dX12_isFull_67 ic_0 ?_
            rw [if_neg (fun e => e.elim (fun e => b0 e.2) (fun e => e.elim (fun e => a1 e.1) (fun e => e.elim (fun e => a2 e.1) (fun e => (fun e => a3 e.1) e))))] at hQ
            exact Rn.iret (ty := .boolean) dX12_isFull_68 rfl rfl hQ
          · skip
            refine Rn.aload_n dX12_isFull_53 rfl ?_
            refine Rn.bipushv (v := 9) dX12_isFull_54 bp_9 ?_
            refine Rn.callV1 dX12_isFull_56 vX12_245 (rc149 hR) (by decide) rfl (tX12_fresher (M := M) (k := 9) (by decide) hR) (by decide) ⟨(Nat.le_of_ble_eq_true rfl), (Nat.le_of_ble_eq_true rfl), (Nat.le_of_ble_eq_true rfl)⟩ (fun h => by cases h) (fun v1 ly1 M1 ⟨q1, q2, q3⟩ => ?_)
            rw [q1, q2, q3]
            refine Rn.iconstv (v := 3) dX12_isFull_59 ic_3 ?_
            refine Rn.icmp_ne dX12_isFull_60 (fun b3 => ?_) (fun b3 => ?_)
            · skip
              refine Rn.iconstv (v := 0) dX12_isFull_67 ic_0 ?_
              rw [if_neg (fun e => e.elim (fun e => b0 e.2) (fun e => e.elim (fun e => a1 e.1) (fun e => e.elim (fun e => a2 e.1) (fun e => (fun e => b3 e.2) e))))] at hQ
              exact Rn.iret (ty := .boolean) dX12_isFull_68 rfl rfl hQ
            · skip
              refine Rn.iconstv (v := 1) dX12_isFull_63 ic_1 ?_
              refine Rn.goto dX12_isFull_64 ?_
              rw [if_pos (Or.inr (Or.inr (Or.inr (⟨a3, b3⟩))))] at hQ
              exact Rn.iret (ty := .boolean) dX12_isFull_68 rfl rfl hQ
        · skip
          refine Rn.aload_n dX12_isFull_37 rfl ?_
          refine Rn.bipushv (v := 8) dX12_isFull_38 bp_8 ?_
          refine Rn.callV1 dX12_isFull_40 vX12_245 (rc149 hR) (by decide) rfl (tX12_fresher (M := M) (k := 8) (by decide) hR) (by decide) ⟨(Nat.le_of_ble_eq_true rfl), (Nat.le_of_ble_eq_true rfl), (Nat.le_of_ble_eq_true rfl)⟩ (fun h => by cases h) (fun v1 ly1 M1 ⟨q1, q2, q3⟩ => ?_)
          rw [q1, q2, q3]
          refine Rn.iconstv (v := 4) dX12_isFull_43 ic_4 ?_
          refine Rn.icmp_eq dX12_isFull_44 (fun b2 => ?_) (fun b2 => ?_)
          · skip
            refine Rn.iconstv (v := 1) dX12_isFull_63 ic_1 ?_
            refine Rn.goto dX12_isFull_64 ?_
            rw [if_pos (Or.inr (Or.inr (Or.inl ⟨a2, b2⟩)))] at hQ
            exact Rn.iret (ty := .boolean) dX12_isFull_68 rfl rfl hQ
          · skip
            refine Rn.iload_n dX12_isFull_47 rfl ?_
            refine Rn.bipushv (v := 9) dX12_isFull_48 bp_9 ?_
            refine Rn.icmp_ne dX12_isFull_50 (fun a3 => ?_) (fun a3 => ?_)
            · skip
              refine Rn.iconstv (v := 0) dX12_isFull_67 ic_0 ?_
              rw [if_neg (fun e => e.elim (fun e => b0 e.2) (fun e => e.elim (fun e => a1 e.1) (fun e => e.elim (fun e => b2 e.2) (fun e => (fun e => a3 e.1) e))))] at hQ
              exact Rn.iret (ty := .boolean) dX12_isFull_68 rfl rfl hQ
            · skip
              refine Rn.aload_n dX12_isFull_53 rfl ?_
              refine Rn.bipushv (v := 9) dX12_isFull_54 bp_9 ?_
              refine Rn.callV1 dX12_isFull_56 vX12_245 (rc149 hR) (by decide) rfl (tX12_fresher (M := M) (k := 9) (by decide) hR) (by decide) ⟨(Nat.le_of_ble_eq_true rfl), (Nat.le_of_ble_eq_true rfl), (Nat.le_of_ble_eq_true rfl)⟩ (fun h => by cases h) (fun v1 ly1 M1 ⟨q1, q2, q3⟩ => ?_)
              rw [q1, q2, q3]
              refine Rn.iconstv (v := 3) dX12_isFull_59 ic_3 ?_
              refine Rn.icmp_ne dX12_isFull_60 (fun b3 => ?_) (fun b3 => ?_)
              · skip
                refine Rn.iconstv (v := 0) dX12_isFull_67 ic_0 ?_
                rw [if_neg (fun e => e.elim (fun e => b0 e.2) (fun e => e.elim (fun e => a1 e.1) (fun e => e.elim (fun e => b2 e.2) (fun e => (fun e => b3 e.2) e))))] at hQ
                exact Rn.iret (ty := .boolean) dX12_isFull_68 rfl rfl hQ
              · skip
                refine Rn.iconstv (v := 1) dX12_isFull_63 ic_1 ?_
                refine Rn.goto dX12_isFull_64 ?_
                rw [if_pos (Or.inr (Or.inr (Or.inr (⟨a3, b3⟩))))] at hQ
                exact Rn.iret (ty := .boolean) dX12_isFull_68 rfl rfl hQ
      · skip
        refine Rn.aload_n dX12_isFull_21 rfl ?_
        refine Rn.bipushv (v := 7) dX12_isFull_22 bp_7 ?_
        refine Rn.callV1 dX12_isFull_24 vX12_245 (rc149 hR) (by decide) rfl (tX12_fresher (M := M) (k := 7) (by decide) hR) (by decide) ⟨(Nat.le_of_ble_eq_true rfl), (Nat.le_of_ble_eq_true rfl), (Nat.le_of_ble_eq_true rfl)⟩ (fun h => by cases h) (fun v1 ly1 M1 ⟨q1, q2, q3⟩ => ?_)
        rw [q1, q2, q3]
        refine Rn.iconstv (v := 4) dX12_isFull_27 ic_4 ?_
        refine Rn.icmp_eq dX12_isFull_28 (fun b1 => ?_) (fun b1 => ?_)
        · skip
          refine Rn.iconstv (v := 1) dX12_isFull_63 ic_1 ?_
          refine Rn.goto dX12_isFull_64 ?_
          rw [if_pos (Or.inr (Or.inl ⟨a1, b1⟩))] at hQ
          exact Rn.iret (ty := .boolean) dX12_isFull_68 rfl rfl hQ
        · skip
          refine Rn.iload_n dX12_isFull_31 rfl ?_
          refine Rn.bipushv (v := 6) dX12_isFull_32 bp_6 ?_
          refine Rn.icmp_ne dX12_isFull_34 (fun a2 => ?_) (fun a2 => ?_)
          · skip
            refine Rn.iload_n dX12_isFull_47 rfl ?_
            refine Rn.bipushv (v := 9) dX12_isFull_48 bp_9 ?_
            refine Rn.icmp_ne dX12_isFull_50 (fun a3 => ?_) (fun a3 => ?_)
            · skip
              refine Rn.iconstv (v := 0) dX12_isFull_67 ic_0 ?_
              rw [if_neg (fun e => e.elim (fun e => b0 e.2) (fun e => e.elim (fun e => b1 e.2) (fun e => e.elim (fun e => a2 e.1) (fun e => (fun e => a3 e.1) e))))] at hQ
              exact Rn.iret (ty := .boolean) dX12_isFull_68 rfl rfl hQ
            · skip
              refine Rn.aload_n dX12_isFull_53 rfl ?_
              refine Rn.bipushv (v := 9) dX12_isFull_54 bp_9 ?_
              refine Rn.callV1 dX12_isFull_56 vX12_245 (rc149 hR) (by decide) rfl (tX12_fresher (M := M) (k := 9) (by decide) hR) (by decide) ⟨(Nat.le_of_ble_eq_true rfl), (Nat.le_of_ble_eq_true rfl), (Nat.le_of_ble_eq_true rfl)⟩ (fun h => by cases h) (fun v1 ly1 M1 ⟨q1, q2, q3⟩ => ?_)
              rw [q1, q2, q3]
              refine Rn.iconstv (v := 3) dX12_isFull_59 ic_3 ?_
              refine Rn.icmp_ne dX12_isFull_60 (fun b3 => ?_) (fun b3 => ?_)
              · skip
                refine Rn.iconstv (v := 0) dX12_isFull_67 ic_0 ?_
                rw [if_neg (fun e => e.elim (fun e => b0 e.2) (fun e => e.elim (fun e => b1 e.2) (fun e => e.elim (fun e => a2 e.1) (fun e => (fun e => b3 e.2) e))))] at hQ
                exact Rn.iret (ty := .boolean) dX12_isFull_68 rfl rfl hQ
              · skip
                refine Rn.iconstv (v := 1) dX12_isFull_63 ic_1 ?_
                refine Rn.goto dX12_isFull_64 ?_
                rw [if_pos (Or.inr (Or.inr (Or.inr (⟨a3, b3⟩))))] at hQ
                exact Rn.iret (ty := .boolean) dX12_isFull_68 rfl rfl hQ
          · skip
            refine Rn.aload_n dX12_isFull_37 rfl ?_
            refine Rn.bipushv (v := 8) dX12_isFull_38 bp_8 ?_
            refine Rn.callV1 dX12_isFull_40 vX12_245 (rc149 hR) (by decide) rfl (tX12_fresher (M := M) (k := 8) (by decide) hR) (by decide) ⟨(Nat.le_of_ble_eq_true rfl), (Nat.le_of_ble_eq_true rfl), (Nat.le_of_ble_eq_true rfl)⟩ (fun h => by cases h) (fun v1 ly1 M1 ⟨q1, q2, q3⟩ => ?_)
            rw [q1, q2, q3]
            refine Rn.iconstv (v := 4) dX12_isFull_43 ic_4 ?_
            refine Rn.icmp_eq dX12_isFull_44 (fun b2 => ?_) (fun b2 => ?_)
            · skip
              refine Rn.iconstv (v := 1) dX12_isFull_63 ic_1 ?_
              refine Rn.goto dX12_isFull_64 ?_
              rw [if_pos (Or.inr (Or.inr (Or.inl ⟨a2, b2⟩)))] at hQ
              exact Rn.iret (ty := .boolean) dX12_isFull_68 rfl rfl hQ
            · skip
              refine Rn.iload_n dX12_isFull_47 rfl ?_
              refine Rn.bipushv (v := 9) dX12_isFull_48 bp_9 ?_
              refine Rn.icmp_ne dX12_isFull_50 (fun a3 => ?_) (fun a3 => ?_)
              · skip
                refine Rn.iconstv (v := 0) dX12_isFull_67 ic_0 ?_
                rw [if_neg (fun e => e.elim (fun e => b0 e.2) (fun e => e.elim (fun e => b1 e.2) (fun e => e.elim (fun e => b2 e.2) (fun e => (fun e => a3 e.1) e))))] at hQ
                exact Rn.iret (ty := .boolean) dX12_isFull_68 rfl rfl hQ
              · skip
                refine Rn.aload_n dX12_isFull_53 rfl ?_
                refine Rn.bipushv (v := 9) dX12_isFull_54 bp_9 ?_
                refine Rn.callV1 dX12_isFull_56 vX12_245 (rc149 hR) (by decide) rfl (tX12_fresher (M := M) (k := 9) (by decide) hR) (by decide) ⟨(Nat.le_of_ble_eq_true rfl), (Nat.le_of_ble_eq_true rfl), (Nat.le_of_ble_eq_true rfl)⟩ (fun h => by cases h) (fun v1 ly1 M1 ⟨q1, q2, q3⟩ => ?_)
                rw [q1, q2, q3]
                refine Rn.iconstv (v := 3) dX12_isFull_59 ic_3 ?_
                refine Rn.icmp_ne dX12_isFull_60 (fun b3 => ?_) (fun b3 => ?_)
                · skip
                  refine Rn.iconstv (v := 0) dX12_isFull_67 ic_0 ?_
                  rw [if_neg (fun e => e.elim (fun e => b0 e.2) (fun e => e.elim (fun e => b1 e.2) (fun e => e.elim (fun e => b2 e.2) (fun e => (fun e => b3 e.2) e))))] at hQ
                  exact Rn.iret (ty := .boolean) dX12_isFull_68 rfl rfl hQ
                · skip
                  refine Rn.iconstv (v := 1) dX12_isFull_63 ic_1 ?_
                  refine Rn.goto dX12_isFull_64 ?_
                  rw [if_pos (Or.inr (Or.inr (Or.inr (⟨a3, b3⟩))))] at hQ
                  exact Rn.iret (ty := .boolean) dX12_isFull_68 rfl rfl hQ
