/-- a fault of the kind k at the token at hand -/
def wrM (M : Mm) (k : Int32) : Mm := sI M 149 (upd (upd (M.1 149) 29 k) 30 (M.1 149 26))
theorem rdWrong {G : Gx} {l : Launch} {ly : Ly} {M : Mm} {x : Int32} (h0 : M.1 149 29 = 0) (hR : RW ly M.2.2) : Mt G l mX12_wrong (0, 0, 0, false) [.ref 149, .int x] ly M (Is none ly (wrM M x)) := tX12_wrong hR ⟨fun h => absurd h0 h, fun _ => ⟨rfl, rfl, rfl⟩⟩
theorem tX12_numeralAtHand {G : Gx} {l : Launch} {ly : Ly} {M : Mm} {x y : Int32} (hR : RW ly M.2.2) {Q : Qt} (hQ : (¬ M.1 149 29 = 0 → Q (some (.int x)) ly M) ∧ (M.1 149 29 = 0 → ¬ M.1 149 27 = 2 → Q (some (.int x)) ly (wrM M 1)) ∧ (M.1 149 29 = 0 → M.1 149 27 = 2 → (M.1 149 28 < x ∨ y < M.1 149 28) → Q (some (.int x)) ly (wrM M 2)) ∧ (M.1 149 29 = 0 → M.1 149 27 = 2 → x ≤ M.1 149 28 → M.1 149 28 ≤ y → Q (some (.int (M.1 149 28))) ly M)) : Mt G l mX12_numeralAtHand (1, 0, 0, false) [.ref 149, .int x, .int y] ly M Q := by
  refine Mt.of (lv := [some (.ref 149), some (.int x), some (.int y)]) rfl ?_
  refine Rn.aload_n dX12_numeralAtHand_0 rfl ?_
  refine Rn.getI dX12_numeralAtHand_1 fX12_222 rfl (rc149 hR) ?_
  refine Rn.if_eq dX12_numeralAtHand_4 (fun g0 => ?_) (fun g0 => ?_)
  · skip
    refine Rn.aload_n dX12_numeralAtHand_9 rfl ?_
    refine Rn.getI dX12_numeralAtHand_10 fX12_188 rfl (rc149 hR) ?_
    refine Rn.iconstv (v := 2) dX12_numeralAtHand_13 ic_2 ?_
    refine Rn.icmp_eq dX12_numeralAtHand_14 (fun g1 => ?_) (fun g1 => ?_)
    · skip
      refine Rn.aload_n dX12_numeralAtHand_25 rfl ?_
      refine Rn.getI dX12_numeralAtHand_26 fX12_198 rfl (rc149 hR) ?_
      refine Rn.iload_n dX12_numeralAtHand_29 rfl ?_
      refine Rn.icmp_lt dX12_numeralAtHand_30 (fun g2 => ?_) (fun g2 => ?_)
      · skip
        have gb : M.1 149 28 < x ∨ y < M.1 149 28 := Or.inl g2
        refine Rn.aload_n dX12_numeralAtHand_41 rfl ?_
        refine Rn.iconstv (v := 2) dX12_numeralAtHand_42 ic_2 ?_
        refine Rn.callV1 dX12_numeralAtHand_43 vX12_231 (rc149 hR) (by decide) rfl (rdWrong (M := M) (x := 2) g0 hR) (by decide) ⟨(Nat.le_of_ble_eq_true rfl), (Nat.le_of_ble_eq_true rfl), (Nat.le_of_ble_eq_true rfl)⟩ (fun h => by cases h) (fun v1 ly1 M1 ⟨q1, q2, q3⟩ => ?_)
        rw [q1, q2, q3]
        show Rn G l mX12_numeralAtHand (1, 0, 0, false) 46 [some (.ref 149), some (.int x), some (.int y)] [] ly (sI M 149 (upd (upd (M.1 149) 29 2) 30 (M.1 149 26))) Q
        refine Rn.aload_n dX12_numeralAtHand_46 rfl ?_
        refine Rn.getI dX12_numeralAtHand_47 fX12_222 rfl (rc149 hR) ?_
        refine Rn.if_eq dX12_numeralAtHand_50 (fun t1 => ?_) (fun t1 => ?_)
        · skip
          exact absurd (show (2 : Int32) = 0 from t1) (by decide)
        · skip
          refine Rn.iload_n dX12_numeralAtHand_53 rfl ?_
          refine Rn.goto dX12_numeralAtHand_54 ?_
          exact Rn.iret (ty := .int) dX12_numeralAtHand_61 rfl rfl (hQ.2.2.1 g0 g1 gb)
      · skip
        refine Rn.aload_n dX12_numeralAtHand_33 rfl ?_
        refine Rn.getI dX12_numeralAtHand_34 fX12_198 rfl (rc149 hR) ?_
        refine Rn.iload_n dX12_numeralAtHand_37 rfl ?_
        refine Rn.icmp_le dX12_numeralAtHand_38 (fun g3 => ?_) (fun g3 => ?_)
        · skip
          refine Rn.aload_n dX12_numeralAtHand_46 rfl ?_
          refine Rn.getI dX12_numeralAtHand_47 fX12_222 rfl (rc149 hR) ?_
          refine Rn.if_eq dX12_numeralAtHand_50 (fun t1 => ?_) (fun t1 => ?_)
          · skip
            refine Rn.aload_n dX12_numeralAtHand_57 rfl ?_
            refine Rn.getI dX12_numeralAtHand_58 fX12_198 rfl (rc149 hR) ?_
            exact Rn.iret (ty := .int) dX12_numeralAtHand_61 rfl rfl (hQ.2.2.2 g0 g1 (Int32.not_lt.mp g2) g3)
          · skip
            exact absurd g0 t1
        · skip
          have gb : M.1 149 28 < x ∨ y < M.1 149 28 := Or.inr (Int32.not_le.mp g3)
          refine Rn.aload_n dX12_numeralAtHand_41 rfl ?_
          refine Rn.iconstv (v := 2) dX12_numeralAtHand_42 ic_2 ?_
          refine Rn.callV1 dX12_numeralAtHand_43 vX12_231 (rc149 hR) (by decide) rfl (rdWrong (M := M) (x := 2) g0 hR) (by decide) ⟨(Nat.le_of_ble_eq_true rfl), (Nat.le_of_ble_eq_true rfl), (Nat.le_of_ble_eq_true rfl)⟩ (fun h => by cases h) (fun v1 ly1 M1 ⟨q1, q2, q3⟩ => ?_)
          rw [q1, q2, q3]
          show Rn G l mX12_numeralAtHand (1, 0, 0, false) 46 [some (.ref 149), some (.int x), some (.int y)] [] ly (sI M 149 (upd (upd (M.1 149) 29 2) 30 (M.1 149 26))) Q
          refine Rn.aload_n dX12_numeralAtHand_46 rfl ?_
          refine Rn.getI dX12_numeralAtHand_47 fX12_222 rfl (rc149 hR) ?_
          refine Rn.if_eq dX12_numeralAtHand_50 (fun t1 => ?_) (fun t1 => ?_)
          · skip
            exact absurd (show (2 : Int32) = 0 from t1) (by decide)
          · skip
            refine Rn.iload_n dX12_numeralAtHand_53 rfl ?_
            refine Rn.goto dX12_numeralAtHand_54 ?_
            exact Rn.iret (ty := .int) dX12_numeralAtHand_61 rfl rfl (hQ.2.2.1 g0 g1 gb)
    · skip
      refine Rn.aload_n dX12_numeralAtHand_17 rfl ?_
      refine Rn.iconstv (v := 1) dX12_numeralAtHand_18 ic_1 ?_
      refine Rn.callV1 dX12_numeralAtHand_19 vX12_231 (rc149 hR) (by decide) rfl (rdWrong (M := M) (x := 1) g0 hR) (by decide) ⟨(Nat.le_of_ble_eq_true rfl), (Nat.le_of_ble_eq_true rfl), (Nat.le_of_ble_eq_true rfl)⟩ (fun h => by cases h) (fun v1 ly1 M1 ⟨q1, q2, q3⟩ => ?_)
      rw [q1, q2, q3]
      show Rn G l mX12_numeralAtHand (1, 0, 0, false) 22 [some (.ref 149), some (.int x), some (.int y)] [] ly (sI M 149 (upd (upd (M.1 149) 29 1) 30 (M.1 149 26))) Q
      refine Rn.goto dX12_numeralAtHand_22 ?_
      refine Rn.aload_n dX12_numeralAtHand_46 rfl ?_
      refine Rn.getI dX12_numeralAtHand_47 fX12_222 rfl (rc149 hR) ?_
      refine Rn.if_eq dX12_numeralAtHand_50 (fun t1 => ?_) (fun t1 => ?_)
      · skip
        exact absurd (show (1 : Int32) = 0 from t1) (by decide)
      · skip
        refine Rn.iload_n dX12_numeralAtHand_53 rfl ?_
        refine Rn.goto dX12_numeralAtHand_54 ?_
        exact Rn.iret (ty := .int) dX12_numeralAtHand_61 rfl rfl (hQ.2.1 g0 g1)
  · skip
    refine Rn.iload_n dX12_numeralAtHand_7 rfl ?_
    exact Rn.iret (ty := .int) dX12_numeralAtHand_8 rfl rfl (hQ.1 g0)
theorem rdGo0 {G : Gx} {l : Launch} {ly : Ly} {M : Mm} (g : ¬ M.1 149 29 = 0) (hR : RW ly M.2.2) : Mt G l mX12_goOn (7, 0, 0, false) [.ref 149] ly M (Is none ly M) := by
  refine Mt.is (fun Q hQ => ?_)
  refine Mt.of (lv := [some (.ref 149)]) rfl ?_
  refine Rn.aload_n dX12_goOn_0 rfl ?_
  refine Rn.getI dX12_goOn_1 fX12_222 rfl (rc149 hR) ?_
  refine Rn.if_ne dX12_goOn_4 (fun g9 => ?_) (fun g9 => ?_)
  · skip
    exact Rn.vret dX12_goOn_11 rfl hQ
  · skip
    exact absurd g9 g
theorem tX12_numeral {G : Gx} {l : Launch} {ly : Ly} {M : Mm} {n i : Nat} {x y : Int32} (h : RD M n i) (hR : RW ly M.2.2) {Q : Qt} (hQ : (¬ M.1 149 29 = 0 → Q (some (.int x)) ly M) ∧ (M.1 149 29 = 0 → ¬ M.1 149 27 = 2 → Q (some (.int x)) ly (wrM M 1)) ∧ (M.1 149 29 = 0 → M.1 149 27 = 2 → (M.1 149 28 < x ∨ y < M.1 149 28) → Q (some (.int x)) ly (wrM M 2)) ∧ (M.1 149 29 = 0 → M.1 149 27 = 2 → x ≤ M.1 149 28 → M.1 149 28 ≤ y → ∀ K, tkF M K → RD K n (nx (M.1 150) n i) → Q (some (.int (M.1 149 28))) ly K)) : Mt G l mX12_numeral (8, 0, 0, false) [.ref 149, .int x, .int y] ly M Q := by
  refine Mt.of (lv := [some (.ref 149), some (.int x), some (.int y), none]) rfl ?_
  refine Rn.aload_n dX12_numeral_0 rfl ?_
  refine Rn.iload_n dX12_numeral_1 rfl ?_
  refine Rn.iload_n dX12_numeral_2 rfl ?_
  refine Rn.callV2 dX12_numeral_3 vX12_234 (rc149 hR) (by decide) rfl (tX12_numeralAtHand (M := M) (x := x) (y := y) (Q := fun v0 ly0 K => ∃ v, v0 = some (.int v) ∧ ly0 = ly ∧ ((¬ K.1 149 29 = 0 ∧ K.2.2 = M.2.2 ∧ Q (some (.int v)) ly K) ∨ (K = M ∧ M.1 149 29 = 0 ∧ ∀ K, tkF M K → RD K n (nx (M.1 150) n i) → Q (some (.int v)) ly K))) hR ⟨fun h => ⟨_, rfl, rfl, Or.inl ⟨h, rfl, hQ.1 h⟩⟩, fun h1 h2 => ⟨_, rfl, rfl, Or.inl ⟨show ¬ (1 : Int32) = 0 by decide, rfl, hQ.2.1 h1 h2⟩⟩, fun h1 h2 h3 => ⟨_, rfl, rfl, Or.inl ⟨show ¬ (2 : Int32) = 0 by decide, rfl, hQ.2.2.1 h1 h2 h3⟩⟩, fun h1 h2 h3 h4 => ⟨_, rfl, rfl, Or.inr ⟨rfl, h1, hQ.2.2.2 h1 h2 h3 h4⟩⟩⟩) (by decide) ⟨(Nat.le_of_ble_eq_true rfl), (Nat.le_of_ble_eq_true rfl), (Nat.le_of_ble_eq_true rfl)⟩ (fun h => by cases h) (fun v1 ly1 N1 ⟨v, q1, q2, q3⟩ => ?_)
  rw [q1, q2]
  rcases q3 with ⟨k1, k2, k3⟩ | ⟨rfl, k1, k3⟩
  · skip
    have hRN1 : RW ly N1.2.2 := by rw [k2]; exact hR
    refine Rn.istore_n (lv' := [some (.ref 149), some (.int x), some (.int y), some (.int v)]) dX12_numeral_6 (by decide) rfl ?_
    refine Rn.aload_n dX12_numeral_7 rfl ?_
    refine Rn.callV0 dX12_numeral_8 vX12_238 (rc149 hRN1) (by decide) rfl (rdGo0 (M := N1) k1 hRN1) (by decide) ⟨(Nat.le_of_ble_eq_true rfl), (Nat.le_of_ble_eq_true rfl), (Nat.le_of_ble_eq_true rfl)⟩ (fun h => by cases h) (fun v1 ly1 M1 ⟨q1, q2, q3⟩ => ?_)
    rw [q1, q2, q3]
    refine Rn.iload_n dX12_numeral_11 rfl ?_
    exact Rn.iret (ty := .int) dX12_numeral_12 rfl rfl k3
  · skip
    have hRN1 := hR
    refine Rn.istore_n (lv' := [some (.ref 149), some (.int x), some (.int y), some (.int v)]) dX12_numeral_6 (by decide) rfl ?_
    refine Rn.aload_n dX12_numeral_7 rfl ?_
    refine Rn.callV0 dX12_numeral_8 vX12_238 (rc149 hRN1) (by decide) rfl (tX12_goOn (M := N1) (n := n) (i := i) (Q := fun v0 ly0 K => v0 = none ∧ ly0 = ly ∧ tkF N1 K ∧ RD K n (nx (N1.1 150) n i)) h hRN1 ⟨fun h => absurd k1 h, fun _ K t1 t2 => ⟨rfl, rfl, t1, t2⟩⟩) (by decide) ⟨(Nat.le_of_ble_eq_true rfl), (Nat.le_of_ble_eq_true rfl), (Nat.le_of_ble_eq_true rfl)⟩ (fun h => by cases h) (fun v1 ly1 N2 ⟨q1, q2, t1, t2⟩ => ?_)
    rw [q1, q2]
    refine Rn.iload_n dX12_numeral_11 rfl ?_
    exact Rn.iret (ty := .int) dX12_numeral_12 rfl rfl (k3 N2 t1 t2)
theorem tX12_found {G : Gx} {l : Launch} {ly : Ly} {M : Mm} {a fo m len : Nat} {x : Int32} (ha : ly[a]? = some (.inl (0, len))) (hm : fo + m ≤ len) (hl : len ≤ 100) : Mt G l mX12_found (0, 0, 0, false) [.ref a, .int (nI fo), .int (nI m), .int x] ly M (Is (some (.int (wdF (fun j => decide (M.1 a (fo + j) = x)) m 0))) ly M) := by
  refine Mt.is (fun Q hQ => ?_)
  refine Mt.of (lv := [some (.ref a), some (.int (nI fo)), some (.int (nI m)), some (.int x), none]) rfl ?_
  refine Rn.iconstv (v := 0) dX12_found_0 ic_0 ?_
  refine Rn.istore (lv' := [some (.ref a), some (.int (nI fo)), some (.int (nI m)), some (.int x), some (.int 0)]) dX12_found_1 (by decide) rfl ?_
  have loop : ∀ g j : Nat, j + g = m → wdF (fun j => decide (M.1 a (fo + j) = x)) m 0 = wdF (fun j => decide (M.1 a (fo + j) = x)) g j → Rn G l mX12_found (0, 0, 0, false) 3 [some (.ref a), some (.int (nI fo)), some (.int (nI m)), some (.int x), some (.int (nI j))] [] ly M Q := by
    intro g
    induction g with
    | zero =>
      intro j hj hst
      refine Rn.iload dX12_found_3 rfl ?_
      refine Rn.iload_n dX12_found_5 rfl ?_
      refine Rn.icmp_ge dX12_found_6 (fun hc => ?_) (fun hc => ?_)
      · skip
        refine Rn.iconstv (v := -1) dX12_found_28 ic_m1 ?_
        rw [hst] at hQ
        exact Rn.iret (ty := .int) dX12_found_29 rfl rfl hQ
      · skip
        exact absurd (nI_le (a := m) (b := j) (by omega) (by omega)) hc
    | succ g ih =>
      intro j hj hst
      refine Rn.iload dX12_found_3 rfl ?_
      refine Rn.iload_n dX12_found_5 rfl ?_
      refine Rn.icmp_ge dX12_found_6 (fun hc => ?_) (fun hc => ?_)
      · skip
        exact absurd hc (nI_ge (a := j) (b := m) (by omega) (by omega))
      · skip
        refine Rn.aload_n dX12_found_9 rfl ?_
        refine Rn.iload_n dX12_found_10 rfl ?_
        refine Rn.iload dX12_found_11 rfl ?_
        refine Rn.iadd dX12_found_13 ?_
        refine Rn.topI (y := nI (fo + j)) (nI_add fo j) ?_
        refine Rn.ialdN (k0 := (fo + j)) dX12_found_14 ha (by omega) (by omega) ?_
        refine Rn.iload_n dX12_found_15 rfl ?_
        refine Rn.icmp_ne dX12_found_16 (fun g1 => ?_) (fun g1 => ?_)
        · skip
          refine Rn.iincN (lv' := [some (.ref a), some (.int (nI fo)), some (.int (nI m)), some (.int x), some (.int (nI (j + 1)))]) dX12_found_22 rfl (by decide) rfl ?_
          refine Rn.goto dX12_found_25 ?_
          exact ih (j + 1) (by omega) (by rw [hst, (show wdF (fun j => decide (M.1 a (fo + j) = x)) (g + 1) j = if decide (M.1 a (fo + j) = x) = true then nI j else wdF (fun j => decide (M.1 a (fo + j) = x)) g (j + 1) from rfl), if_neg (fun h => g1 (of_decide_eq_true h))])
        · skip
          refine Rn.iload dX12_found_19 rfl ?_
          rw [hst, (show wdF (fun j => decide (M.1 a (fo + j) = x)) (g + 1) j = if decide (M.1 a (fo + j) = x) = true then nI j else wdF (fun j => decide (M.1 a (fo + j) = x)) g (j + 1) from rfl), if_pos (decide_eq_true g1)] at hQ
          exact Rn.iret (ty := .int) dX12_found_21 rfl rfl hQ
  exact loop m 0 (by omega) rfl
