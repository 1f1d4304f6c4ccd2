/-- how many sets -/
def cnB (B : Nat → Bool) : Nat → Nat
  | 0 => 0
  | i + 1 => if B i = true then cnB B i + 1 else cnB B i
theorem cnB_le {B : Nat → Bool} : ∀ k, cnB B k ≤ k
  | 0 => Nat.le_refl 0
  | k + 1 => by
    have := cnB_le (B := B) k
    unfold cnB
    split <;> omega
theorem stK_no {B : Nat → Bool} : ∀ (f i : Nat) (k : Int32), (∀ j, i ≤ j → j < i + f → B j = false) → stK B f i k = -2
  | 0, _, _, _ => rfl
  | f + 1, i, k, h => by
    unfold stK
    rw [if_neg (by rw [h i (Nat.le_refl i) (by omega)]; decide)]
    exact stK_no f (i + 1) k (fun j h1 h2 => h j (by omega) (by omega))
theorem subA (x y : Int32) : x - y + -1 = x - (y + 1) := by
  rw [Int32.sub_eq_add_neg, Int32.sub_eq_add_neg, Int32.neg_add, Int32.sub_eq_add_neg, Int32.add_assoc]
/-- who is in and out of some set, as the reference keeps it -/
def snR (a b : Int32) : Int32 := if a = 0 then (if b = 0 then 0 else 1) else (if b = 0 then 2 else 3)
theorem rvSetOf {G : Gx} {l : Launch} {ly : Ly} {M N : Mm} {n nw t nf : Nat} {p : P4} {h0 c0 : Int32} {W : Wx} {lw : Nat → (Nat → Int32) × Nat} {s : Sc} {fc fk : Nat → Int32} {ca : Nat → Int32} {x : Int32} {ng m L : Nat} {tm ce mu al : Nat → Int32} (hG : GR M ng m L tm ce mu al) (hx : x = -1 ∨ ¬ x < 0) (hS : RS M n nw t nf p h0 c0 W lw s fc fk) (hca : cas n nf c0 fc fk ca) (hq : qR M N) (hR : RW ly M.2.2) {Q : Qt} (hQ : ∀ K : Mm, qR M K → Q (some (.int (if x = -1 then nI (cnB (fun i => soB (TR n nw p h0 0 ca W (fun m => valL m (lw 0).1 (lw 0).2) (fun m => valL m (lw 1).1 (lw 1).2)) (zsc 0 (lvO (nI i) (fun _ => 0) 6)) (kbR M m) tm ce mu al ng L) (2 ^ nw)) else stK (sB (fun i => soB (TR n nw p h0 0 ca W (fun m => valL m (lw 0).1 (lw 0).2) (fun m => valL m (lw 1).1 (lw 1).2)) (zsc 0 (lvO (nI i) (fun _ => 0) 6)) (kbR M m) tm ce mu al ng L) (2 ^ nw)) 64 0 x))) ly K) : Mt G l mX12_setOf (10, 0, 0, false) [.ref 149, .int x] ly N Q := by
  refine Mt.of (lv := [some (.ref 149), some (.int x), none, none]) rfl ?_
  have hRN : RW ly N.2.2 := by rw [hq.1]; exact hR
  have hw6 := hS.w6
  have hp6 := pow6 hw6
  refine Rn.aload_n dX12_setOf_0 rfl ?_
  refine Rn.callV0 dX12_setOf_1 vX12_447 (rc149 hRN) (by decide) rfl (tX12_plain (M := N) hRN) (by decide) ⟨(Nat.le_of_ble_eq_true rfl), (Nat.le_of_ble_eq_true rfl), (Nat.le_of_ble_eq_true rfl)⟩ (fun h => by cases h) (fun v1 ly1 M1 ⟨q1, q2, q3⟩ => ?_)
  rw [q1, q2, q3]
  have hm0m : md (sI (N) 149 (upd (upd (upd (upd (upd ((N).1 149) 55 (-1)) 56 0) 57 (-1)) 61 0) 62 0)) (-1) 0 := ⟨rfl, rfl, rfl, rfl⟩
  have hq0m : qR M (sI (N) 149 (upd (upd (upd (upd (upd ((N).1 149) 55 (-1)) 56 0) 57 (-1)) 61 0) 62 0)) := qR.plain (hq)
  revert hm0m hq0m
  generalize (sI (N) 149 (upd (upd (upd (upd (upd ((N).1 149) 55 (-1)) 56 0) 57 (-1)) 61 0) 62 0)) = N0
  intro hm0 hq0
  have hRN0 : RW ly N0.2.2 := by rw [hq0.1]; exact hR
  refine Rn.aload_n dX12_setOf_4 rfl ?_
  have hGq1 := hG.q hq0
  refine Rn.callV0 dX12_setOf_5 vX12_524 (rc149 hRN0) (by decide) rfl (tX12_layStruck (M := N0) (m := m) (Q := fun v0 ly0 K => v0 = none ∧ ly0 = ly ∧ ∃ z, K = sI N0 195 z ∧ skR z (M.1 194) m) hGq1.2.1.1 (by have := hG.2.1.2; have := hG.1.2; omega) hGq1.2.2.1 hRN0 (fun z h => ⟨rfl, rfl, z, rfl, by rw [hq0.at 194 (by omega)] at h; exact h⟩)) (by decide) ⟨(Nat.le_of_ble_eq_true rfl), (Nat.le_of_ble_eq_true rfl), (Nat.le_of_ble_eq_true rfl)⟩ (fun h => by cases h) (fun v1 ly1 N1 ⟨q1, q2, z1, q3, hz1⟩ => ?_)
  rw [q1, q2]
  have hq1 : qR M N1 := by rw [q3]; exact hq0.tr ⟨rfl, fun a a1 a2 a3 a4 => sI_ne a4, fun j a1 a2 a3 a4 a5 => rfl, fun a ha j a1 a2 => congrFun (sI_ne (by omega)) j, fun a ha j hj => congrFun (sI_ne (by omega)) j, fun a ha j hj => congrFun (sI_ne (by omega)) j⟩
  have hm1 : md N1 (-1) 0 := by rw [q3]; exact hm0.eq rfl
  have hy1 : skR (N1.1 195) (M.1 194) m := by rw [q3]; exact hz1
  clear q3
  have hRN1 : RW ly N1.2.2 := by rw [hq1.1]; exact hR
  refine Rn.iconstv (v := 0) dX12_setOf_8 ic_0 ?_
  refine Rn.istore_n (lv' := [some (.ref 149), some (.int x), some (.int 0), none]) dX12_setOf_9 (by decide) rfl ?_
  refine Rn.iconstv (v := 0) dX12_setOf_10 ic_0 ?_
  refine Rn.istore_n (lv' := [some (.ref 149), some (.int x), some (.int 0), some (.int 0)]) dX12_setOf_11 (by decide) rfl ?_
  have loop : ∀ (f i : Nat) (KK : Mm), i + f = 2 ^ nw → qR M KK → md KK (-1) 0 → skR (KK.1 195) (M.1 194) m → (x = -1 ∨ stK (sB (fun i => soB (TR n nw p h0 0 ca W (fun m => valL m (lw 0).1 (lw 0).2) (fun m => valL m (lw 1).1 (lw 1).2)) (zsc 0 (lvO (nI i) (fun _ => 0) 6)) (kbR M m) tm ce mu al ng L) (2 ^ nw)) 64 0 x = stK (sB (fun i => soB (TR n nw p h0 0 ca W (fun m => valL m (lw 0).1 (lw 0).2) (fun m => valL m (lw 1).1 (lw 1).2)) (zsc 0 (lvO (nI i) (fun _ => 0) 6)) (kbR M m) tm ce mu al ng L) (2 ^ nw)) (64 - i) i (x - nI (cnB (fun i => soB (TR n nw p h0 0 ca W (fun m => valL m (lw 0).1 (lw 0).2) (fun m => valL m (lw 1).1 (lw 1).2)) (zsc 0 (lvO (nI i) (fun _ => 0) 6)) (kbR M m) tm ce mu al ng L) i))) → Rn G l mX12_setOf (10, 0, 0, false) 12 [some (.ref 149), some (.int x), some (.int (nI (cnB (fun i => soB (TR n nw p h0 0 ca W (fun m => valL m (lw 0).1 (lw 0).2) (fun m => valL m (lw 1).1 (lw 1).2)) (zsc 0 (lvO (nI i) (fun _ => 0) 6)) (kbR M m) tm ce mu al ng L) i))), some (.int (nI i))] [] ly KK Q := by
    intro f
    induction f with
    | zero =>
      intro i KK hi hqK hmK hyK hst
      have hRKK : RW ly KK.2.2 := by rw [hqK.1]; exact hR
      have hnw : KK.1 151 6 = nI nw := (hS.q hqK).nw
      have hcl := cnB_le (B := (fun i => soB (TR n nw p h0 0 ca W (fun m => valL m (lw 0).1 (lw 0).2) (fun m => valL m (lw 1).1 (lw 1).2)) (zsc 0 (lvO (nI i) (fun _ => 0) 6)) (kbR M m) tm ce mu al ng L)) i
      refine Rn.iload_n dX12_setOf_12 rfl ?_
      refine Rn.iconstv (v := 1) dX12_setOf_13 ic_1 ?_
      refine Rn.aload_n dX12_setOf_14 rfl ?_
      refine Rn.getR dX12_setOf_15 fX12_15 rfl (rc149 hRKK) (show KK.2.2 149 3 = some 151 from (rpt3 hRKK)) ?_
      refine Rn.bipushv (v := 6) dX12_setOf_18 bp_6 ?_
      refine Rn.iald dX12_setOf_20 (rc151 hRKK) (by unfold vp_in; decide) ?_
      refine Rn.topI (y := KK.1 151 6) (rfl) ?_
      refine Rn.topI (y := nI nw) (hnw) ?_
      refine Rn.ishl dX12_setOf_21 ?_
      refine Rn.topI (y := nI (2 ^ nw)) (shl1 nw (by omega)) ?_
      refine Rn.icmp_ge dX12_setOf_22 (fun hc => ?_) (fun hc => ?_)
      · skip
        have ei : i = 2 ^ nw := by omega
        refine Rn.iload_n dX12_setOf_52 rfl ?_
        refine Rn.iconstv (v := -1) dX12_setOf_53 ic_m1 ?_
        refine Rn.icmp_ne dX12_setOf_54 (fun hx1 => ?_) (fun hx1 => ?_)
        · skip
          refine Rn.bipushv (v := -2) dX12_setOf_61 bp_m2 ?_
          rw [if_neg hx1, hst.resolve_left hx1, stK_no (64 - i) i _ (fun j h1 h2 => by unfold sB; rw [decide_eq_false (by omega)]; rfl)] at hQ
          exact Rn.iret (ty := .int) dX12_setOf_63 rfl rfl (hQ KK hqK)
        · skip
          refine Rn.iload_n dX12_setOf_57 rfl ?_
          refine Rn.goto dX12_setOf_58 ?_
          rw [if_pos hx1, ← ei] at hQ
          exact Rn.iret (ty := .int) dX12_setOf_63 rfl rfl (hQ KK hqK)
      · skip
        exact absurd (nI_le (a := 2 ^ nw) (b := i) (by omega) (by omega)) hc
    | succ f ih =>
      intro i KK hi hqK hmK hyK hst
      have hRKK : RW ly KK.2.2 := by rw [hqK.1]; exact hR
      have hnw : KK.1 151 6 = nI nw := (hS.q hqK).nw
      have hcl := cnB_le (B := (fun i => soB (TR n nw p h0 0 ca W (fun m => valL m (lw 0).1 (lw 0).2) (fun m => valL m (lw 1).1 (lw 1).2)) (zsc 0 (lvO (nI i) (fun _ => 0) 6)) (kbR M m) tm ce mu al ng L)) i
      refine Rn.iload_n dX12_setOf_12 rfl ?_
      refine Rn.iconstv (v := 1) dX12_setOf_13 ic_1 ?_
      refine Rn.aload_n dX12_setOf_14 rfl ?_
      refine Rn.getR dX12_setOf_15 fX12_15 rfl (rc149 hRKK) (show KK.2.2 149 3 = some 151 from (rpt3 hRKK)) ?_
      refine Rn.bipushv (v := 6) dX12_setOf_18 bp_6 ?_
      refine Rn.iald dX12_setOf_20 (rc151 hRKK) (by unfold vp_in; decide) ?_
      refine Rn.topI (y := KK.1 151 6) (rfl) ?_
      refine Rn.topI (y := nI nw) (hnw) ?_
      refine Rn.ishl dX12_setOf_21 ?_
      refine Rn.topI (y := nI (2 ^ nw)) (shl1 nw (by omega)) ?_
      refine Rn.icmp_ge dX12_setOf_22 (fun hc => ?_) (fun hc => ?_)
      · skip
        exact absurd hc (nI_ge (a := i) (b := 2 ^ nw) (by omega) (by omega))
      · skip
        refine Rn.aload_n dX12_setOf_25 rfl ?_
        refine Rn.iload_n dX12_setOf_26 rfl ?_
        refine Rn.callV1 dX12_setOf_27 vX12_527 (rc149 hRKK) (by decide) rfl (rvSet (M := M) (N := KK) (z := nI i) (ca := ca) (Q := fun v0 ly0 K => v0 = some (.int (b01 (soB (TR n nw p h0 0 ca W (fun m => valL m (lw 0).1 (lw 0).2) (fun m => valL m (lw 1).1 (lw 1).2)) (zsc 0 (lvO (nI i) (fun _ => 0) 6)) (kbR M m) tm ce mu al ng L))) ∧ ly0 = ly ∧ qR M K ∧ md K (-1) 0 ∧ skR (K.1 195) (M.1 194) m) hG hmK hyK hS hca hqK hR (fun K a c d => ⟨rfl, rfl, a, c, d⟩)) (by decide) ⟨(Nat.le_of_ble_eq_true rfl), (Nat.le_of_ble_eq_true rfl), (Nat.le_of_ble_eq_true rfl)⟩ (fun h => by cases h) (fun v1 ly1 N2 ⟨q1, q2, hq2, hm2, hy2⟩ => ?_)
        rw [q1, q2]
        have hRN2 : RW ly N2.2.2 := by rw [hq2.1]; exact hR
        refine Rn.if_ne dX12_setOf_30 (fun hB => ?_) (fun hB => ?_)
        · skip
          have hBt : (fun i => soB (TR n nw p h0 0 ca W (fun m => valL m (lw 0).1 (lw 0).2) (fun m => valL m (lw 1).1 (lw 1).2)) (zsc 0 (lvO (nI i) (fun _ => 0) 6)) (kbR M m) tm ce mu al ng L) i = true := b01_n hB
          have hc1 : cnB (fun i => soB (TR n nw p h0 0 ca W (fun m => valL m (lw 0).1 (lw 0).2) (fun m => valL m (lw 1).1 (lw 1).2)) (zsc 0 (lvO (nI i) (fun _ => 0) 6)) (kbR M m) tm ce mu al ng L) (i + 1) = cnB (fun i => soB (TR n nw p h0 0 ca W (fun m => valL m (lw 0).1 (lw 0).2) (fun m => valL m (lw 1).1 (lw 1).2)) (zsc 0 (lvO (nI i) (fun _ => 0) 6)) (kbR M m) tm ce mu al ng L) i + 1 := if_pos hBt
          have hsB : sB (fun i => soB (TR n nw p h0 0 ca W (fun m => valL m (lw 0).1 (lw 0).2) (fun m => valL m (lw 1).1 (lw 1).2)) (zsc 0 (lvO (nI i) (fun _ => 0) 6)) (kbR M m) tm ce mu al ng L) (2 ^ nw) i = true := by unfold sB; rw [decide_eq_true (by omega), hBt]; rfl
          refine Rn.iload_n dX12_setOf_36 rfl ?_
          refine Rn.iload_n dX12_setOf_37 rfl ?_
          refine Rn.icmp_ne dX12_setOf_38 (fun hk => ?_) (fun hk => ?_)
          · skip
            refine Rn.iincN (lv' := [some (.ref 149), some (.int x), some (.int (nI ((cnB (fun i => soB (TR n nw p h0 0 ca W (fun m => valL m (lw 0).1 (lw 0).2) (fun m => valL m (lw 1).1 (lw 1).2)) (zsc 0 (lvO (nI i) (fun _ => 0) 6)) (kbR M m) tm ce mu al ng L) i) + 1))), some (.int (nI i))]) dX12_setOf_43 rfl (by decide) rfl ?_
            refine Rn.iincN (lv' := [some (.ref 149), some (.int x), some (.int (nI ((cnB (fun i => soB (TR n nw p h0 0 ca W (fun m => valL m (lw 0).1 (lw 0).2) (fun m => valL m (lw 1).1 (lw 1).2)) (zsc 0 (lvO (nI i) (fun _ => 0) 6)) (kbR M m) tm ce mu al ng L) i) + 1))), some (.int (nI (i + 1)))]) dX12_setOf_46 rfl (by decide) rfl ?_
            refine Rn.goto dX12_setOf_49 ?_
            refine Rn.lveq (lv2 := [some (.ref 149), some (.int x), some (.int (nI (cnB (fun i => soB (TR n nw p h0 0 ca W (fun m => valL m (lw 0).1 (lw 0).2) (fun m => valL m (lw 1).1 (lw 1).2)) (zsc 0 (lvO (nI i) (fun _ => 0) 6)) (kbR M m) tm ce mu al ng L) (i + 1)))), some (.int (nI (i + 1)))]) (by rw [hc1]) ?_
            refine ih (i + 1) N2 (by omega) hq2 hm2 hy2 (hst.imp id (fun h => h.trans ?_))
            rw [show 64 - i = (64 - (i + 1)) + 1 by omega]
            show (if sB (fun i => soB (TR n nw p h0 0 ca W (fun m => valL m (lw 0).1 (lw 0).2) (fun m => valL m (lw 1).1 (lw 1).2)) (zsc 0 (lvO (nI i) (fun _ => 0) 6)) (kbR M m) tm ce mu al ng L) (2 ^ nw) i = true then (if x - nI (cnB (fun i => soB (TR n nw p h0 0 ca W (fun m => valL m (lw 0).1 (lw 0).2) (fun m => valL m (lw 1).1 (lw 1).2)) (zsc 0 (lvO (nI i) (fun _ => 0) 6)) (kbR M m) tm ce mu al ng L) i) = 0 then nI i else stK (sB (fun i => soB (TR n nw p h0 0 ca W (fun m => valL m (lw 0).1 (lw 0).2) (fun m => valL m (lw 1).1 (lw 1).2)) (zsc 0 (lvO (nI i) (fun _ => 0) 6)) (kbR M m) tm ce mu al ng L) (2 ^ nw)) (64 - (i + 1)) (i + 1) (x - nI (cnB (fun i => soB (TR n nw p h0 0 ca W (fun m => valL m (lw 0).1 (lw 0).2) (fun m => valL m (lw 1).1 (lw 1).2)) (zsc 0 (lvO (nI i) (fun _ => 0) 6)) (kbR M m) tm ce mu al ng L) i) + -1)) else _) = _
            rw [if_pos hsB, if_neg (fun e => hk (by rw [← Int32.sub_add_cancel x (nI (cnB (fun i => soB (TR n nw p h0 0 ca W (fun m => valL m (lw 0).1 (lw 0).2) (fun m => valL m (lw 1).1 (lw 1).2)) (zsc 0 (lvO (nI i) (fun _ => 0) 6)) (kbR M m) tm ce mu al ng L) i)), e, Int32.zero_add])), hc1, nI_succ]
            exact congrArg (fun q9 => stK (sB (fun i => soB (TR n nw p h0 0 ca W (fun m => valL m (lw 0).1 (lw 0).2) (fun m => valL m (lw 1).1 (lw 1).2)) (zsc 0 (lvO (nI i) (fun _ => 0) 6)) (kbR M m) tm ce mu al ng L) (2 ^ nw)) (64 - (i + 1)) (i + 1) q9) (subA x (nI (cnB (fun i => soB (TR n nw p h0 0 ca W (fun m => valL m (lw 0).1 (lw 0).2) (fun m => valL m (lw 1).1 (lw 1).2)) (zsc 0 (lvO (nI i) (fun _ => 0) 6)) (kbR M m) tm ce mu al ng L) i)))
          · skip
            refine Rn.iload_n dX12_setOf_41 rfl ?_
            have hxn : ¬ x = -1 := fun e => nI_pos (n := cnB (fun i => soB (TR n nw p h0 0 ca W (fun m => valL m (lw 0).1 (lw 0).2) (fun m => valL m (lw 1).1 (lw 1).2)) (zsc 0 (lvO (nI i) (fun _ => 0) 6)) (kbR M m) tm ce mu al ng L) i) (by omega) (by rw [hk, e]; decide)
            have hres : stK (sB (fun i => soB (TR n nw p h0 0 ca W (fun m => valL m (lw 0).1 (lw 0).2) (fun m => valL m (lw 1).1 (lw 1).2)) (zsc 0 (lvO (nI i) (fun _ => 0) 6)) (kbR M m) tm ce mu al ng L) (2 ^ nw)) 64 0 x = nI i := by
              rw [hst.resolve_left hxn, show 64 - i = (64 - (i + 1)) + 1 by omega]
              show (if sB (fun i => soB (TR n nw p h0 0 ca W (fun m => valL m (lw 0).1 (lw 0).2) (fun m => valL m (lw 1).1 (lw 1).2)) (zsc 0 (lvO (nI i) (fun _ => 0) 6)) (kbR M m) tm ce mu al ng L) (2 ^ nw) i = true then (if x - nI (cnB (fun i => soB (TR n nw p h0 0 ca W (fun m => valL m (lw 0).1 (lw 0).2) (fun m => valL m (lw 1).1 (lw 1).2)) (zsc 0 (lvO (nI i) (fun _ => 0) 6)) (kbR M m) tm ce mu al ng L) i) = 0 then nI i else stK (sB (fun i => soB (TR n nw p h0 0 ca W (fun m => valL m (lw 0).1 (lw 0).2) (fun m => valL m (lw 1).1 (lw 1).2)) (zsc 0 (lvO (nI i) (fun _ => 0) 6)) (kbR M m) tm ce mu al ng L) (2 ^ nw)) (64 - (i + 1)) (i + 1) (x - nI (cnB (fun i => soB (TR n nw p h0 0 ca W (fun m => valL m (lw 0).1 (lw 0).2) (fun m => valL m (lw 1).1 (lw 1).2)) (zsc 0 (lvO (nI i) (fun _ => 0) 6)) (kbR M m) tm ce mu al ng L) i) + -1)) else _) = _
              rw [if_pos hsB, if_pos (by rw [hk]; exact Int32.sub_self _)]
            rw [if_neg hxn, hres] at hQ
            exact Rn.iret (ty := .int) dX12_setOf_42 rfl rfl (hQ N2 hq2)
        · skip
          have hBf : ¬ (fun i => soB (TR n nw p h0 0 ca W (fun m => valL m (lw 0).1 (lw 0).2) (fun m => valL m (lw 1).1 (lw 1).2)) (zsc 0 (lvO (nI i) (fun _ => 0) 6)) (kbR M m) tm ce mu al ng L) i = true := b01_0 hB
          have hc1 : cnB (fun i => soB (TR n nw p h0 0 ca W (fun m => valL m (lw 0).1 (lw 0).2) (fun m => valL m (lw 1).1 (lw 1).2)) (zsc 0 (lvO (nI i) (fun _ => 0) 6)) (kbR M m) tm ce mu al ng L) (i + 1) = cnB (fun i => soB (TR n nw p h0 0 ca W (fun m => valL m (lw 0).1 (lw 0).2) (fun m => valL m (lw 1).1 (lw 1).2)) (zsc 0 (lvO (nI i) (fun _ => 0) 6)) (kbR M m) tm ce mu al ng L) i := if_neg hBf
          have hsB : ¬ sB (fun i => soB (TR n nw p h0 0 ca W (fun m => valL m (lw 0).1 (lw 0).2) (fun m => valL m (lw 1).1 (lw 1).2)) (zsc 0 (lvO (nI i) (fun _ => 0) 6)) (kbR M m) tm ce mu al ng L) (2 ^ nw) i = true := by unfold sB; rw [Bool.and_eq_true]; exact fun h => hBf h.2
          refine Rn.goto dX12_setOf_33 ?_
          refine Rn.iincN (lv' := [some (.ref 149), some (.int x), some (.int (nI (cnB (fun i => soB (TR n nw p h0 0 ca W (fun m => valL m (lw 0).1 (lw 0).2) (fun m => valL m (lw 1).1 (lw 1).2)) (zsc 0 (lvO (nI i) (fun _ => 0) 6)) (kbR M m) tm ce mu al ng L) i))), some (.int (nI (i + 1)))]) dX12_setOf_46 rfl (by decide) rfl ?_
          refine Rn.goto dX12_setOf_49 ?_
          refine Rn.lveq (lv2 := [some (.ref 149), some (.int x), some (.int (nI (cnB (fun i => soB (TR n nw p h0 0 ca W (fun m => valL m (lw 0).1 (lw 0).2) (fun m => valL m (lw 1).1 (lw 1).2)) (zsc 0 (lvO (nI i) (fun _ => 0) 6)) (kbR M m) tm ce mu al ng L) (i + 1)))), some (.int (nI (i + 1)))]) (by rw [hc1]) ?_
          refine ih (i + 1) N2 (by omega) hq2 hm2 hy2 (hst.imp id (fun h => h.trans ?_))
          rw [show 64 - i = (64 - (i + 1)) + 1 by omega]
          show (if sB (fun i => soB (TR n nw p h0 0 ca W (fun m => valL m (lw 0).1 (lw 0).2) (fun m => valL m (lw 1).1 (lw 1).2)) (zsc 0 (lvO (nI i) (fun _ => 0) 6)) (kbR M m) tm ce mu al ng L) (2 ^ nw) i = true then _ else stK (sB (fun i => soB (TR n nw p h0 0 ca W (fun m => valL m (lw 0).1 (lw 0).2) (fun m => valL m (lw 1).1 (lw 1).2)) (zsc 0 (lvO (nI i) (fun _ => 0) 6)) (kbR M m) tm ce mu al ng L) (2 ^ nw)) (64 - (i + 1)) (i + 1) (x - nI (cnB (fun i => soB (TR n nw p h0 0 ca W (fun m => valL m (lw 0).1 (lw 0).2) (fun m => valL m (lw 1).1 (lw 1).2)) (zsc 0 (lvO (nI i) (fun _ => 0) 6)) (kbR M m) tm ce mu al ng L) i))) = _
          rw [if_neg hsB, hc1]
  exact loop (2 ^ nw) 0 N1 (by omega) hq1 hm1 hy1 (Or.inr (by show _ = stK _ 64 0 (x - 0); rw [Int32.sub_zero]))
theorem tX12_began {G : Gx} {l : Launch} {ly : Ly} {M : Mm}  {n nw t nf : Nat} {p : P4} {h0 c0 : Int32} {W : Wx} {lw : Nat → (Nat → Int32) × Nat} {s : Sc} {fc fk ca : Nat → Int32} (hS : RS M n nw t nf p h0 c0 W lw s fc fk) (hca : cas n nf c0 fc fk ca) {ng m L : Nat} {tm ce mu al : Nat → Int32} (hG : GR M ng m L tm ce mu al) (hR : RW ly M.2.2) {Q : Qt} (hQ : ∀ K, qR M K → Q (some (.int (nI (cnB (fun i => soB (TR n nw p h0 0 ca W (fun m => valL m (lw 0).1 (lw 0).2) (fun m => valL m (lw 1).1 (lw 1).2)) (zsc 0 (lvO (nI i) (fun _ => 0) 6)) (kbR M m) tm ce mu al ng L) (2 ^ nw))))) ly K) : Mt G l mX12_began (11, 0, 0, false) [.ref 149] ly M Q := by
  refine Mt.of (lv := [some (.ref 149)]) rfl ?_
  refine Rn.aload_n dX12_began_0 rfl ?_
  refine Rn.iconstv (v := 0) dX12_began_1 ic_0 ?_
  refine Rn.putI dX12_began_2 fX12_169 rfl rfl rfl (rc149 hR) ?_
  refine Rn.aload_n dX12_began_5 rfl ?_
  refine Rn.iconstv (v := -1) dX12_began_6 ic_m1 ?_
  refine Rn.callV1 dX12_began_7 vX12_530 (rc149 hR) (by decide) rfl (rvSetOf (M := M) (N := sI M 149 (upd (M.1 149) 0 0)) (x := (-1)) (Q := fun v0 ly0 K => v0 = some (.int (nI (cnB (fun i => soB (TR n nw p h0 0 ca W (fun m => valL m (lw 0).1 (lw 0).2) (fun m => valL m (lw 1).1 (lw 1).2)) (zsc 0 (lvO (nI i) (fun _ => 0) 6)) (kbR M m) tm ce mu al ng L) (2 ^ nw)))) ∧ ly0 = ly ∧ qR M K) hG (Or.inl rfl) hS hca qR.rf.f0 hR (fun K a => ⟨by rw [if_pos rfl], rfl, a⟩)) (by decide) ⟨(Nat.le_of_ble_eq_true rfl), (Nat.le_of_ble_eq_true rfl), (Nat.le_of_ble_eq_true rfl)⟩ (fun h => by cases h) (fun v1 ly1 N1 ⟨q1, q2, hq1⟩ => ?_)
  rw [q1, q2]
  exact Rn.iret (ty := .int) dX12_began_10 rfl rfl (hQ N1 hq1)
theorem tX12_set {G : Gx} {l : Launch} {ly : Ly} {M : Mm} {x : Int32} {n nw t nf : Nat} {p : P4} {h0 c0 : Int32} {W : Wx} {lw : Nat → (Nat → Int32) × Nat} {s : Sc} {fc fk ca : Nat → Int32} (hS : RS M n nw t nf p h0 c0 W lw s fc fk) (hca : cas n nf c0 fc fk ca) {ng m L : Nat} {tm ce mu al : Nat → Int32} (hG : GR M ng m L tm ce mu al) (hR : RW ly M.2.2) {Q : Qt} (hQ : (x < 0 → ∀ K, qR M K → Q (some (.int (-1))) ly K) ∧ (¬ x < 0 → ∀ K, qR M K → Q (some (.int (stK (sB (fun i => soB (TR n nw p h0 0 ca W (fun m => valL m (lw 0).1 (lw 0).2) (fun m => valL m (lw 1).1 (lw 1).2)) (zsc 0 (lvO (nI i) (fun _ => 0) 6)) (kbR M m) tm ce mu al ng L) (2 ^ nw)) 64 0 x))) ly K)) : Mt G l mX12_set (11, 0, 0, false) [.ref 149, .int x] ly M Q := by
  refine Mt.of (lv := [some (.ref 149), some (.int x)]) rfl ?_
  refine Rn.aload_n dX12_set_0 rfl ?_
  refine Rn.iconstv (v := 0) dX12_set_1 ic_0 ?_
  refine Rn.putI dX12_set_2 fX12_169 rfl rfl rfl (rc149 hR) ?_
  refine Rn.iload_n dX12_set_5 rfl ?_
  refine Rn.if_ge dX12_set_6 (fun hz0 => ?_) (fun hz0 => ?_)
  · skip
    refine Rn.aload_n dX12_set_13 rfl ?_
    refine Rn.iload_n dX12_set_14 rfl ?_
    have hx0 : ¬ x < 0 := Int32.not_lt.mpr hz0
    refine Rn.callV1 dX12_set_15 vX12_530 (rc149 hR) (by decide) rfl (rvSetOf (M := M) (N := sI M 149 (upd (M.1 149) 0 0)) (x := x) (Q := fun v0 ly0 K => v0 = some (.int (stK (sB (fun i => soB (TR n nw p h0 0 ca W (fun m => valL m (lw 0).1 (lw 0).2) (fun m => valL m (lw 1).1 (lw 1).2)) (zsc 0 (lvO (nI i) (fun _ => 0) 6)) (kbR M m) tm ce mu al ng L) (2 ^ nw)) 64 0 x)) ∧ ly0 = ly ∧ qR M K) hG (Or.inr hx0) hS hca qR.rf.f0 hR (fun K a => ⟨by rw [if_neg (fun e => hx0 (by rw [e]; decide))], rfl, a⟩)) (by decide) ⟨(Nat.le_of_ble_eq_true rfl), (Nat.le_of_ble_eq_true rfl), (Nat.le_of_ble_eq_true rfl)⟩ (fun h => by cases h) (fun v1 ly1 N1 ⟨q1, q2, hq1⟩ => ?_)
    rw [q1, q2]
    exact Rn.iret (ty := .int) dX12_set_18 rfl rfl (hQ.2 hx0 N1 hq1)
  · skip
    refine Rn.iconstv (v := -1) dX12_set_9 ic_m1 ?_
    refine Rn.goto dX12_set_10 ?_
    exact Rn.iret (ty := .int) dX12_set_18 rfl rfl (hQ.1 (Int32.not_le.mp hz0) _ qR.rf.f0)
theorem srK_no {B : Nat → Bool} {w : Nat} : ∀ (f i : Nat) (a b : Int32), (∀ j, i ≤ j → j < i + f → B j = false) → srK B w f i a b = (a, b)
  | 0, _, _, _, _ => rfl
  | f + 1, i, a, b, h => by
    unfold srK
    rw [if_neg (by rw [h i (Nat.le_refl i) (by omega)]; decide)]
    exact srK_no f (i + 1) a b (fun j h1 h2 => h j (by omega) (by omega))
theorem inW01 (i w : Nat) : inW i w = 0 ∨ inW i w = 1 := by unfold inW; split; exact Or.inr rfl; exact Or.inl rfl
theorem or01 {a b : Int32} (ha : a = 0 ∨ a = 1) (hb : b = 0 ∨ b = 1) : a ||| b = 0 ∨ a ||| b = 1 := by rcases ha with rfl | rfl <;> rcases hb with rfl | rfl <;> decide
theorem sn_or {a b : Int32} {i w : Nat} (ha : a = 0 ∨ a = 1) (hb : b = 0 ∨ b = 1) : snR a b ||| ((1 : Int32) <<< ((((nI i) >>> ((nI w) &&& 31)) &&& 1) &&& 31)) = snR (a ||| inW i w) (b ||| (if inW i w = 0 then 1 else 0)) := by
  unfold inW
  rcases and1i ((nI i) >>> ((nI w) &&& 31)) with h | h
  · rw [h]
    rcases ha with rfl | rfl <;> rcases hb with rfl | rfl <;> decide
  · rw [h]
    rcases ha with rfl | rfl <;> rcases hb with rfl | rfl <;> decide
theorem tX12_sure {G : Gx} {l : Launch} {ly : Ly} {M : Mm} {x : Int32} {n nw t nf : Nat} {p : P4} {h0 c0 : Int32} {W : Wx} {lw : Nat → (Nat → Int32) × Nat} {s : Sc} {fc fk ca : Nat → Int32} (hS : RS M n nw t nf p h0 c0 W lw s fc fk) (hca : cas n nf c0 fc fk ca) {ng m L : Nat} {tm ce mu al : Nat → Int32} (hG : GR M ng m L tm ce mu al) (hR : RW ly M.2.2) {Q : Qt} (hQ : (¬ (∃ j : Nat, j < nw ∧ x = nI j) → ∀ K, qR M K → Q (some (.int (-1))) ly K) ∧ (∀ w : Nat, w < nw → x = nI w → ∀ K, qR M K → Q (some (.int (if (srK (sB (fun i => soB (TR n nw p h0 0 ca W (fun m => valL m (lw 0).1 (lw 0).2) (fun m => valL m (lw 1).1 (lw 1).2)) (zsc 0 (lvO (nI i) (fun _ => 0) 6)) (kbR M m) tm ce mu al ng L) (2 ^ nw)) w 64 0 0 0).1 = 0 ∧ (srK (sB (fun i => soB (TR n nw p h0 0 ca W (fun m => valL m (lw 0).1 (lw 0).2) (fun m => valL m (lw 1).1 (lw 1).2)) (zsc 0 (lvO (nI i) (fun _ => 0) 6)) (kbR M m) tm ce mu al ng L) (2 ^ nw)) w 64 0 0 0).2 = 0 then -2 else srA (srK (sB (fun i => soB (TR n nw p h0 0 ca W (fun m => valL m (lw 0).1 (lw 0).2) (fun m => valL m (lw 1).1 (lw 1).2)) (zsc 0 (lvO (nI i) (fun _ => 0) 6)) (kbR M m) tm ce mu al ng L) (2 ^ nw)) w 64 0 0 0)))) ly K)) : Mt G l mX12_sure (10, 0, 0, false) [.ref 149, .int x] ly M Q := by
  refine Mt.of (lv := [some (.ref 149), some (.int x), none, none]) rfl ?_
  refine Rn.aload_n dX12_sure_0 rfl ?_
  refine Rn.iconstv (v := 0) dX12_sure_1 ic_0 ?_
  refine Rn.putI dX12_sure_2 fX12_169 rfl rfl rfl (rc149 hR) ?_
  refine Rn.aload_n dX12_sure_5 rfl ?_
  refine Rn.iload_n dX12_sure_6 rfl ?_
  refine Rn.callV1 dX12_sure_7 vX12_443 (rc149 hR) (by decide) rfl (tX12_isWalker (M := sI M 149 (upd (M.1 149) 0 0)) hR) (by decide) ⟨(Nat.le_of_ble_eq_true rfl), (Nat.le_of_ble_eq_true rfl), (Nat.le_of_ble_eq_true rfl)⟩ (fun h => by cases h) (fun v1 ly1 M1 ⟨q1, q2, q3⟩ => ?_)
  rw [q1, q2, q3]
  refine Rn.topI (y := inN x (nI nw)) (congrArg (inN x) hS.nw) ?_
  refine Rn.if_ne dX12_sure_10 (fun g1 => ?_) (fun g1 => ?_)
  · skip
    obtain ⟨w, hw, rfl⟩ : ∃ j : Nat, j < nw ∧ x = nI j := (inN_1 (x := x) (k := nw) (lt31 hS.w6)).elim (fun k => absurd k.1 g1) (fun k => k.2)
    have hA := hQ.2 w hw rfl
    clear hQ
    have hw6 := hS.w6
    have hp6 := pow6 hw6
    refine Rn.aload_n dX12_sure_15 rfl ?_
    refine Rn.callV0 dX12_sure_16 vX12_447 (rc149 hR) (by decide) rfl (tX12_plain (M := sI M 149 (upd (M.1 149) 0 0)) hR) (by decide) ⟨(Nat.le_of_ble_eq_true rfl), (Nat.le_of_ble_eq_true rfl), (Nat.le_of_ble_eq_true rfl)⟩ (fun h => by cases h) (fun v1 ly1 M1 ⟨q1, q2, q3⟩ => ?_)
    rw [q1, q2, q3]
    have hm0m : md (sI (sI M 149 (upd (M.1 149) 0 0)) 149 (upd (upd (upd (upd (upd ((sI M 149 (upd (M.1 149) 0 0)).1 149) 55 (-1)) 56 0) 57 (-1)) 61 0) 62 0)) (-1) 0 := ⟨rfl, rfl, rfl, rfl⟩
    have hq0m : qR M (sI (sI M 149 (upd (M.1 149) 0 0)) 149 (upd (upd (upd (upd (upd ((sI M 149 (upd (M.1 149) 0 0)).1 149) 55 (-1)) 56 0) 57 (-1)) 61 0) 62 0)) := qR.plain ((qR.rf (M := M)).f0)
    revert hm0m hq0m
    generalize (sI (sI M 149 (upd (M.1 149) 0 0)) 149 (upd (upd (upd (upd (upd ((sI M 149 (upd (M.1 149) 0 0)).1 149) 55 (-1)) 56 0) 57 (-1)) 61 0) 62 0)) = N0
    intro hm0 hq0
    have hRN0 : RW ly N0.2.2 := by rw [hq0.1]; exact hR
    refine Rn.aload_n dX12_sure_19 rfl ?_
    have hGq1 := hG.q hq0
    refine Rn.callV0 dX12_sure_20 vX12_524 (rc149 hRN0) (by decide) rfl (tX12_layStruck (M := N0) (m := m) (Q := fun v0 ly0 K => v0 = none ∧ ly0 = ly ∧ ∃ z, K = sI N0 195 z ∧ skR z (M.1 194) m) hGq1.2.1.1 (by have := hG.2.1.2; have := hG.1.2; omega) hGq1.2.2.1 hRN0 (fun z h => ⟨rfl, rfl, z, rfl, by rw [hq0.at 194 (by omega)] at h; exact h⟩)) (by decide) ⟨(Nat.le_of_ble_eq_true rfl), (Nat.le_of_ble_eq_true rfl), (Nat.le_of_ble_eq_true rfl)⟩ (fun h => by cases h) (fun v1 ly1 N1 ⟨q1, q2, z1, q3, hz1⟩ => ?_)
    rw [q1, q2]
    have hq1 : qR M N1 := by rw [q3]; exact hq0.tr ⟨rfl, fun a a1 a2 a3 a4 => sI_ne a4, fun j a1 a2 a3 a4 a5 => rfl, fun a ha j a1 a2 => congrFun (sI_ne (by omega)) j, fun a ha j hj => congrFun (sI_ne (by omega)) j, fun a ha j hj => congrFun (sI_ne (by omega)) j⟩
    have hm1 : md N1 (-1) 0 := by rw [q3]; exact hm0.eq rfl
    have hy1 : skR (N1.1 195) (M.1 194) m := by rw [q3]; exact hz1
    clear q3
    have hRN1 : RW ly N1.2.2 := by rw [hq1.1]; exact hR
    refine Rn.iconstv (v := 0) dX12_sure_23 ic_0 ?_
    refine Rn.istore_n (lv' := [some (.ref 149), some (.int (nI w)), some (.int 0), none]) dX12_sure_24 (by decide) rfl ?_
    refine Rn.iconstv (v := 0) dX12_sure_25 ic_0 ?_
    refine Rn.istore_n (lv' := [some (.ref 149), some (.int (nI w)), some (.int 0), some (.int 0)]) dX12_sure_26 (by decide) rfl ?_
    have loop : ∀ (f i : Nat) (a b : Int32) (KK : Mm), i + f = 2 ^ nw → qR M KK → md KK (-1) 0 → skR (KK.1 195) (M.1 194) m → (a = 0 ∨ a = 1) → (b = 0 ∨ b = 1) → srK (sB (fun i => soB (TR n nw p h0 0 ca W (fun m => valL m (lw 0).1 (lw 0).2) (fun m => valL m (lw 1).1 (lw 1).2)) (zsc 0 (lvO (nI i) (fun _ => 0) 6)) (kbR M m) tm ce mu al ng L) (2 ^ nw)) w 64 0 0 0 = srK (sB (fun i => soB (TR n nw p h0 0 ca W (fun m => valL m (lw 0).1 (lw 0).2) (fun m => valL m (lw 1).1 (lw 1).2)) (zsc 0 (lvO (nI i) (fun _ => 0) 6)) (kbR M m) tm ce mu al ng L) (2 ^ nw)) w (64 - i) i a b → Rn G l mX12_sure (10, 0, 0, false) 27 [some (.ref 149), some (.int (nI w)), some (.int (snR a b)), some (.int (nI i))] [] ly KK Q := by
      intro f
      induction f with
      | zero =>
        intro i a b KK hi hqK hmK hyK ha hb hst
        have hRKK : RW ly KK.2.2 := by rw [hqK.1]; exact hR
        have hnw : KK.1 151 6 = nI nw := (hS.q hqK).nw
        refine Rn.iload_n dX12_sure_27 rfl ?_
        refine Rn.iconstv (v := 1) dX12_sure_28 ic_1 ?_
        refine Rn.aload_n dX12_sure_29 rfl ?_
        refine Rn.getR dX12_sure_30 fX12_15 rfl (rc149 hRKK) (show KK.2.2 149 3 = some 151 from (rpt3 hRKK)) ?_
        refine Rn.bipushv (v := 6) dX12_sure_33 bp_6 ?_
        refine Rn.iald dX12_sure_35 (rc151 hRKK) (by unfold vp_in; decide) ?_
        refine Rn.topI (y := KK.1 151 6) (rfl) ?_
        refine Rn.topI (y := nI nw) (hnw) ?_
        refine Rn.ishl dX12_sure_36 ?_
        refine Rn.topI (y := nI (2 ^ nw)) (shl1 nw (by omega)) ?_
        refine Rn.icmp_ge dX12_sure_37 (fun hc => ?_) (fun hc => ?_)
        · skip
          rw [hst, srK_no (64 - i) i a b (fun j h1 h2 => by unfold sB; rw [decide_eq_false (by omega)]; rfl)] at hA
          rcases ha with rfl | rfl <;> rcases hb with rfl | rfl
          · skip
            show Rn G l mX12_sure (10, 0, 0, false) 64 [some (.ref 149), some (.int (nI w)), some (.int 0), some (.int (nI i))] [] ly KK Q
            refine Rn.iload_n dX12_sure_64 rfl ?_
            refine Rn.if_ne dX12_sure_65 (fun h65_2 => ?_) (fun h65_2 => ?_)
            · skip
              first | exact absurd h65_2 (by decide) | exact absurd (by decide) h65_2
            · skip
              refine Rn.bipushv (v := -2) dX12_sure_68 bp_m2 ?_
              refine Rn.goto dX12_sure_70 ?_
              exact Rn.iret (ty := .int) dX12_sure_92 rfl rfl (hA KK hqK)
          · skip
            show Rn G l mX12_sure (10, 0, 0, false) 64 [some (.ref 149), some (.int (nI w)), some (.int 1), some (.int (nI i))] [] ly KK Q
            refine Rn.iload_n dX12_sure_64 rfl ?_
            refine Rn.if_ne dX12_sure_65 (fun h65_3 => ?_) (fun h65_3 => ?_)
            · skip
              refine Rn.iload_n dX12_sure_73 rfl ?_
              refine Rn.iconstv (v := 1) dX12_sure_74 ic_1 ?_
              refine Rn.icmp_ne dX12_sure_75 (fun h75_4 => ?_) (fun h75_4 => ?_)
              · skip
                first | exact absurd h75_4 (by decide) | exact absurd (by decide) h75_4
              · skip
                refine Rn.iconstv (v := 0) dX12_sure_78 ic_0 ?_
                refine Rn.goto dX12_sure_79 ?_
                exact Rn.iret (ty := .int) dX12_sure_92 rfl rfl (hA KK hqK)
            · skip
              first | exact absurd (by decide) h65_3 | exact absurd h65_3 (by decide)
          · skip
            show Rn G l mX12_sure (10, 0, 0, false) 64 [some (.ref 149), some (.int (nI w)), some (.int 2), some (.int (nI i))] [] ly KK Q
            refine Rn.iload_n dX12_sure_64 rfl ?_
            refine Rn.if_ne dX12_sure_65 (fun h65_5 => ?_) (fun h65_5 => ?_)
            · skip
              refine Rn.iload_n dX12_sure_73 rfl ?_
              refine Rn.iconstv (v := 1) dX12_sure_74 ic_1 ?_
              refine Rn.icmp_ne dX12_sure_75 (fun h75_6 => ?_) (fun h75_6 => ?_)
              · skip
                refine Rn.iload_n dX12_sure_82 rfl ?_
                refine Rn.iconstv (v := 2) dX12_sure_83 ic_2 ?_
                refine Rn.icmp_ne dX12_sure_84 (fun h84_7 => ?_) (fun h84_7 => ?_)
                · skip
                  first | exact absurd h84_7 (by decide) | exact absurd (by decide) h84_7
                · skip
                  refine Rn.iconstv (v := 1) dX12_sure_87 ic_1 ?_
                  refine Rn.goto dX12_sure_88 ?_
                  exact Rn.iret (ty := .int) dX12_sure_92 rfl rfl (hA KK hqK)
              · skip
                first | exact absurd (by decide) h75_6 | exact absurd h75_6 (by decide)
            · skip
              first | exact absurd (by decide) h65_5 | exact absurd h65_5 (by decide)
          · skip
            show Rn G l mX12_sure (10, 0, 0, false) 64 [some (.ref 149), some (.int (nI w)), some (.int 3), some (.int (nI i))] [] ly KK Q
            refine Rn.iload_n dX12_sure_64 rfl ?_
            refine Rn.if_ne dX12_sure_65 (fun h65_8 => ?_) (fun h65_8 => ?_)
            · skip
              refine Rn.iload_n dX12_sure_73 rfl ?_
              refine Rn.iconstv (v := 1) dX12_sure_74 ic_1 ?_
              refine Rn.icmp_ne dX12_sure_75 (fun h75_9 => ?_) (fun h75_9 => ?_)
              · skip
                refine Rn.iload_n dX12_sure_82 rfl ?_
                refine Rn.iconstv (v := 2) dX12_sure_83 ic_2 ?_
                refine Rn.icmp_ne dX12_sure_84 (fun h84_10 => ?_) (fun h84_10 => ?_)
                · skip
                  refine Rn.iconstv (v := 2) dX12_sure_91 ic_2 ?_
                  exact Rn.iret (ty := .int) dX12_sure_92 rfl rfl (hA KK hqK)
                · skip
                  first | exact absurd (by decide) h84_10 | exact absurd h84_10 (by decide)
              · skip
                first | exact absurd (by decide) h75_9 | exact absurd h75_9 (by decide)
            · skip
              first | exact absurd (by decide) h65_8 | exact absurd h65_8 (by decide)
        · skip
          exact absurd (nI_le (a := 2 ^ nw) (b := i) (by omega) (by omega)) hc
      | succ f ih =>
        intro i a b KK hi hqK hmK hyK ha hb hst
        have hRKK : RW ly KK.2.2 := by rw [hqK.1]; exact hR
        have hnw : KK.1 151 6 = nI nw := (hS.q hqK).nw
        refine Rn.iload_n dX12_sure_27 rfl ?_
        refine Rn.iconstv (v := 1) dX12_sure_28 ic_1 ?_
        refine Rn.aload_n dX12_sure_29 rfl ?_
        refine Rn.getR dX12_sure_30 fX12_15 rfl (rc149 hRKK) (show KK.2.2 149 3 = some 151 from (rpt3 hRKK)) ?_
        refine Rn.bipushv (v := 6) dX12_sure_33 bp_6 ?_
        refine Rn.iald dX12_sure_35 (rc151 hRKK) (by unfold vp_in; decide) ?_
        refine Rn.topI (y := KK.1 151 6) (rfl) ?_
        refine Rn.topI (y := nI nw) (hnw) ?_
        refine Rn.ishl dX12_sure_36 ?_
        refine Rn.topI (y := nI (2 ^ nw)) (shl1 nw (by omega)) ?_
        refine Rn.icmp_ge dX12_sure_37 (fun hc => ?_) (fun hc => ?_)
        · skip
          exact absurd hc (nI_ge (a := i) (b := 2 ^ nw) (by omega) (by omega))
        · skip
          refine Rn.aload_n dX12_sure_40 rfl ?_
          refine Rn.iload_n dX12_sure_41 rfl ?_
          refine Rn.callV1 dX12_sure_42 vX12_527 (rc149 hRKK) (by decide) rfl (rvSet (M := M) (N := KK) (z := nI i) (ca := ca) (Q := fun v0 ly0 K => v0 = some (.int (b01 (soB (TR n nw p h0 0 ca W (fun m => valL m (lw 0).1 (lw 0).2) (fun m => valL m (lw 1).1 (lw 1).2)) (zsc 0 (lvO (nI i) (fun _ => 0) 6)) (kbR M m) tm ce mu al ng L))) ∧ ly0 = ly ∧ qR M K ∧ md K (-1) 0 ∧ skR (K.1 195) (M.1 194) m) hG hmK hyK hS hca hqK hR (fun K a c d => ⟨rfl, rfl, a, c, d⟩)) (by decide) ⟨(Nat.le_of_ble_eq_true rfl), (Nat.le_of_ble_eq_true rfl), (Nat.le_of_ble_eq_true rfl)⟩ (fun h => by cases h) (fun v1 ly1 N2 ⟨q1, q2, hq2, hm2, hy2⟩ => ?_)
          rw [q1, q2]
          have hRN2 : RW ly N2.2.2 := by rw [hq2.1]; exact hR
          refine Rn.if_eq dX12_sure_45 (fun hB => ?_) (fun hB => ?_)
          · skip
            have hBf : ¬ (fun i => soB (TR n nw p h0 0 ca W (fun m => valL m (lw 0).1 (lw 0).2) (fun m => valL m (lw 1).1 (lw 1).2)) (zsc 0 (lvO (nI i) (fun _ => 0) 6)) (kbR M m) tm ce mu al ng L) i = true := b01_0 hB
            have hsB : ¬ sB (fun i => soB (TR n nw p h0 0 ca W (fun m => valL m (lw 0).1 (lw 0).2) (fun m => valL m (lw 1).1 (lw 1).2)) (zsc 0 (lvO (nI i) (fun _ => 0) 6)) (kbR M m) tm ce mu al ng L) (2 ^ nw) i = true := by unfold sB; rw [Bool.and_eq_true]; exact fun h => hBf h.2
            refine Rn.iincN (lv' := [some (.ref 149), some (.int (nI w)), some (.int (snR a b)), some (.int (nI (i + 1)))]) dX12_sure_58 rfl (by decide) rfl ?_
            refine Rn.goto dX12_sure_61 ?_
            refine ih (i + 1) a b N2 (by omega) hq2 hm2 hy2 ha hb (hst.trans ?_)
            rw [show 64 - i = (64 - (i + 1)) + 1 by omega]
            exact if_neg hsB
          · skip
            have hBt : (fun i => soB (TR n nw p h0 0 ca W (fun m => valL m (lw 0).1 (lw 0).2) (fun m => valL m (lw 1).1 (lw 1).2)) (zsc 0 (lvO (nI i) (fun _ => 0) 6)) (kbR M m) tm ce mu al ng L) i = true := b01_n hB
            have hsB : sB (fun i => soB (TR n nw p h0 0 ca W (fun m => valL m (lw 0).1 (lw 0).2) (fun m => valL m (lw 1).1 (lw 1).2)) (zsc 0 (lvO (nI i) (fun _ => 0) 6)) (kbR M m) tm ce mu al ng L) (2 ^ nw) i = true := by unfold sB; rw [decide_eq_true (by omega), hBt]; rfl
            refine Rn.iload_n dX12_sure_48 rfl ?_
            refine Rn.iconstv (v := 1) dX12_sure_49 ic_1 ?_
            refine Rn.iload_n dX12_sure_50 rfl ?_
            refine Rn.iload_n dX12_sure_51 rfl ?_
            refine Rn.ishr dX12_sure_52 ?_
            refine Rn.iconstv (v := 1) dX12_sure_53 ic_1 ?_
            refine Rn.iand dX12_sure_54 ?_
            refine Rn.ishl dX12_sure_55 ?_
            refine Rn.ior dX12_sure_56 ?_
            refine Rn.topI (y := snR (a ||| inW i w) (b ||| (if inW i w = 0 then 1 else 0))) (sn_or ha hb) ?_
            refine Rn.istore_n (lv' := [some (.ref 149), some (.int (nI w)), some (.int (snR (a ||| inW i w) (b ||| (if inW i w = 0 then 1 else 0)))), some (.int (nI i))]) dX12_sure_57 (by decide) rfl ?_
            refine Rn.iincN (lv' := [some (.ref 149), some (.int (nI w)), some (.int (snR (a ||| inW i w) (b ||| (if inW i w = 0 then 1 else 0)))), some (.int (nI (i + 1)))]) dX12_sure_58 rfl (by decide) rfl ?_
            refine Rn.goto dX12_sure_61 ?_
            refine ih (i + 1) _ _ N2 (by omega) hq2 hm2 hy2 (or01 ha (inW01 i w)) (or01 hb (by split; exact Or.inr rfl; exact Or.inl rfl)) (hst.trans ?_)
            rw [show 64 - i = (64 - (i + 1)) + 1 by omega]
            exact if_pos hsB
    exact loop (2 ^ nw) 0 0 0 N1 (by omega) hq1 hm1 hy1 (Or.inl rfl) (Or.inl rfl) rfl
  · skip
    refine Rn.iconstv (v := -1) dX12_sure_13 ic_m1 ?_
    exact Rn.iret (ty := .int) dX12_sure_14 rfl rfl (hQ.1 (fun h => (inN_1 (x := x) (k := nw) (lt31 hS.w6)).elim (fun k => k.2 h) (fun k => absurd (k.1.symm.trans g1) (by decide))) _ qR.rf.f0)
