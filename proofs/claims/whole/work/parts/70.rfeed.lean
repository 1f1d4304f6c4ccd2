def xs5 (x1 x2 x3 x4 x5 : Int32) (i : Nat) : Int32 := if i < 4 then x1 else if i < 8 then x2 else if i < 12 then x3 else if i < 16 then x4 else x5
def fdB (x : Int32) (k : Nat) : Int32 := (x >>> (nI (24 - 8 * k) &&& 31)) &&& 255
def fdR (f : Nat → Int32) (t : Nat) (x : Nat → Int32) : Nat → Nat → Int32
  | 0 => f
  | k + 1 => upd (fdR f t x k) (t + k) (fdB (x k) (k % 4))
theorem tX12_feed {G : Gx} {l : Launch} {ly : Ly} {M : Mm} {t : Nat} {x1 x2 x3 x4 x9 : Int32} (ht : M.1 149 2 = nI t) (ht7 : t ≤ 700) (hR : RW ly M.2.2) {Q : Qt} (hQ : (680 < t → ∀ K, qR M K → Q (some (.int (-1))) ly K) ∧ (t ≤ 680 → ∀ K : Mm, K.2.2 = M.2.2 → (∀ a, a ≠ 149 → a ≠ 150 → K.1 a = M.1 a) → (∀ j, j ≠ 0 → j ≠ 2 → K.1 149 j = M.1 149 j) → K.1 149 2 = nI (t + 20) → K.1 150 = fdR (M.1 150) t (xs5 x1 x2 x3 x4 x9) 20 → Q (some (.int (nI (t + 20)))) ly K)) : Mt G l mX12_feed (0, 0, 0, false) [.ref 149, .int x1, .int x2, .int x3, .int x4, .int x9] ly M Q := by
  refine Mt.of (lv := [some (.ref 149), some (.int x1), some (.int x2), some (.int x3), some (.int x4), some (.int x9), none, none]) rfl ?_
  refine Rn.aload_n dX12_feed_0 rfl ?_
  refine Rn.iconstv (v := 0) dX12_feed_1 ic_0 ?_
  refine Rn.putI dX12_feed_2 fX12_169 rfl rfl rfl (rc149 hR) ?_
  refine Rn.aload_n dX12_feed_5 rfl ?_
  refine Rn.getI dX12_feed_6 fX12_172 rfl (rc149 hR) ?_
  refine Rn.topI (y := nI t) (ht) ?_
  refine Rn.sipushv (v := 680) dX12_feed_9 sp_680 ?_
  refine Rn.icmp_le dX12_feed_12 (fun k1 => ?_) (fun k1 => ?_)
  · skip
    have hle : t ≤ 680 := (nI_leI (b := 680) (by omega) (by decide)).mp k1
    have hA := hQ.2 hle
    refine Rn.iconstv (v := 0) dX12_feed_17 ic_0 ?_
    refine Rn.istore (lv' := [some (.ref 149), some (.int x1), some (.int x2), some (.int x3), some (.int x4), some (.int x9), some (.int 0), none]) dX12_feed_18 (by decide) rfl ?_
    have loop : ∀ f i : Nat, i + f = 20 → Rn G l mX12_feed (0, 0, 0, false) 20 [some (.ref 149), some (.int x1), some (.int x2), some (.int x3), some (.int x4), some (.int x9), some (.int (nI i)), none] [] ly (sI (sI M 149 (upd (M.1 149) 0 0)) 150 (fdR (M.1 150) t (xs5 x1 x2 x3 x4 x9) i)) Q := by
      intro f
      induction f with
      | zero =>
        intro i hi
        refine Rn.iload dX12_feed_20 rfl ?_
        refine Rn.bipushv (v := 20) dX12_feed_22 bp_20 ?_
        refine Rn.icmp_ge dX12_feed_24 (fun hc => ?_) (fun hc => ?_)
        · skip
          have ei : i = 20 := by omega
          refine Rn.aload_n dX12_feed_110 rfl ?_
          refine Rn.dup dX12_feed_111 rfl ?_
          refine Rn.getI dX12_feed_112 fX12_172 rfl (rc149 hR) ?_
          refine Rn.topI (y := nI t) (ht) ?_
          refine Rn.bipushv (v := 20) dX12_feed_115 bp_20 ?_
          refine Rn.iadd dX12_feed_117 ?_
          refine Rn.topI (y := nI (t + 20)) (nI_add t 20) ?_
          refine Rn.putI dX12_feed_118 fX12_172 rfl rfl rfl (rc149 hR) ?_
          refine Rn.meq (M2 := sI (sI M 149 (upd (upd (M.1 149) 0 0) 2 (nI (t + 20)))) 150 (fdR (M.1 150) t (xs5 x1 x2 x3 x4 x9) i)) ((sI_comm (show 150 ≠ 149 by decide)).trans (congrArg (fun m9 => sI m9 150 (fdR (M.1 150) t (xs5 x1 x2 x3 x4 x9) i)) (sI_sI _ _ _ _))) ?_
          refine Rn.aload_n dX12_feed_121 rfl ?_
          refine Rn.getI dX12_feed_122 fX12_172 rfl (rc149 hR) ?_
          rw [ei]
          exact Rn.iret (ty := .int) dX12_feed_125 rfl rfl (hA _ rfl (fun a a1 a2 => (sI_ne (by omega)).trans (sI_ne (by omega))) (fun j a1 a2 => (pk_un (by omega)).trans (pk_un (by omega))) rfl rfl)
        · skip
          exact absurd (nI_le (a := 20) (b := i) (by omega) (by omega)) hc
      | succ f ih =>
        intro i hi
        refine Rn.iload dX12_feed_20 rfl ?_
        refine Rn.bipushv (v := 20) dX12_feed_22 bp_20 ?_
        refine Rn.icmp_ge dX12_feed_24 (fun hc => ?_) (fun hc => ?_)
        · skip
          exact absurd hc (nI_ge (a := i) (b := 20) (by omega) (by omega))
        · skip
          have join : Rn G l mX12_feed (0, 0, 0, false) 73 [some (.ref 149), some (.int x1), some (.int x2), some (.int x3), some (.int x4), some (.int x9), some (.int (nI i)), none] [.int (xs5 x1 x2 x3 x4 x9 i)] ly (sI (sI M 149 (upd (M.1 149) 0 0)) 150 (fdR (M.1 150) t (xs5 x1 x2 x3 x4 x9) i)) Q := by
            refine Rn.istore (lv' := [some (.ref 149), some (.int x1), some (.int x2), some (.int x3), some (.int x4), some (.int x9), some (.int (nI i)), some (.int (xs5 x1 x2 x3 x4 x9 i))]) dX12_feed_73 (by decide) rfl ?_
            refine Rn.aload_n dX12_feed_75 rfl ?_
            refine Rn.getR dX12_feed_76 fX12_9 rfl (rc149 hR) (show M.2.2 149 1 = some 150 from (rpt1 hR)) ?_
            refine Rn.aload_n dX12_feed_79 rfl ?_
            refine Rn.getI dX12_feed_80 fX12_172 rfl (rc149 hR) ?_
            refine Rn.topI (y := nI t) (ht) ?_
            refine Rn.iload dX12_feed_83 rfl ?_
            refine Rn.iadd dX12_feed_85 ?_
            refine Rn.topI (y := nI (t + i)) (nI_add t i) ?_
            refine Rn.iload dX12_feed_86 rfl ?_
            refine Rn.bipushv (v := 24) dX12_feed_88 bp_24 ?_
            refine Rn.bipushv (v := 8) dX12_feed_90 bp_8 ?_
            refine Rn.iload dX12_feed_92 rfl ?_
            refine Rn.iconstv (v := 4) dX12_feed_94 ic_4 ?_
            refine Rn.irem dX12_feed_95 (by decide) ?_
            refine Rn.topI (y := nI (i % 4)) (i32rem (b := 4) (by omega) (by decide)) ?_
            refine Rn.imul dX12_feed_96 ?_
            refine Rn.topI (y := nI (8 * (i % 4))) (nI_mul 8 (i % 4)) ?_
            refine Rn.isub dX12_feed_97 ?_
            refine Rn.topI (y := nI (24 - 8 * (i % 4))) (by first | exact (congrArg (fun q => (24 : Int32) - q) (nI_mul 8 (i % 4))).trans (i32sub (a := 24) (by omega)) | exact i32sub (a := 24) (by omega)) ?_
            refine Rn.ishr dX12_feed_98 ?_
            refine Rn.sipushv (v := 255) dX12_feed_99 sp_255 ?_
            refine Rn.iand dX12_feed_102 ?_
            refine Rn.topI (y := fdB (xs5 x1 x2 x3 x4 x9 i) (i % 4)) (rfl) ?_
            refine Rn.iastN (k0 := (t + i)) dX12_feed_103 (rc150 hR) (by omega) (by decide) ?_
            refine Rn.meq (M2 := sI (sI M 149 (upd (M.1 149) 0 0)) 150 (upd (fdR (M.1 150) t (xs5 x1 x2 x3 x4 x9) i) (t + i) (fdB (xs5 x1 x2 x3 x4 x9 i) (i % 4)))) (sI_sI _ _ _ _) ?_
            refine Rn.iincN (lv' := [some (.ref 149), some (.int x1), some (.int x2), some (.int x3), some (.int x4), some (.int x9), some (.int (nI (i + 1))), some (.int (xs5 x1 x2 x3 x4 x9 i))]) dX12_feed_104 rfl (by decide) rfl ?_
            refine Rn.goto dX12_feed_107 ?_
            refine Rn.forget (lv' := [some (.ref 149), some (.int x1), some (.int x2), some (.int x3), some (.int x4), some (.int x9), some (.int (nI (i + 1))), none]) (⟨rfl, ⟨rfl, ⟨rfl, ⟨rfl, ⟨rfl, ⟨rfl, ⟨rfl, trivial⟩⟩⟩⟩⟩⟩⟩) ?_
            exact ih (i + 1) (by omega)
          refine Rn.iload dX12_feed_27 rfl ?_
          refine Rn.iconstv (v := 4) dX12_feed_29 ic_4 ?_
          refine Rn.icmp_ge dX12_feed_30 (fun c0 => ?_) (fun c0 => ?_)
          · skip
            have d0 : ¬ i < 4 := fun h => absurd c0 (nI_ge (a := i) (b := 4) h (by omega))
            refine Rn.iload dX12_feed_37 rfl ?_
            refine Rn.bipushv (v := 8) dX12_feed_39 bp_8 ?_
            refine Rn.icmp_ge dX12_feed_41 (fun c1 => ?_) (fun c1 => ?_)
            · skip
              have d1 : ¬ i < 8 := fun h => absurd c1 (nI_ge (a := i) (b := 8) h (by omega))
              refine Rn.iload dX12_feed_48 rfl ?_
              refine Rn.bipushv (v := 12) dX12_feed_50 bp_12 ?_
              refine Rn.icmp_ge dX12_feed_52 (fun c2 => ?_) (fun c2 => ?_)
              · skip
                have d2 : ¬ i < 12 := fun h => absurd c2 (nI_ge (a := i) (b := 12) h (by omega))
                refine Rn.iload dX12_feed_59 rfl ?_
                refine Rn.bipushv (v := 16) dX12_feed_61 bp_16 ?_
                refine Rn.icmp_ge dX12_feed_63 (fun c3 => ?_) (fun c3 => ?_)
                · skip
                  have d3 : ¬ i < 16 := fun h => absurd c3 (nI_ge (a := i) (b := 16) h (by omega))
                  refine Rn.iload dX12_feed_71 rfl ?_
                  refine Rn.topI (y := xs5 x1 x2 x3 x4 x9 i) (by unfold xs5; rw [if_neg d0, if_neg d1, if_neg d2, if_neg d3]) ?_
                  exact join
                · skip
                  have e3 : i < 16 := Nat.lt_of_not_le (fun h => c3 (nI_le (a := 16) (b := i) h (by omega)))
                  refine Rn.iload dX12_feed_66 rfl ?_
                  refine Rn.goto dX12_feed_68 ?_
                  refine Rn.topI (y := xs5 x1 x2 x3 x4 x9 i) (by unfold xs5; rw [if_neg d0, if_neg d1, if_neg d2, if_pos e3]) ?_
                  exact join
              · skip
                have e2 : i < 12 := Nat.lt_of_not_le (fun h => c2 (nI_le (a := 12) (b := i) h (by omega)))
                refine Rn.iload_n dX12_feed_55 rfl ?_
                refine Rn.goto dX12_feed_56 ?_
                refine Rn.topI (y := xs5 x1 x2 x3 x4 x9 i) (by unfold xs5; rw [if_neg d0, if_neg d1, if_pos e2]) ?_
                exact join
            · skip
              have e1 : i < 8 := Nat.lt_of_not_le (fun h => c1 (nI_le (a := 8) (b := i) h (by omega)))
              refine Rn.iload_n dX12_feed_44 rfl ?_
              refine Rn.goto dX12_feed_45 ?_
              refine Rn.topI (y := xs5 x1 x2 x3 x4 x9 i) (by unfold xs5; rw [if_neg d0, if_pos e1]) ?_
              exact join
          · skip
            have e0 : i < 4 := Nat.lt_of_not_le (fun h => c0 (nI_le (a := 4) (b := i) h (by omega)))
            refine Rn.iload_n dX12_feed_33 rfl ?_
            refine Rn.goto dX12_feed_34 ?_
            refine Rn.topI (y := xs5 x1 x2 x3 x4 x9 i) (by unfold xs5; rw [if_pos e0]) ?_
            exact join
    refine Rn.meq (M2 := sI (sI M 149 (upd (M.1 149) 0 0)) 150 (fdR (M.1 150) t (xs5 x1 x2 x3 x4 x9) 0)) (by exact (sI_self2 (by decide)).symm) ?_
    exact loop 20 0 (by omega)
  · skip
    refine Rn.iconstv (v := -1) dX12_feed_15 ic_m1 ?_
    exact Rn.iret (ty := .int) dX12_feed_16 rfl rfl (hQ.1 (by have h9 : ¬ t ≤ 680 := fun h => k1 ((nI_leI (b := 680) (by omega) (by decide)).mpr h); omega) _ qR.rf.f0)
