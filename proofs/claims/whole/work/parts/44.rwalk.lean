theorem x6 {j : Nat} (h : j < 6) : j = 0 ∨ j = 1 ∨ j = 2 ∨ j = 3 ∨ j = 4 ∨ j = 5 := by omega
theorem tX12_calls {G : Gx} {l : Launch} {ly : Ly} {M : Mm} {b c : Nat} {z v : Int32} (hb : b < 24) (hc : c < 12) (hR : RW ly M.2.2) {Q : Qt} (hQ : ∀ L : Nat → Nat → Int64, (∀ k, k ≠ 184 → L k = M.2.1 k) → (∀ j, j < 6 → L 184 j = (nmv z (M.1 169 b) (nI c) (M.1 173 (12 * b + c)) v (htR (M.1 149 55) (M.1 151 4)) j).toInt64) → Q none ly (M.1, L, M.2.2)) : Mt G l mX12_calls (2, 0, 0, false) [.ref 149, .int (nI b), .int z, .int (nI c), .int v] ly M Q := by
  refine Mt.of (lv := [some (.ref 149), some (.int (nI b)), some (.int z), some (.int (nI c)), some (.int v)]) rfl ?_
  refine Rn.aload_n dX12_calls_0 rfl ?_
  refine Rn.getR dX12_calls_1 fX12_119 rfl (rc149 hR) (show M.2.2 149 52 = some 184 from (rpt52 hR)) ?_
  refine Rn.iconstv (v := 0) dX12_calls_4 ic_0 ?_
  refine Rn.iload_n dX12_calls_5 rfl ?_
  refine Rn.i2l dX12_calls_6 ?_
  refine Rn.last dX12_calls_7 (rc184 hR) (by unfold vp_in; decide) ?_
  refine Rn.aload_n dX12_calls_8 rfl ?_
  refine Rn.getR dX12_calls_9 fX12_119 rfl (rc149 hR) (show M.2.2 149 52 = some 184 from (rpt52 hR)) ?_
  refine Rn.iconstv (v := 1) dX12_calls_12 ic_1 ?_
  refine Rn.aload_n dX12_calls_13 rfl ?_
  refine Rn.getR dX12_calls_14 fX12_73 rfl (rc149 hR) (show M.2.2 149 35 = some 169 from (rpt35 hR)) ?_
  refine Rn.iload_n dX12_calls_17 rfl ?_
  refine Rn.ialdN (k0 := b) dX12_calls_18 (rc169 hR) (by omega) (by decide) ?_
  refine Rn.i2l dX12_calls_19 ?_
  refine Rn.last dX12_calls_20 (rc184 hR) (by unfold vp_in; decide) ?_
  refine Rn.meq (M2 := sL M 184 (vp_updL (vp_updL (M.2.1 184) 0 (Int32.toInt64 z)) 1 (Int32.toInt64 (M.1 169 b)))) (sL_sL _ _ _ _) ?_
  refine Rn.aload_n dX12_calls_21 rfl ?_
  refine Rn.getR dX12_calls_22 fX12_119 rfl (rc149 hR) (show M.2.2 149 52 = some 184 from (rpt52 hR)) ?_
  refine Rn.iconstv (v := 2) dX12_calls_25 ic_2 ?_
  refine Rn.iload_n dX12_calls_26 rfl ?_
  refine Rn.i2l dX12_calls_27 ?_
  refine Rn.last dX12_calls_28 (rc184 hR) (by unfold vp_in; decide) ?_
  refine Rn.meq (M2 := sL M 184 (vp_updL (vp_updL (vp_updL (M.2.1 184) 0 (Int32.toInt64 z)) 1 (Int32.toInt64 (M.1 169 b))) 2 (Int32.toInt64 (nI c)))) (sL_sL _ _ _ _) ?_
  refine Rn.aload_n dX12_calls_29 rfl ?_
  refine Rn.getR dX12_calls_30 fX12_119 rfl (rc149 hR) (show M.2.2 149 52 = some 184 from (rpt52 hR)) ?_
  refine Rn.iconstv (v := 3) dX12_calls_33 ic_3 ?_
  refine Rn.aload_n dX12_calls_34 rfl ?_
  refine Rn.getR dX12_calls_35 fX12_86 rfl (rc149 hR) (show M.2.2 149 39 = some 173 from (rpt39 hR)) ?_
  refine Rn.bipushv (v := 12) dX12_calls_38 bp_12 ?_
  refine Rn.iload_n dX12_calls_40 rfl ?_
  refine Rn.imul dX12_calls_41 ?_
  refine Rn.topI (y := nI (12 * b)) (nI_mul 12 b) ?_
  refine Rn.iload_n dX12_calls_42 rfl ?_
  refine Rn.iadd dX12_calls_43 ?_
  refine Rn.topI (y := nI (12 * b + c)) (nI_add (12 * b) c) ?_
  refine Rn.ialdN (k0 := (12 * b + c)) dX12_calls_44 (rc173 hR) (by omega) (by decide) ?_
  refine Rn.i2l dX12_calls_45 ?_
  refine Rn.last dX12_calls_46 (rc184 hR) (by unfold vp_in; decide) ?_
  refine Rn.meq (M2 := sL M 184 (vp_updL (vp_updL (vp_updL (vp_updL (M.2.1 184) 0 (Int32.toInt64 z)) 1 (Int32.toInt64 (M.1 169 b))) 2 (Int32.toInt64 (nI c))) 3 (Int32.toInt64 (M.1 173 (12 * b + c))))) (sL_sL _ _ _ _) ?_
  refine Rn.aload_n dX12_calls_47 rfl ?_
  refine Rn.getR dX12_calls_48 fX12_119 rfl (rc149 hR) (show M.2.2 149 52 = some 184 from (rpt52 hR)) ?_
  refine Rn.iconstv (v := 4) dX12_calls_51 ic_4 ?_
  refine Rn.iload dX12_calls_52 rfl ?_
  refine Rn.i2l dX12_calls_54 ?_
  refine Rn.last dX12_calls_55 (rc184 hR) (by unfold vp_in; decide) ?_
  refine Rn.meq (M2 := sL M 184 (vp_updL (vp_updL (vp_updL (vp_updL (vp_updL (M.2.1 184) 0 (Int32.toInt64 z)) 1 (Int32.toInt64 (M.1 169 b))) 2 (Int32.toInt64 (nI c))) 3 (Int32.toInt64 (M.1 173 (12 * b + c)))) 4 (Int32.toInt64 v))) (sL_sL _ _ _ _) ?_
  refine Rn.aload_n dX12_calls_56 rfl ?_
  refine Rn.getR dX12_calls_57 fX12_119 rfl (rc149 hR) (show M.2.2 149 52 = some 184 from (rpt52 hR)) ?_
  refine Rn.iconstv (v := 5) dX12_calls_60 ic_5 ?_
  refine Rn.aload_n dX12_calls_61 rfl ?_
  refine Rn.callV0 dX12_calls_62 vX12_387 (rc149 hR) (by decide) rfl (tX12_heat hR) (by decide) ⟨(Nat.le_of_ble_eq_true rfl), (Nat.le_of_ble_eq_true rfl), (Nat.le_of_ble_eq_true rfl)⟩ (fun h => by cases h) (fun v1 ly1 M1 ⟨q1, q2, q3⟩ => ?_)
  rw [q1, q2, q3]
  refine Rn.i2l dX12_calls_65 ?_
  refine Rn.last dX12_calls_66 (rc184 hR) (by unfold vp_in; decide) ?_
  refine Rn.meq (M2 := sL M 184 (vp_updL (vp_updL (vp_updL (vp_updL (vp_updL (vp_updL (M.2.1 184) 0 (Int32.toInt64 z)) 1 (Int32.toInt64 (M.1 169 b))) 2 (Int32.toInt64 (nI c))) 3 (Int32.toInt64 (M.1 173 (12 * b + c)))) 4 (Int32.toInt64 v)) 5 (Int32.toInt64 (htR (M.1 149 55) (M.1 151 4))))) (sL_sL _ _ _ _) ?_
  refine Rn.vret dX12_calls_67 rfl (hQ _ (fun k h => ?_) (fun j hj => ?_))
  · show (if k = 184 then _ else M.2.1 k) = _
    rw [if_neg h]
  · rcases x6 hj with rfl | rfl | rfl | rfl | rfl | rfl <;> rfl
/-- a bridge's walkers and pushes alone have changed -/
def tdF (M K : Mm) : Prop := K.2.2 = M.2.2 ∧ (∀ a, a ≠ 149 → a ≠ 177 → a ≠ 178 → a ≠ 179 → a ≠ 186 → a ≠ 187 → K.1 a = M.1 a) ∧ (∀ j, j ≠ 54 → K.1 149 j = M.1 149 j)
theorem tdF.rf {M : Mm} : tdF M M := ⟨rfl, fun _ _ _ _ _ _ _ => rfl, fun _ _ => rfl⟩
theorem tdF.tr {M N K : Mm} (h : tdF M N) (g : tdF N K) : tdF M K := ⟨g.1.trans h.1, fun a a1 a2 a3 a4 a5 a6 => (g.2.1 a a1 a2 a3 a4 a5 a6).trans (h.2.1 a a1 a2 a3 a4 a5 a6), fun j a => (g.2.2 j a).trans (h.2.2 j a)⟩
theorem notIn {x : Int32} {n : Nat} {b : Prop} (h : ¬ ∃ j : Nat, j < n ∧ x = nI j) : x < 0 ∨ nI n ≤ x ∨ b := by
  by_cases h0 : x < 0
  · exact Or.inl h0
  · obtain ⟨j, hj, rfl⟩ := nI_of h0
    refine Or.inr (Or.inl ?_)
    by_cases c : j < n
    · exact absurd ⟨j, c, rfl⟩ h
    · exact nI_le (by omega) hj
theorem lwR.mv {I J : Nat → Nat → Int32} {k sz f0 : Nat} {kn : Nat → Int32} (h : lwR I k kn sz f0) (e : ∀ a, 165 ≤ a ∧ a ≤ 168 → J a = I a) : lwR J k kn sz f0 := by
  unfold lwR
  rw [e 165 (by omega), e 166 (by omega), e 167 (by omega), e 168 (by omega)]
  exact h
theorem tX12_treads {G : Gx} {l : Launch} {ly : Ly} {M : Mm} {b i n kp szp fp szs fs : Nat} {x y u z : Int32} {kpn ksn : Nat → Int32} (hb : b < 24) (hi : i < 144) (hn : M.1 151 0 = nI n) (hn12 : n ≤ 12) (hkp : M.1 149 56 = nI kp) (hkp5 : kp < 10) (hlp : lwR M.1 kp kpn szp fp) (hls : lwR M.1 1 ksn szs fs) (hx : x = if M.1 179 i = 0 then u else M.1 177 i + y) (hR : RW ly M.2.2) {Q : Qt} (hQ : ((x < 0 ∨ nI n ≤ x ∨ (M.1 172 b >>> (x &&& 31)) &&& 1 = 1) → ∀ K : Mm, tdF M K → K.1 177 = upd (M.1 177) i (-1) → K.1 178 = upd (M.1 178) i (M.1 178 i + 1) → K.1 179 = upd (M.1 179) i 2 → K.1 186 = M.1 186 → K.1 187 = M.1 187 → Q none ly K) ∧ (∀ c : Nat, c < n → x = nI c → ¬ (M.1 172 b >>> (nI c &&& 31)) &&& 1 = 1 → ∀ K : Mm, tdF M K → K.1 177 = upd (M.1 177) i (nI c) → K.1 178 = upd (M.1 178) i (M.1 178 i + 1) → K.1 179 = upd (M.1 179) i 1 → K.1 186 = upd (M.1 186) c (M.1 186 c - frc (valL (nmv z (M.1 169 b) (nI c) (M.1 173 (12 * b + c)) ((M.1 178 i + 1) - (M.1 178 i + 1) / 2 * 2) (htR (M.1 149 55) (M.1 151 4))) kpn szp) z) → K.1 187 = upd (M.1 187) c (M.1 187 c + (if (M.1 178 i + 1) - (M.1 178 i + 1) / 2 * 2 = 1 then (if M.1 149 55 = 5 then 0 else frc (valL (nmv z (M.1 169 b) (nI c) (M.1 173 (12 * b + c)) ((M.1 178 i + 1) - (M.1 178 i + 1) / 2 * 2) (htR (M.1 149 55) (M.1 151 4))) ksn szs) 0) else -(if M.1 149 55 = 5 then 0 else frc (valL (nmv z (M.1 169 b) (nI c) (M.1 173 (12 * b + c)) ((M.1 178 i + 1) - (M.1 178 i + 1) / 2 * 2) (htR (M.1 149 55) (M.1 151 4))) ksn szs) 0))) → Q none ly K)) : Mt G l mX12_treads (5, 0, 0, false) [.ref 149, .int (nI b), .int (nI i), .int y, .int u, .int z] ly M Q := by
  refine Mt.of (lv := [some (.ref 149), some (.int (nI b)), some (.int (nI i)), some (.int y), some (.int u), some (.int z), none, none, none]) rfl ?_
  refine Rn.aload_n dX12_treads_0 rfl ?_
  refine Rn.getR dX12_treads_1 fX12_98 rfl (rc149 hR) (show M.2.2 149 43 = some 177 from (rpt43 hR)) ?_
  refine Rn.iload_n dX12_treads_4 rfl ?_
  refine Rn.aload_n dX12_treads_5 rfl ?_
  refine Rn.getR dX12_treads_6 fX12_104 rfl (rc149 hR) (show M.2.2 149 45 = some 179 from (rpt45 hR)) ?_
  refine Rn.iload_n dX12_treads_9 rfl ?_
  refine Rn.ialdN (k0 := i) dX12_treads_10 (rc179 hR) (by omega) (by decide) ?_
  have join : Rn G l mX12_treads (5, 0, 0, false) 27 [some (.ref 149), some (.int (nI b)), some (.int (nI i)), some (.int y), some (.int u), some (.int z), none, none, none] [.int x, .int (nI i), .ref 177] ly M Q := by
    refine Rn.iastN (k0 := i) dX12_treads_27 (rc177 hR) (by omega) (by decide) ?_
    refine Rn.aload_n dX12_treads_28 rfl ?_
    refine Rn.getR dX12_treads_29 fX12_104 rfl (rc149 hR) (show M.2.2 149 45 = some 179 from (rpt45 hR)) ?_
    refine Rn.iload_n dX12_treads_32 rfl ?_
    refine Rn.iconstv (v := 1) dX12_treads_33 ic_1 ?_
    refine Rn.iastN (k0 := i) dX12_treads_34 (rc179 hR) (by omega) (by decide) ?_
    refine Rn.aload_n dX12_treads_35 rfl ?_
    refine Rn.getR dX12_treads_36 fX12_101 rfl (rc149 hR) (show M.2.2 149 44 = some 178 from (rpt44 hR)) ?_
    refine Rn.iload_n dX12_treads_39 rfl ?_
    refine Rn.dup2 dX12_treads_40 rfl rfl ?_
    refine Rn.ialdN (k0 := i) dX12_treads_41 (rc178 hR) (by omega) (by decide) ?_
    refine Rn.iconstv (v := 1) dX12_treads_42 ic_1 ?_
    refine Rn.iadd dX12_treads_43 ?_
    refine Rn.iastN (k0 := i) dX12_treads_44 (rc178 hR) (by omega) (by decide) ?_
    refine Rn.aload_n dX12_treads_45 rfl ?_
    refine Rn.getR dX12_treads_46 fX12_98 rfl (rc149 hR) (show M.2.2 149 43 = some 177 from (rpt43 hR)) ?_
    refine Rn.iload_n dX12_treads_49 rfl ?_
    refine Rn.ialdN (k0 := i) dX12_treads_50 (rc177 hR) (by omega) (by decide) ?_
    refine Rn.topI (y := x) (pk_us) ?_
    refine Rn.istore (lv' := [some (.ref 149), some (.int (nI b)), some (.int (nI i)), some (.int y), some (.int u), some (.int z), some (.int x), none, none]) dX12_treads_51 (by decide) rfl ?_
    refine Rn.aload_n dX12_treads_53 rfl ?_
    refine Rn.iload dX12_treads_54 rfl ?_
    refine Rn.callV1 dX12_treads_56 vX12_403 (rc149 hR) (by decide) rfl (tX12_isCell (M := sI (sI (sI M 177 (upd (M.1 177) i x)) 179 (upd (M.1 179) i 1)) 178 (upd (M.1 178) i ((M.1 178 i) + 1))) hR) (by decide) ⟨(Nat.le_of_ble_eq_true rfl), (Nat.le_of_ble_eq_true rfl), (Nat.le_of_ble_eq_true rfl)⟩ (fun h => by cases h) (fun v1 ly1 M1 ⟨q1, q2, q3⟩ => ?_)
    rw [q1, q2, q3]
    refine Rn.topI (y := inN x (nI n)) (congrArg (inN x) hn) ?_
    refine Rn.if_eq dX12_treads_59 (fun g1 => ?_) (fun g1 => ?_)
    · skip
      refine Rn.aload_n dX12_treads_77 rfl ?_
      refine Rn.getR dX12_treads_78 fX12_104 rfl (rc149 hR) (show M.2.2 149 45 = some 179 from (rpt45 hR)) ?_
      refine Rn.iload_n dX12_treads_81 rfl ?_
      refine Rn.iconstv (v := 2) dX12_treads_82 ic_2 ?_
      refine Rn.iastN (k0 := i) dX12_treads_83 (rc179 hR) (by omega) (by decide) ?_
      refine Rn.meq (M2 := sI (sI (sI M 177 (upd (M.1 177) i x)) 179 (upd (upd (M.1 179) i 1) i 2)) 178 (upd (M.1 178) i ((M.1 178 i) + 1))) ((sI_comm (show 178 ≠ 179 by decide)).trans (congrArg (fun m9 => sI m9 178 (upd (M.1 178) i ((M.1 178 i) + 1))) (sI_sI _ _ _ _))) ?_
      refine Rn.aload_n dX12_treads_84 rfl ?_
      refine Rn.getR dX12_treads_85 fX12_98 rfl (rc149 hR) (show M.2.2 149 43 = some 177 from (rpt43 hR)) ?_
      refine Rn.iload_n dX12_treads_88 rfl ?_
      refine Rn.iconstv (v := -1) dX12_treads_89 ic_m1 ?_
      refine Rn.iastN (k0 := i) dX12_treads_90 (rc177 hR) (by omega) (by decide) ?_
      refine Rn.meq (M2 := sI (sI (sI M 177 (upd (upd (M.1 177) i x) i (-1))) 179 (upd (upd (M.1 179) i 1) i 2)) 178 (upd (M.1 178) i ((M.1 178 i) + 1))) ((sI_comm (show 178 ≠ 177 by decide)).trans (congrArg (fun m9 => sI m9 178 (upd (M.1 178) i ((M.1 178 i) + 1))) ((sI_comm (show 179 ≠ 177 by decide)).trans (congrArg (fun m9 => sI m9 179 (upd (upd (M.1 179) i 1) i 2)) (sI_sI _ _ _ _))))) ?_
      refine Rn.vret dX12_treads_91 rfl (hQ.1 ((inN_1 (x := x) (k := n) (lt31c hn12)).elim (fun k => notIn k.2) (fun k => absurd (k.1.symm.trans g1) (by decide))) _ ⟨rfl, fun a a1 a2 a3 a4 a5 a6 => by simp only [sI, a2, a3, a4, ↓reduceIte], fun j h => rfl⟩ ?_ rfl ?_ rfl rfl)
      · exact upd_upd _ _ _ _
      · exact upd_upd _ _ _ _
    · skip
      obtain ⟨c, hc, rfl⟩ : ∃ j : Nat, j < n ∧ x = nI j := (inN_1 (x := x) (k := n) (lt31c hn12)).elim (fun k => absurd k.1 g1) (fun k => k.2)
      refine Rn.aload_n dX12_treads_62 rfl ?_
      refine Rn.getR dX12_treads_63 fX12_83 rfl (rc149 hR) (show M.2.2 149 38 = some 172 from (rpt38 hR)) ?_
      refine Rn.iload_n dX12_treads_66 rfl ?_
      refine Rn.ialdN (k0 := b) dX12_treads_67 (rc172 hR) (by omega) (by decide) ?_
      refine Rn.iload dX12_treads_68 rfl ?_
      refine Rn.ishr dX12_treads_70 ?_
      refine Rn.iconstv (v := 1) dX12_treads_71 ic_1 ?_
      refine Rn.iand dX12_treads_72 ?_
      refine Rn.iconstv (v := 1) dX12_treads_73 ic_1 ?_
      refine Rn.icmp_ne dX12_treads_74 (fun g2 => ?_) (fun g2 => ?_)
      · skip
        refine Rn.aload_n dX12_treads_92 rfl ?_
        refine Rn.getR dX12_treads_93 fX12_101 rfl (rc149 hR) (show M.2.2 149 44 = some 178 from (rpt44 hR)) ?_
        refine Rn.iload_n dX12_treads_96 rfl ?_
        refine Rn.ialdN (k0 := i) dX12_treads_97 (rc178 hR) (by omega) (by decide) ?_
        refine Rn.topI (y := (M.1 178 i) + 1) (pk_us) ?_
        refine Rn.iconstv (v := 2) dX12_treads_98 ic_2 ?_
        refine Rn.irem dX12_treads_99 (by decide) ?_
        refine Rn.istore (lv' := [some (.ref 149), some (.int (nI b)), some (.int (nI i)), some (.int y), some (.int u), some (.int z), some (.int (nI c)), some (.int (((M.1 178 i) + 1) - ((M.1 178 i) + 1) / 2 * 2)), none]) dX12_treads_100 (by decide) rfl ?_
        refine Rn.aload_n dX12_treads_102 rfl ?_
        refine Rn.iload_n dX12_treads_103 rfl ?_
        refine Rn.iload dX12_treads_104 rfl ?_
        refine Rn.iload dX12_treads_106 rfl ?_
        refine Rn.iload dX12_treads_108 rfl ?_
        refine Rn.callV4 dX12_treads_110 vX12_406 (rc149 hR) (by decide) rfl (tX12_calls (M := sI (sI (sI M 177 (upd (M.1 177) i (nI c))) 179 (upd (M.1 179) i 1)) 178 (upd (M.1 178) i ((M.1 178 i) + 1))) (Q := fun v0 ly0 K => v0 = none ∧ ly0 = ly ∧ K.1 = (sI (sI (sI M 177 (upd (M.1 177) i (nI c))) 179 (upd (M.1 179) i 1)) 178 (upd (M.1 178) i ((M.1 178 i) + 1))).1 ∧ K.2.2 = (sI (sI (sI M 177 (upd (M.1 177) i (nI c))) 179 (upd (M.1 179) i 1)) 178 (upd (M.1 178) i ((M.1 178 i) + 1))).2.2 ∧ (∀ j, j < 6 → K.2.1 184 j = (nmv z (M.1 169 b) (nI c) (M.1 173 (12 * b + c)) ((M.1 178 i + 1) - (M.1 178 i + 1) / 2 * 2) (htR (M.1 149 55) (M.1 151 4)) j).toInt64)) (b := b) (c := c) hb (by omega) hR (fun L h1 h2 => ⟨rfl, rfl, rfl, rfl, h2⟩)) (by decide) ⟨(Nat.le_of_ble_eq_true rfl), (Nat.le_of_ble_eq_true rfl), (Nat.le_of_ble_eq_true rfl)⟩ (fun h => by cases h) (fun v1 ly1 N1 ⟨q1, q2, p1, r1, nm1⟩ => ?_)
        rw [q1, q2]
        have hA1 : ∀ a, a ≠ 149 → N1.1 a = (sI (sI (sI M 177 (upd (M.1 177) i (nI c))) 179 (upd (M.1 179) i 1)) 178 (upd (M.1 178) i ((M.1 178 i) + 1))).1 a := fun a _ => by rw [p1]
        have hB1 : ∀ j, j ≠ 54 → N1.1 149 j = M.1 149 j := fun j _ => by rw [p1]; rfl
        have hC1 : N1.2.2 = M.2.2 := r1
        have hRN1 : RW ly N1.2.2 := by rw [hC1]; exact hR
        refine Rn.aload_n dX12_treads_113 rfl ?_
        refine Rn.getR dX12_treads_114 fX12_132 rfl (rc149 hRN1) (show N1.2.2 149 63 = some 186 from (rpt63 hRN1)) ?_
        refine Rn.iload dX12_treads_117 rfl ?_
        refine Rn.dup2 dX12_treads_119 rfl rfl ?_
        refine Rn.ialdN (k0 := c) dX12_treads_120 (rc186 hRN1) (by omega) (by decide) ?_
        refine Rn.topI (y := M.1 186 c) ((congrFun (hA1 186 (by decide)) c).trans (rfl)) ?_
        refine Rn.aload_n dX12_treads_121 rfl ?_
        refine Rn.aload_n dX12_treads_122 rfl ?_
        refine Rn.getI dX12_treads_123 fX12_390 rfl (rc149 hRN1) ?_
        refine Rn.topI (y := nI kp) ((hB1 56 (by decide)).trans (hkp)) ?_
        refine Rn.iload dX12_treads_126 rfl ?_
        refine Rn.callV2 dX12_treads_128 vX12_410 (rc149 hRN1) (by decide) rfl (tX12_asks (M := N1) (Q := fun v0 ly0 K => v0 = some (.int (frc (valL (nmv z (M.1 169 b) (nI c) (M.1 173 (12 * b + c)) ((M.1 178 i + 1) - (M.1 178 i + 1) / 2 * 2) (htR (M.1 149 55) (M.1 151 4))) kpn szp) z)) ∧ ly0 = ly ∧ wkF N1 K) (nm := nmv z (M.1 169 b) (nI c) (M.1 173 (12 * b + c)) ((M.1 178 i + 1) - (M.1 178 i + 1) / 2 * 2) (htR (M.1 149 55) (M.1 151 4))) hkp5 (hlp.mv (fun a h => (hA1 a (by omega)).trans (by show _ = M.1 a; rcases (show a = 165 ∨ a = 166 ∨ a = 167 ∨ a = 168 by omega) with rfl | rfl | rfl | rfl <;> rfl))) nm1 hRN1 (fun K h => ⟨rfl, rfl, h⟩)) (by decide) ⟨(Nat.le_of_ble_eq_true rfl), (Nat.le_of_ble_eq_true rfl), (Nat.le_of_ble_eq_true rfl)⟩ (fun h => by cases h) (fun v1 ly1 N2 ⟨q1, q2, w2⟩ => ?_)
        rw [q1, q2]
        have hA2 : ∀ a, a ≠ 149 → N2.1 a = (sI (sI (sI M 177 (upd (M.1 177) i (nI c))) 179 (upd (M.1 179) i 1)) 178 (upd (M.1 178) i ((M.1 178 i) + 1))).1 a := fun a h => (w2.2.1 a h).trans (hA1 a h)
        have hB2 : ∀ j, j ≠ 54 → N2.1 149 j = M.1 149 j := fun j h => (w2.2.2.1 j h).trans (hB1 j h)
        have hC2 : N2.2.2 = M.2.2 := w2.1.trans hC1
        have hRN2 : RW ly N2.2.2 := by rw [hC2]; exact hR
        refine Rn.isub dX12_treads_131 ?_
        refine Rn.iastN (k0 := c) dX12_treads_132 (rc186 hRN2) (by omega) (by decide) ?_
        have hA3m : ∀ a, a ≠ 149 → (sI N2 186 (upd (N2.1 186) c ((M.1 186 c) - (frc (valL (nmv z (M.1 169 b) (nI c) (M.1 173 (12 * b + c)) ((M.1 178 i + 1) - (M.1 178 i + 1) / 2 * 2) (htR (M.1 149 55) (M.1 151 4))) kpn szp) z)))).1 a = (sI (sI (sI (sI M 177 (upd (M.1 177) i (nI c))) 179 (upd (M.1 179) i 1)) 178 (upd (M.1 178) i ((M.1 178 i) + 1))) 186 (upd (M.1 186) c (M.1 186 c - frc (valL (nmv z (M.1 169 b) (nI c) (M.1 173 (12 * b + c)) ((M.1 178 i + 1) - (M.1 178 i + 1) / 2 * 2) (htR (M.1 149 55) (M.1 151 4))) kpn szp) z))).1 a := fun a h => by
          by_cases e : a = 186
          · subst e
            show upd (N2.1 186) c _ = upd (M.1 186) c _
            rw [hA2 186 (by decide)]; rfl
          · rw [sI_ne e, sI_ne e]; exact hA2 a h
        have hB3m : ∀ j, j ≠ 54 → (sI N2 186 (upd (N2.1 186) c ((M.1 186 c) - (frc (valL (nmv z (M.1 169 b) (nI c) (M.1 173 (12 * b + c)) ((M.1 178 i + 1) - (M.1 178 i + 1) / 2 * 2) (htR (M.1 149 55) (M.1 151 4))) kpn szp) z)))).1 149 j = M.1 149 j := hB2
        have hC3m : (sI N2 186 (upd (N2.1 186) c ((M.1 186 c) - (frc (valL (nmv z (M.1 169 b) (nI c) (M.1 173 (12 * b + c)) ((M.1 178 i + 1) - (M.1 178 i + 1) / 2 * 2) (htR (M.1 149 55) (M.1 151 4))) kpn szp) z)))).2.2 = M.2.2 := hC2
        revert hA3m hB3m hC3m
        generalize (sI N2 186 (upd (N2.1 186) c ((M.1 186 c) - (frc (valL (nmv z (M.1 169 b) (nI c) (M.1 173 (12 * b + c)) ((M.1 178 i + 1) - (M.1 178 i + 1) / 2 * 2) (htR (M.1 149 55) (M.1 151 4))) kpn szp) z)))) = N3
        intro hA3 hB3 hC3
        have hRN3 : RW ly N3.2.2 := by rw [hC3]; exact hR
        refine Rn.aload_n dX12_treads_133 rfl ?_
        refine Rn.iload_n dX12_treads_134 rfl ?_
        refine Rn.iload dX12_treads_135 rfl ?_
        refine Rn.iload dX12_treads_137 rfl ?_
        refine Rn.iload dX12_treads_139 rfl ?_
        refine Rn.callV4 dX12_treads_141 vX12_406 (rc149 hRN3) (by decide) rfl (tX12_calls (M := N3) (Q := fun v0 ly0 K => v0 = none ∧ ly0 = ly ∧ K.1 = (N3).1 ∧ K.2.2 = (N3).2.2 ∧ (∀ j, j < 6 → K.2.1 184 j = (nmv z (M.1 169 b) (nI c) (M.1 173 (12 * b + c)) ((M.1 178 i + 1) - (M.1 178 i + 1) / 2 * 2) (htR (M.1 149 55) (M.1 151 4)) j).toInt64)) (b := b) (c := c) hb (by omega) hRN3 (fun L h1 h2 => ⟨rfl, rfl, rfl, rfl, (by intro j hj; show L 184 j = _; rw [h2 j hj]; congr 1; show nmv z (N3.1 169 b) (nI c) (N3.1 173 (12 * b + c)) _ (htR (N3.1 149 55) (N3.1 151 4)) j = _; rw [hA3 169 (by decide), hA3 173 (by decide), hA3 151 (by decide), hB3 55 (by decide)]; rfl)⟩)) (by decide) ⟨(Nat.le_of_ble_eq_true rfl), (Nat.le_of_ble_eq_true rfl), (Nat.le_of_ble_eq_true rfl)⟩ (fun h => by cases h) (fun v1 ly1 N4 ⟨q1, q2, p4, r4, nm4⟩ => ?_)
        rw [q1, q2]
        have hA4 : ∀ a, a ≠ 149 → N4.1 a = (sI (sI (sI (sI M 177 (upd (M.1 177) i (nI c))) 179 (upd (M.1 179) i 1)) 178 (upd (M.1 178) i ((M.1 178 i) + 1))) 186 (upd (M.1 186) c (M.1 186 c - frc (valL (nmv z (M.1 169 b) (nI c) (M.1 173 (12 * b + c)) ((M.1 178 i + 1) - (M.1 178 i + 1) / 2 * 2) (htR (M.1 149 55) (M.1 151 4))) kpn szp) z))).1 a := fun a h => by rw [p4]; exact hA3 a h
        have hB4 : ∀ j, j ≠ 54 → N4.1 149 j = M.1 149 j := fun j h => by rw [p4]; exact hB3 j h
        have hC4 : N4.2.2 = M.2.2 := r4.trans hC3
        have hRN4 : RW ly N4.2.2 := by rw [hC4]; exact hR
        refine Rn.aload_n dX12_treads_144 rfl ?_
        refine Rn.getI dX12_treads_145 fX12_126 rfl (rc149 hRN4) ?_
        refine Rn.topI (y := M.1 149 55) ((hB4 55 (by decide)).trans (rfl)) ?_
        refine Rn.iconstv (v := 5) dX12_treads_148 ic_5 ?_
        have join2 : ∀ N5 : Mm, (∀ a, a ≠ 149 → N5.1 a = (sI (sI (sI (sI M 177 (upd (M.1 177) i (nI c))) 179 (upd (M.1 179) i 1)) 178 (upd (M.1 178) i ((M.1 178 i) + 1))) 186 (upd (M.1 186) c (M.1 186 c - frc (valL (nmv z (M.1 169 b) (nI c) (M.1 173 (12 * b + c)) ((M.1 178 i + 1) - (M.1 178 i + 1) / 2 * 2) (htR (M.1 149 55) (M.1 151 4))) kpn szp) z))).1 a) → (∀ j, j ≠ 54 → N5.1 149 j = M.1 149 j) → N5.2.2 = M.2.2 → Rn G l mX12_treads (5, 0, 0, false) 162 [some (.ref 149), some (.int (nI b)), some (.int (nI i)), some (.int y), some (.int u), some (.int z), some (.int (nI c)), some (.int (((M.1 178 i) + 1) - ((M.1 178 i) + 1) / 2 * 2)), none] [.int (if M.1 149 55 = 5 then 0 else frc (valL (nmv z (M.1 169 b) (nI c) (M.1 173 (12 * b + c)) ((M.1 178 i + 1) - (M.1 178 i + 1) / 2 * 2) (htR (M.1 149 55) (M.1 151 4))) ksn szs) 0)] ly N5 Q := by
          intro N5 hA5 hB5 hC5
          generalize hsd : (if M.1 149 55 = 5 then 0 else frc (valL (nmv z (M.1 169 b) (nI c) (M.1 173 (12 * b + c)) ((M.1 178 i + 1) - (M.1 178 i + 1) / 2 * 2) (htR (M.1 149 55) (M.1 151 4))) ksn szs) 0) = sd at ⊢
          have hRN5 : RW ly N5.2.2 := by rw [hC5]; exact hR
          refine Rn.istore (lv' := [some (.ref 149), some (.int (nI b)), some (.int (nI i)), some (.int y), some (.int u), some (.int z), some (.int (nI c)), some (.int (((M.1 178 i) + 1) - ((M.1 178 i) + 1) / 2 * 2)), some (.int sd)]) dX12_treads_162 (by decide) rfl ?_
          refine Rn.aload_n dX12_treads_164 rfl ?_
          refine Rn.getR dX12_treads_165 fX12_135 rfl (rc149 hRN5) (show N5.2.2 149 64 = some 187 from (rpt64 hRN5)) ?_
          refine Rn.iload dX12_treads_168 rfl ?_
          refine Rn.dup2 dX12_treads_170 rfl rfl ?_
          refine Rn.ialdN (k0 := c) dX12_treads_171 (rc187 hRN5) (by omega) (by decide) ?_
          refine Rn.topI (y := M.1 187 c) ((congrFun (hA5 187 (by decide)) c).trans (rfl)) ?_
          refine Rn.iload dX12_treads_172 rfl ?_
          refine Rn.iconstv (v := 1) dX12_treads_174 ic_1 ?_
          refine Rn.icmp_ne dX12_treads_175 (fun g5 => ?_) (fun g5 => ?_)
          · skip
            refine Rn.iload dX12_treads_183 rfl ?_
            refine Rn.ineg dX12_treads_185 ?_
            refine Rn.iadd dX12_treads_186 ?_
            refine Rn.iastN (k0 := c) dX12_treads_187 (rc187 hRN5) (by omega) (by decide) ?_
            refine Rn.vret dX12_treads_188 rfl (hQ.2 c hc rfl g2 _ ⟨hC5, fun a a1 a2 a3 a4 a5 a6 => (sI_ne a6).trans ((hA5 a a1).trans (by simp only [sI, a2, a3, a4, a5, ↓reduceIte])), fun j h => hB5 j h⟩ ?_ ?_ ?_ ?_ ?_)
            · exact (hA5 177 (by decide)).trans rfl
            · exact (hA5 178 (by decide)).trans rfl
            · exact (hA5 179 (by decide)).trans rfl
            · exact (hA5 186 (by decide)).trans rfl
            · show upd (N5.1 187) c _ = _
              rw [hA5 187 (by decide), if_neg g5, ← hsd]; rfl
          · skip
            refine Rn.iload dX12_treads_178 rfl ?_
            refine Rn.goto dX12_treads_180 ?_
            refine Rn.iadd dX12_treads_186 ?_
            refine Rn.iastN (k0 := c) dX12_treads_187 (rc187 hRN5) (by omega) (by decide) ?_
            refine Rn.vret dX12_treads_188 rfl (hQ.2 c hc rfl g2 _ ⟨hC5, fun a a1 a2 a3 a4 a5 a6 => (sI_ne a6).trans ((hA5 a a1).trans (by simp only [sI, a2, a3, a4, a5, ↓reduceIte])), fun j h => hB5 j h⟩ ?_ ?_ ?_ ?_ ?_)
            · exact (hA5 177 (by decide)).trans rfl
            · exact (hA5 178 (by decide)).trans rfl
            · exact (hA5 179 (by decide)).trans rfl
            · exact (hA5 186 (by decide)).trans rfl
            · show upd (N5.1 187) c _ = _
              rw [hA5 187 (by decide), if_pos g5, ← hsd]; rfl
        refine Rn.icmp_ne dX12_treads_149 (fun g4 => ?_) (fun g4 => ?_)
        · skip
          refine Rn.aload_n dX12_treads_156 rfl ?_
          refine Rn.iconstv (v := 1) dX12_treads_157 ic_1 ?_
          refine Rn.iconstv (v := 0) dX12_treads_158 ic_0 ?_
          refine Rn.callV2 dX12_treads_159 vX12_410 (rc149 hRN4) (by decide) rfl (tX12_asks (M := N4) (Q := fun v0 ly0 K => v0 = some (.int (frc (valL (nmv z (M.1 169 b) (nI c) (M.1 173 (12 * b + c)) ((M.1 178 i + 1) - (M.1 178 i + 1) / 2 * 2) (htR (M.1 149 55) (M.1 151 4))) ksn szs) 0)) ∧ ly0 = ly ∧ wkF N4 K) (k := 1) (nm := nmv z (M.1 169 b) (nI c) (M.1 173 (12 * b + c)) ((M.1 178 i + 1) - (M.1 178 i + 1) / 2 * 2) (htR (M.1 149 55) (M.1 151 4))) (by decide) (hls.mv (fun a h => (hA4 a (by omega)).trans (by show _ = M.1 a; rcases (show a = 165 ∨ a = 166 ∨ a = 167 ∨ a = 168 by omega) with rfl | rfl | rfl | rfl <;> rfl))) nm4 hRN4 (fun K h => ⟨rfl, rfl, h⟩)) (by decide) ⟨(Nat.le_of_ble_eq_true rfl), (Nat.le_of_ble_eq_true rfl), (Nat.le_of_ble_eq_true rfl)⟩ (fun h => by cases h) (fun v1 ly1 N5 ⟨q1, q2, w5⟩ => ?_)
          rw [q1, q2]
          refine Rn.topI (y := (if M.1 149 55 = 5 then 0 else frc (valL (nmv z (M.1 169 b) (nI c) (M.1 173 (12 * b + c)) ((M.1 178 i + 1) - (M.1 178 i + 1) / 2 * 2) (htR (M.1 149 55) (M.1 151 4))) ksn szs) 0)) ((if_neg g4).symm) ?_
          exact join2 N5 (fun a h => (w5.2.1 a h).trans (hA4 a h)) (fun j h => (w5.2.2.1 j h).trans (hB4 j h)) (w5.1.trans hC4)
        · skip
          refine Rn.iconstv (v := 0) dX12_treads_152 ic_0 ?_
          refine Rn.goto dX12_treads_153 ?_
          refine Rn.topI (y := (if M.1 149 55 = 5 then 0 else frc (valL (nmv z (M.1 169 b) (nI c) (M.1 173 (12 * b + c)) ((M.1 178 i + 1) - (M.1 178 i + 1) / 2 * 2) (htR (M.1 149 55) (M.1 151 4))) ksn szs) 0)) ((if_pos g4).symm) ?_
          exact join2 N4 hA4 hB4 hC4
      · skip
        refine Rn.aload_n dX12_treads_77 rfl ?_
        refine Rn.getR dX12_treads_78 fX12_104 rfl (rc149 hR) (show M.2.2 149 45 = some 179 from (rpt45 hR)) ?_
        refine Rn.iload_n dX12_treads_81 rfl ?_
        refine Rn.iconstv (v := 2) dX12_treads_82 ic_2 ?_
        refine Rn.iastN (k0 := i) dX12_treads_83 (rc179 hR) (by omega) (by decide) ?_
        refine Rn.meq (M2 := sI (sI (sI M 177 (upd (M.1 177) i (nI c))) 179 (upd (upd (M.1 179) i 1) i 2)) 178 (upd (M.1 178) i ((M.1 178 i) + 1))) ((sI_comm (show 178 ≠ 179 by decide)).trans (congrArg (fun m9 => sI m9 178 (upd (M.1 178) i ((M.1 178 i) + 1))) (sI_sI _ _ _ _))) ?_
        refine Rn.aload_n dX12_treads_84 rfl ?_
        refine Rn.getR dX12_treads_85 fX12_98 rfl (rc149 hR) (show M.2.2 149 43 = some 177 from (rpt43 hR)) ?_
        refine Rn.iload_n dX12_treads_88 rfl ?_
        refine Rn.iconstv (v := -1) dX12_treads_89 ic_m1 ?_
        refine Rn.iastN (k0 := i) dX12_treads_90 (rc177 hR) (by omega) (by decide) ?_
        refine Rn.meq (M2 := sI (sI (sI M 177 (upd (upd (M.1 177) i (nI c)) i (-1))) 179 (upd (upd (M.1 179) i 1) i 2)) 178 (upd (M.1 178) i ((M.1 178 i) + 1))) ((sI_comm (show 178 ≠ 177 by decide)).trans (congrArg (fun m9 => sI m9 178 (upd (M.1 178) i ((M.1 178 i) + 1))) ((sI_comm (show 179 ≠ 177 by decide)).trans (congrArg (fun m9 => sI m9 179 (upd (upd (M.1 179) i 1) i 2)) (sI_sI _ _ _ _))))) ?_
        refine Rn.vret dX12_treads_91 rfl (hQ.1 (Or.inr (Or.inr g2)) _ ⟨rfl, fun a a1 a2 a3 a4 a5 a6 => by simp only [sI, a2, a3, a4, ↓reduceIte], fun j h => rfl⟩ ?_ rfl ?_ rfl rfl)
        · exact upd_upd _ _ _ _
        · exact upd_upd _ _ _ _
  refine Rn.if_ne dX12_treads_11 (fun g0 => ?_) (fun g0 => ?_)
  · skip
    refine Rn.aload_n dX12_treads_19 rfl ?_
    refine Rn.getR dX12_treads_20 fX12_98 rfl (rc149 hR) (show M.2.2 149 43 = some 177 from (rpt43 hR)) ?_
    refine Rn.iload_n dX12_treads_23 rfl ?_
    refine Rn.ialdN (k0 := i) dX12_treads_24 (rc177 hR) (by omega) (by decide) ?_
    refine Rn.iload_n dX12_treads_25 rfl ?_
    refine Rn.iadd dX12_treads_26 ?_
    refine Rn.topI (y := x) (by rw [hx, if_neg g0]) ?_
    exact join
  · skip
    refine Rn.iload dX12_treads_14 rfl ?_
    refine Rn.goto dX12_treads_16 ?_
    refine Rn.topI (y := x) (by rw [hx, if_pos g0]) ?_
    exact join
