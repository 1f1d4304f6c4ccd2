/-- the calm of the bridge b's cells, as the reference counts it, is ca -/
def cmOk (I : Nat → Nat → Int32) (b n : Nat) (ca : Nat → Int32) : Prop := (I 149 55 = 1 ∧ ∀ c, c < n → mn 100 (I 151 3) = ca c) ∨ (¬ I 149 55 = 1 ∧ ∃ nf : Nat, I 180 b = nI nf ∧ nf ≤ 12 ∧ ∀ c, c < n → mn 100 (cmR (I 151 3) (sh (12 * b) (I 181)) (sh (12 * b) (I 182)) (nI c) nf) = ca c)
theorem cmOk.mv {I J : Nat → Nat → Int32} {b n : Nat} {ca : Nat → Int32} (h : cmOk I b n ca) (e1 : J 149 55 = I 149 55) (e2 : J 151 = I 151) (e3 : J 180 = I 180) (e4 : J 181 = I 181) (e5 : J 182 = I 182) : cmOk J b n ca := by
  unfold cmOk
  rw [e1, e2, e3, e4, e5]
  exact h
theorem tX12_calmC {G : Gx} {l : Launch} {ly : Ly} {M : Mm} {b n c : Nat} {ca : Nat → Int32} (hb : b < 24) (h : cmOk M.1 b n ca) (hc : c < n) (hR : RW ly M.2.2) : Mt G l mX12_calmAt (1, 0, 0, false) [.ref 149, .int (nI b), .int (nI c)] ly M (Is (some (.int (ca c))) ly M) := by
  rcases h with ⟨h1, h2⟩ | ⟨h1, nf, h2, h3, h4⟩
  · rw [← h2 c hc]; exact tX12_calmAt1 hb h1 hR
  · rw [← h4 c hc]; exact tX12_calmAt hb h2 h3 h1 hR
theorem tX12_sways173 {G : Gx} {l : Launch} {ly : Ly} {M : Mm} {b n : Nat} {stf : Int32} {ca : Nat → Int32} (hb : b < 24) (hn : M.1 151 0 = nI n) (hn12 : n ≤ 12) (hcm : cmOk M.1 b n ca) (hR : RW ly M.2.2) : Mt G l mX12_sways (2, 0, 0, false) [.ref 149, .int (nI b), .ref 173, .ref 174, .ref 186, .int stf] ly M (Is none ly (sI (sI (sI (sI M 188 (pre n (sh (12 * b) (M.1 173)) (M.1 188))) 174 (blk (12 * b) n (nsp (sh (12 * b) (M.1 173)) (sh (12 * b) (M.1 174)) (M.1 186) ca stf n) (M.1 174))) 173 (blk (12 * b) n (nou (sh (12 * b) (M.1 173)) (sh (12 * b) (M.1 174)) (M.1 186) ca stf n) (M.1 173))) 186 (pre n (fun _ => 0) (M.1 186)))) := by
  refine Mt.is (fun Q hQ => ?_)
  refine Mt.of (lv := [some (.ref 149), some (.int (nI b)), some (.ref 173), some (.ref 174), some (.ref 186), some (.int stf), none, none, none, none, none]) rfl ?_
  refine Rn.aload_n dX12_sways_0 rfl ?_
  refine Rn.getR dX12_sways_1 fX12_15 rfl (rc149 hR) (show M.2.2 149 3 = some 151 from (rpt3 hR)) ?_
  refine Rn.iconstv (v := 0) dX12_sways_4 ic_0 ?_
  refine Rn.iald dX12_sways_5 (rc151 hR) (by unfold vp_in; decide) ?_
  refine Rn.topI (y := M.1 151 0) (rfl) ?_
  refine Rn.topI (y := nI n) (hn) ?_
  refine Rn.istore (lv' := [some (.ref 149), some (.int (nI b)), some (.ref 173), some (.ref 174), some (.ref 186), some (.int stf), some (.int (nI n)), none, none, none, none]) dX12_sways_6 (by decide) rfl ?_
  refine Rn.iconstv (v := 0) dX12_sways_8 ic_0 ?_
  refine Rn.istore (lv' := [some (.ref 149), some (.int (nI b)), some (.ref 173), some (.ref 174), some (.ref 186), some (.int stf), some (.int (nI n)), some (.int 0), none, none, none]) dX12_sways_9 (by decide) rfl ?_
  refine Rn.meq (M2 := sI M 188 (pre 0 (sh (12 * b) (M.1 173)) (M.1 188))) (by rw [pre_0, sI_self]) ?_
  have loop : ∀ (k i : Nat) , i + k = n → Rn G l mX12_sways (2, 0, 0, false) 11 [some (.ref 149), some (.int (nI b)), some (.ref 173), some (.ref 174), some (.ref 186), some (.int stf), some (.int (nI n)), some (.int (nI i)), none, none, none] [] ly (sI M 188 (pre i (sh (12 * b) (M.1 173)) (M.1 188))) Q := by
    intro k
    induction k with
    | zero =>
      intro i  hi 
      refine Rn.iload dX12_sways_11 rfl ?_
      refine Rn.iload dX12_sways_13 rfl ?_
      refine Rn.icmp_ge dX12_sways_15 (fun hc => ?_) (fun hc => ?_)
      · skip
        have hi : n = i := by omega
        subst hi
        refine Rn.iconstv (v := 0) dX12_sways_40 ic_0 ?_
        refine Rn.istore (lv' := [some (.ref 149), some (.int (nI b)), some (.ref 173), some (.ref 174), some (.ref 186), some (.int stf), some (.int (nI n)), some (.int 0), none, none, none]) dX12_sways_41 (by decide) rfl ?_
        refine Rn.meq (M2 := sI (sI (sI (sI M 188 (pre n (sh (12 * b) (M.1 173)) (M.1 188))) 174 (blk (12 * b) 0 (nsp (sh (12 * b) (M.1 173)) (sh (12 * b) (M.1 174)) (M.1 186) ca stf n) (M.1 174))) 173 (blk (12 * b) 0 (nou (sh (12 * b) (M.1 173)) (sh (12 * b) (M.1 174)) (M.1 186) ca stf n) (M.1 173))) 186 (pre 0 (fun _ => 0) (M.1 186))) (by simp only [blk_0, pre_0]; exact Eq.symm ((sI_sf rfl).trans ((sI_sf rfl).trans (sI_sf rfl)))) ?_
        have loop2 : ∀ (k j : Nat), j + k = n → Rn G l mX12_sways (2, 0, 0, false) 43 [some (.ref 149), some (.int (nI b)), some (.ref 173), some (.ref 174), some (.ref 186), some (.int stf), some (.int (nI n)), some (.int (nI j)), none, none, none] [] ly (sI (sI (sI (sI M 188 (pre n (sh (12 * b) (M.1 173)) (M.1 188))) 174 (blk (12 * b) j (nsp (sh (12 * b) (M.1 173)) (sh (12 * b) (M.1 174)) (M.1 186) ca stf n) (M.1 174))) 173 (blk (12 * b) j (nou (sh (12 * b) (M.1 173)) (sh (12 * b) (M.1 174)) (M.1 186) ca stf n) (M.1 173))) 186 (pre j (fun _ => 0) (M.1 186))) Q := by
          intro k
          induction k with
          | zero =>
            intro j hj
            refine Rn.iload dX12_sways_43 rfl ?_
            refine Rn.iload dX12_sways_45 rfl ?_
            refine Rn.icmp_ge dX12_sways_47 (fun hc2 => ?_) (fun hc2 => ?_)
            · skip
              have ej : n = j := by omega
              subst ej
              exact Rn.vret dX12_sways_194 rfl hQ
            · skip
              exact absurd (nI_le (a := n) (b := j) (by omega) (by omega)) hc2
          | succ k ih2 =>
            intro j hj
            refine Rn.iload dX12_sways_43 rfl ?_
            refine Rn.iload dX12_sways_45 rfl ?_
            refine Rn.icmp_ge dX12_sways_47 (fun hc2 => ?_) (fun hc2 => ?_)
            · skip
              exact absurd hc2 (nI_ge (a := j) (b := n) (by omega) (by omega))
            · skip
              refine Rn.bipushv (v := 12) dX12_sways_50 bp_12 ?_
              refine Rn.iload_n dX12_sways_52 rfl ?_
              refine Rn.imul dX12_sways_53 ?_
              refine Rn.topI (y := nI (12 * b)) (nI_mul 12 b) ?_
              refine Rn.iload dX12_sways_54 rfl ?_
              refine Rn.iadd dX12_sways_56 ?_
              refine Rn.topI (y := nI (12 * b + j)) (nI_add (12 * b) j) ?_
              refine Rn.istore (lv' := [some (.ref 149), some (.int (nI b)), some (.ref 173), some (.ref 174), some (.ref 186), some (.int stf), some (.int (nI n)), some (.int (nI j)), some (.int (nI (12 * b + j))), none, none]) dX12_sways_57 (by decide) rfl ?_
              refine Rn.iload dX12_sways_59 rfl ?_
              have join1 : Rn G l mX12_sways (2, 0, 0, false) 77 [some (.ref 149), some (.int (nI b)), some (.ref 173), some (.ref 174), some (.ref 186), some (.int stf), some (.int (nI n)), some (.int (nI j)), some (.int (nI (12 * b + j))), none, none] [.int (if 0 < j then (sh (12 * b) (M.1 173)) (j - 1) else 0)] ly (sI (sI (sI (sI M 188 (pre n (sh (12 * b) (M.1 173)) (M.1 188))) 174 (blk (12 * b) j (nsp (sh (12 * b) (M.1 173)) (sh (12 * b) (M.1 174)) (M.1 186) ca stf n) (M.1 174))) 173 (blk (12 * b) j (nou (sh (12 * b) (M.1 173)) (sh (12 * b) (M.1 174)) (M.1 186) ca stf n) (M.1 173))) 186 (pre j (fun _ => 0) (M.1 186))) Q := by
                refine Rn.iload dX12_sways_77 rfl ?_
                refine Rn.iconstv (v := 1) dX12_sways_79 ic_1 ?_
                refine Rn.iadd dX12_sways_80 ?_
                refine Rn.topI (y := nI (j + 1)) (nI_add j 1) ?_
                refine Rn.iload dX12_sways_81 rfl ?_
                have join2 : Rn G l mX12_sways (2, 0, 0, false) 99 [some (.ref 149), some (.int (nI b)), some (.ref 173), some (.ref 174), some (.ref 186), some (.int stf), some (.int (nI n)), some (.int (nI j)), some (.int (nI (12 * b + j))), none, none] [.int (if j + 1 < n then (sh (12 * b) (M.1 173)) (j + 1) else 0), .int (if 0 < j then (sh (12 * b) (M.1 173)) (j - 1) else 0)] ly (sI (sI (sI (sI M 188 (pre n (sh (12 * b) (M.1 173)) (M.1 188))) 174 (blk (12 * b) j (nsp (sh (12 * b) (M.1 173)) (sh (12 * b) (M.1 174)) (M.1 186) ca stf n) (M.1 174))) 173 (blk (12 * b) j (nou (sh (12 * b) (M.1 173)) (sh (12 * b) (M.1 174)) (M.1 186) ca stf n) (M.1 173))) 186 (pre j (fun _ => 0) (M.1 186))) Q := by
                  refine Rn.iadd dX12_sways_99 ?_
                  refine Rn.topI (y := bsd (sh (12 * b) (M.1 173)) n j) (rfl) ?_
                  refine Rn.istore (lv' := [some (.ref 149), some (.int (nI b)), some (.ref 173), some (.ref 174), some (.ref 186), some (.int stf), some (.int (nI n)), some (.int (nI j)), some (.int (nI (12 * b + j))), some (.int (bsd (sh (12 * b) (M.1 173)) n j)), none]) dX12_sways_100 (by decide) rfl ?_
                  refine Rn.aload_n dX12_sways_102 rfl ?_
                  refine Rn.iload dX12_sways_103 rfl ?_
                  refine Rn.ialdN (k0 := (12 * b + j)) dX12_sways_105 (rc174 hR) (by omega) (by decide) ?_
                  refine Rn.topI (y := (sh (12 * b) (M.1 174)) j) (blk_out (by omega)) ?_
                  refine Rn.iload dX12_sways_106 rfl ?_
                  refine Rn.iload dX12_sways_108 rfl ?_
                  refine Rn.iconstv (v := 2) dX12_sways_110 ic_2 ?_
                  refine Rn.aload_n dX12_sways_111 rfl ?_
                  refine Rn.getR dX12_sways_112 fX12_138 rfl (rc149 hR) (show M.2.2 149 65 = some 188 from (rpt65 hR)) ?_
                  refine Rn.iload dX12_sways_115 rfl ?_
                  refine Rn.ialdN (k0 := j) dX12_sways_117 (rc188 hR) (by omega) (by decide) ?_
                  refine Rn.topI (y := (sh (12 * b) (M.1 173)) j) (pre_lt (by omega)) ?_
                  refine Rn.imul dX12_sways_118 ?_
                  refine Rn.isub dX12_sways_119 ?_
                  refine Rn.imul dX12_sways_120 ?_
                  refine Rn.bipushv (v := 16) dX12_sways_121 bp_16 ?_
                  refine Rn.idiv dX12_sways_123 (by decide) ?_
                  refine Rn.iadd dX12_sways_124 ?_
                  refine Rn.aload dX12_sways_125 rfl ?_
                  refine Rn.iload dX12_sways_127 rfl ?_
                  refine Rn.ialdN (k0 := j) dX12_sways_129 (rc186 hR) (by omega) (by decide) ?_
                  refine Rn.topI (y := M.1 186 j) (show pre j (fun _ => 0) (M.1 186) j = _ from pre_ge (Nat.le_refl j)) ?_
                  refine Rn.iadd dX12_sways_130 ?_
                  refine Rn.topI (y := vel (sh (12 * b) (M.1 173)) (sh (12 * b) (M.1 174)) (M.1 186) stf n j) (rfl) ?_
                  refine Rn.istore (lv' := [some (.ref 149), some (.int (nI b)), some (.ref 173), some (.ref 174), some (.ref 186), some (.int stf), some (.int (nI n)), some (.int (nI j)), some (.int (nI (12 * b + j))), some (.int (bsd (sh (12 * b) (M.1 173)) n j)), some (.int (vel (sh (12 * b) (M.1 173)) (sh (12 * b) (M.1 174)) (M.1 186) stf n j))]) dX12_sways_131 (by decide) rfl ?_
                  refine Rn.iload dX12_sways_133 rfl ?_
                  refine Rn.iload dX12_sways_135 rfl ?_
                  refine Rn.aload_n dX12_sways_137 rfl ?_
                  refine Rn.iload_n dX12_sways_138 rfl ?_
                  refine Rn.iload dX12_sways_139 rfl ?_
                  refine Rn.callV2 dX12_sways_141 vX12_415 (rc149 hR) (by decide) rfl (tX12_calmC (M := sI (sI (sI (sI M 188 (pre n (sh (12 * b) (M.1 173)) (M.1 188))) 174 (blk (12 * b) j (nsp (sh (12 * b) (M.1 173)) (sh (12 * b) (M.1 174)) (M.1 186) ca stf n) (M.1 174))) 173 (blk (12 * b) j (nou (sh (12 * b) (M.1 173)) (sh (12 * b) (M.1 174)) (M.1 186) ca stf n) (M.1 173))) 186 (pre j (fun _ => 0) (M.1 186))) (n := n) (c := j) (ca := ca) hb (hcm.mv rfl rfl rfl rfl rfl) (by omega) hR) (by decide) ⟨(Nat.le_of_ble_eq_true rfl), (Nat.le_of_ble_eq_true rfl), (Nat.le_of_ble_eq_true rfl)⟩ (fun h => by cases h) (fun v1 ly1 M1 ⟨q1, q2, q3⟩ => ?_)
                  rw [q1, q2, q3]
                  refine Rn.imul dX12_sways_144 ?_
                  refine Rn.bipushv (v := 100) dX12_sways_145 bp_100 ?_
                  refine Rn.idiv dX12_sways_147 (by decide) ?_
                  refine Rn.isub dX12_sways_148 ?_
                  refine Rn.istore (lv' := [some (.ref 149), some (.int (nI b)), some (.ref 173), some (.ref 174), some (.ref 186), some (.int stf), some (.int (nI n)), some (.int (nI j)), some (.int (nI (12 * b + j))), some (.int (bsd (sh (12 * b) (M.1 173)) n j)), some (.int ((vel (sh (12 * b) (M.1 173)) (sh (12 * b) (M.1 174)) (M.1 186) stf n j) - (((vel (sh (12 * b) (M.1 173)) (sh (12 * b) (M.1 174)) (M.1 186) stf n j) * (ca j)) / 100)))]) dX12_sways_149 (by decide) rfl ?_
                  refine Rn.aload_n dX12_sways_151 rfl ?_
                  refine Rn.iload dX12_sways_152 rfl ?_
                  refine Rn.iload dX12_sways_154 rfl ?_
                  refine Rn.ldcw dX12_sways_156 kX12_418 ?_
                  refine Rn.callS2 dX12_sways_159 vX12_419 (tX12_within) (by decide) ⟨(Nat.le_of_ble_eq_true rfl), (Nat.le_of_ble_eq_true rfl), (Nat.le_of_ble_eq_true rfl)⟩ (fun h => by cases h) (fun v1 ly1 M1 ⟨q1, q2, q3⟩ => ?_)
                  rw [q1, q2, q3]
                  show Rn G l mX12_sways (2, 0, 0, false) 162 [some (.ref 149), some (.int (nI b)), some (.ref 173), some (.ref 174), some (.ref 186), some (.int stf), some (.int (nI n)), some (.int (nI j)), some (.int (nI (12 * b + j))), some (.int (bsd (sh (12 * b) (M.1 173)) n j)), some (.int ((vel (sh (12 * b) (M.1 173)) (sh (12 * b) (M.1 174)) (M.1 186) stf n j) - (((vel (sh (12 * b) (M.1 173)) (sh (12 * b) (M.1 174)) (M.1 186) stf n j) * (ca j)) / 100)))] [.int ((nsp (sh (12 * b) (M.1 173)) (sh (12 * b) (M.1 174)) (M.1 186) ca stf n) j), .int (nI (12 * b + j)), .ref 174] ly (sI (sI (sI (sI M 188 (pre n (sh (12 * b) (M.1 173)) (M.1 188))) 174 (blk (12 * b) j (nsp (sh (12 * b) (M.1 173)) (sh (12 * b) (M.1 174)) (M.1 186) ca stf n) (M.1 174))) 173 (blk (12 * b) j (nou (sh (12 * b) (M.1 173)) (sh (12 * b) (M.1 174)) (M.1 186) ca stf n) (M.1 173))) 186 (pre j (fun _ => 0) (M.1 186))) Q
                  refine Rn.iastN (k0 := (12 * b + j)) dX12_sways_162 (rc174 hR) (by omega) (by decide) ?_
                  refine Rn.meq (M2 := sI (sI (sI (sI M 188 (pre n (sh (12 * b) (M.1 173)) (M.1 188))) 174 (upd (blk (12 * b) j (nsp (sh (12 * b) (M.1 173)) (sh (12 * b) (M.1 174)) (M.1 186) ca stf n) (M.1 174)) (12 * b + j) ((nsp (sh (12 * b) (M.1 173)) (sh (12 * b) (M.1 174)) (M.1 186) ca stf n) j))) 173 (blk (12 * b) j (nou (sh (12 * b) (M.1 173)) (sh (12 * b) (M.1 174)) (M.1 186) ca stf n) (M.1 173))) 186 (pre j (fun _ => 0) (M.1 186))) ((sI_comm (show 186 ≠ 174 by decide)).trans (congrArg (fun m9 => sI m9 186 (pre j (fun _ => 0) (M.1 186))) ((sI_comm (show 173 ≠ 174 by decide)).trans (congrArg (fun m9 => sI m9 173 (blk (12 * b) j (nou (sh (12 * b) (M.1 173)) (sh (12 * b) (M.1 174)) (M.1 186) ca stf n) (M.1 173))) (sI_sI _ _ _ _))))) ?_
                  refine Rn.meq (M2 := sI (sI (sI (sI M 188 (pre n (sh (12 * b) (M.1 173)) (M.1 188))) 174 (blk (12 * b) (j + 1) (nsp (sh (12 * b) (M.1 173)) (sh (12 * b) (M.1 174)) (M.1 186) ca stf n) (M.1 174))) 173 (blk (12 * b) j (nou (sh (12 * b) (M.1 173)) (sh (12 * b) (M.1 174)) (M.1 186) ca stf n) (M.1 173))) 186 (pre j (fun _ => 0) (M.1 186))) (congrArg (fun m9 => sI m9 186 (pre j (fun _ => 0) (M.1 186))) (congrArg (fun m9 => sI m9 173 (blk (12 * b) j (nou (sh (12 * b) (M.1 173)) (sh (12 * b) (M.1 174)) (M.1 186) ca stf n) (M.1 173))) (congrArg (fun r9 => sI (sI M 188 (pre n (sh (12 * b) (M.1 173)) (M.1 188))) 174 r9) (blk_up (12 * b) j (nsp (sh (12 * b) (M.1 173)) (sh (12 * b) (M.1 174)) (M.1 186) ca stf n) (M.1 174))))) ?_
                  refine Rn.aload_n dX12_sways_163 rfl ?_
                  refine Rn.iload dX12_sways_164 rfl ?_
                  refine Rn.aload_n dX12_sways_166 rfl ?_
                  refine Rn.iload dX12_sways_167 rfl ?_
                  refine Rn.ialdN (k0 := (12 * b + j)) dX12_sways_169 (rc173 hR) (by omega) (by decide) ?_
                  refine Rn.topI (y := (sh (12 * b) (M.1 173)) j) (blk_out (by omega)) ?_
                  refine Rn.aload_n dX12_sways_170 rfl ?_
                  refine Rn.iload dX12_sways_171 rfl ?_
                  refine Rn.ialdN (k0 := (12 * b + j)) dX12_sways_173 (rc174 hR) (by omega) (by decide) ?_
                  refine Rn.topI (y := (nsp (sh (12 * b) (M.1 173)) (sh (12 * b) (M.1 174)) (M.1 186) ca stf n) j) (blk_in (Nat.lt_succ_self j)) ?_
                  refine Rn.iadd dX12_sways_174 ?_
                  refine Rn.ldcw dX12_sways_175 kX12_418 ?_
                  refine Rn.callS2 dX12_sways_178 vX12_419 (tX12_within) (by decide) ⟨(Nat.le_of_ble_eq_true rfl), (Nat.le_of_ble_eq_true rfl), (Nat.le_of_ble_eq_true rfl)⟩ (fun h => by cases h) (fun v1 ly1 M1 ⟨q1, q2, q3⟩ => ?_)
                  rw [q1, q2, q3]
                  show Rn G l mX12_sways (2, 0, 0, false) 181 [some (.ref 149), some (.int (nI b)), some (.ref 173), some (.ref 174), some (.ref 186), some (.int stf), some (.int (nI n)), some (.int (nI j)), some (.int (nI (12 * b + j))), some (.int (bsd (sh (12 * b) (M.1 173)) n j)), some (.int ((vel (sh (12 * b) (M.1 173)) (sh (12 * b) (M.1 174)) (M.1 186) stf n j) - (((vel (sh (12 * b) (M.1 173)) (sh (12 * b) (M.1 174)) (M.1 186) stf n j) * (ca j)) / 100)))] [.int ((nou (sh (12 * b) (M.1 173)) (sh (12 * b) (M.1 174)) (M.1 186) ca stf n) j), .int (nI (12 * b + j)), .ref 173] ly (sI (sI (sI (sI M 188 (pre n (sh (12 * b) (M.1 173)) (M.1 188))) 174 (blk (12 * b) (j + 1) (nsp (sh (12 * b) (M.1 173)) (sh (12 * b) (M.1 174)) (M.1 186) ca stf n) (M.1 174))) 173 (blk (12 * b) j (nou (sh (12 * b) (M.1 173)) (sh (12 * b) (M.1 174)) (M.1 186) ca stf n) (M.1 173))) 186 (pre j (fun _ => 0) (M.1 186))) Q
                  refine Rn.iastN (k0 := (12 * b + j)) dX12_sways_181 (rc173 hR) (by omega) (by decide) ?_
                  refine Rn.meq (M2 := sI (sI (sI (sI M 188 (pre n (sh (12 * b) (M.1 173)) (M.1 188))) 174 (blk (12 * b) (j + 1) (nsp (sh (12 * b) (M.1 173)) (sh (12 * b) (M.1 174)) (M.1 186) ca stf n) (M.1 174))) 173 (upd (blk (12 * b) j (nou (sh (12 * b) (M.1 173)) (sh (12 * b) (M.1 174)) (M.1 186) ca stf n) (M.1 173)) (12 * b + j) ((nou (sh (12 * b) (M.1 173)) (sh (12 * b) (M.1 174)) (M.1 186) ca stf n) j))) 186 (pre j (fun _ => 0) (M.1 186))) ((sI_comm (show 186 ≠ 173 by decide)).trans (congrArg (fun m9 => sI m9 186 (pre j (fun _ => 0) (M.1 186))) (sI_sI _ _ _ _))) ?_
                  refine Rn.meq (M2 := sI (sI (sI (sI M 188 (pre n (sh (12 * b) (M.1 173)) (M.1 188))) 174 (blk (12 * b) (j + 1) (nsp (sh (12 * b) (M.1 173)) (sh (12 * b) (M.1 174)) (M.1 186) ca stf n) (M.1 174))) 173 (blk (12 * b) (j + 1) (nou (sh (12 * b) (M.1 173)) (sh (12 * b) (M.1 174)) (M.1 186) ca stf n) (M.1 173))) 186 (pre j (fun _ => 0) (M.1 186))) (congrArg (fun m9 => sI m9 186 (pre j (fun _ => 0) (M.1 186))) (congrArg (fun r9 => sI (sI (sI M 188 (pre n (sh (12 * b) (M.1 173)) (M.1 188))) 174 (blk (12 * b) (j + 1) (nsp (sh (12 * b) (M.1 173)) (sh (12 * b) (M.1 174)) (M.1 186) ca stf n) (M.1 174))) 173 r9) (blk_up (12 * b) j (nou (sh (12 * b) (M.1 173)) (sh (12 * b) (M.1 174)) (M.1 186) ca stf n) (M.1 173)))) ?_
                  refine Rn.aload dX12_sways_182 rfl ?_
                  refine Rn.iload dX12_sways_184 rfl ?_
                  refine Rn.iconstv (v := 0) dX12_sways_186 ic_0 ?_
                  refine Rn.iastN (k0 := j) dX12_sways_187 (rc186 hR) (by omega) (by decide) ?_
                  refine Rn.meq (M2 := sI (sI (sI (sI M 188 (pre n (sh (12 * b) (M.1 173)) (M.1 188))) 174 (blk (12 * b) (j + 1) (nsp (sh (12 * b) (M.1 173)) (sh (12 * b) (M.1 174)) (M.1 186) ca stf n) (M.1 174))) 173 (blk (12 * b) (j + 1) (nou (sh (12 * b) (M.1 173)) (sh (12 * b) (M.1 174)) (M.1 186) ca stf n) (M.1 173))) 186 (upd (pre j (fun _ => 0) (M.1 186)) j 0)) (sI_sI _ _ _ _) ?_
                  refine Rn.meq (M2 := sI (sI (sI (sI M 188 (pre n (sh (12 * b) (M.1 173)) (M.1 188))) 174 (blk (12 * b) (j + 1) (nsp (sh (12 * b) (M.1 173)) (sh (12 * b) (M.1 174)) (M.1 186) ca stf n) (M.1 174))) 173 (blk (12 * b) (j + 1) (nou (sh (12 * b) (M.1 173)) (sh (12 * b) (M.1 174)) (M.1 186) ca stf n) (M.1 173))) 186 (pre (j + 1) (fun _ => 0) (M.1 186))) (congrArg (fun r9 => sI (sI (sI (sI M 188 (pre n (sh (12 * b) (M.1 173)) (M.1 188))) 174 (blk (12 * b) (j + 1) (nsp (sh (12 * b) (M.1 173)) (sh (12 * b) (M.1 174)) (M.1 186) ca stf n) (M.1 174))) 173 (blk (12 * b) (j + 1) (nou (sh (12 * b) (M.1 173)) (sh (12 * b) (M.1 174)) (M.1 186) ca stf n) (M.1 173))) 186 r9) (pre_up j (fun _ => 0) (M.1 186))) ?_
                  refine Rn.iincN (lv' := [some (.ref 149), some (.int (nI b)), some (.ref 173), some (.ref 174), some (.ref 186), some (.int stf), some (.int (nI n)), some (.int (nI (j + 1))), some (.int (nI (12 * b + j))), some (.int (bsd (sh (12 * b) (M.1 173)) n j)), some (.int ((vel (sh (12 * b) (M.1 173)) (sh (12 * b) (M.1 174)) (M.1 186) stf n j) - (((vel (sh (12 * b) (M.1 173)) (sh (12 * b) (M.1 174)) (M.1 186) stf n j) * (ca j)) / 100)))]) dX12_sways_188 rfl (by decide) rfl ?_
                  refine Rn.goto dX12_sways_191 ?_
                  refine Rn.forget (lv' := [some (.ref 149), some (.int (nI b)), some (.ref 173), some (.ref 174), some (.ref 186), some (.int stf), some (.int (nI n)), some (.int (nI (j + 1))), none, none, none]) (⟨rfl, ⟨rfl, ⟨rfl, ⟨rfl, ⟨rfl, ⟨rfl, ⟨rfl, ⟨rfl, trivial⟩⟩⟩⟩⟩⟩⟩⟩) ?_
                  exact ih2 (j + 1) (by omega)
                refine Rn.icmp_ge dX12_sways_83 (fun g2 => ?_) (fun g2 => ?_)
                · skip
                  refine Rn.iconstv (v := 0) dX12_sways_98 ic_0 ?_
                  refine Rn.topI (y := (if j + 1 < n then (sh (12 * b) (M.1 173)) (j + 1) else 0)) ((if_neg (fun h => nI_ge h (by omega) g2)).symm) ?_
                  exact join2
                · skip
                  have hlt : j + 1 < n := Nat.lt_of_not_le (fun h => g2 (nI_le h (by omega)))
                  refine Rn.aload_n dX12_sways_86 rfl ?_
                  refine Rn.getR dX12_sways_87 fX12_138 rfl (rc149 hR) (show M.2.2 149 65 = some 188 from (rpt65 hR)) ?_
                  refine Rn.iload dX12_sways_90 rfl ?_
                  refine Rn.iconstv (v := 1) dX12_sways_92 ic_1 ?_
                  refine Rn.iadd dX12_sways_93 ?_
                  refine Rn.topI (y := nI (j + 1)) (nI_add j 1) ?_
                  refine Rn.ialdN (k0 := (j + 1)) dX12_sways_94 (rc188 hR) (by omega) (by decide) ?_
                  refine Rn.topI (y := (sh (12 * b) (M.1 173)) (j + 1)) (pre_lt hlt) ?_
                  refine Rn.goto dX12_sways_95 ?_
                  refine Rn.topI (y := (if j + 1 < n then (sh (12 * b) (M.1 173)) (j + 1) else 0)) ((if_pos hlt).symm) ?_
                  exact join2
              refine Rn.if_le dX12_sways_61 (fun g1 => ?_) (fun g1 => ?_)
              · skip
                refine Rn.iconstv (v := 0) dX12_sways_76 ic_0 ?_
                refine Rn.topI (y := (if 0 < j then (sh (12 * b) (M.1 173)) (j - 1) else 0)) ((if_neg (fun h => nI_nle h (by omega) g1)).symm) ?_
                exact join1
              · skip
                have hlt : 0 < j := Nat.pos_of_ne_zero (fun h => g1 (by rw [h]; decide))
                refine Rn.aload_n dX12_sways_64 rfl ?_
                refine Rn.getR dX12_sways_65 fX12_138 rfl (rc149 hR) (show M.2.2 149 65 = some 188 from (rpt65 hR)) ?_
                refine Rn.iload dX12_sways_68 rfl ?_
                refine Rn.iconstv (v := 1) dX12_sways_70 ic_1 ?_
                refine Rn.isub dX12_sways_71 ?_
                refine Rn.topI (y := nI (j - 1)) (i32sub (b := 1) (by omega)) ?_
                refine Rn.ialdN (k0 := (j - 1)) dX12_sways_72 (rc188 hR) (by omega) (by decide) ?_
                refine Rn.topI (y := (sh (12 * b) (M.1 173)) (j - 1)) (pre_lt (by omega)) ?_
                refine Rn.goto dX12_sways_73 ?_
                refine Rn.topI (y := (if 0 < j then (sh (12 * b) (M.1 173)) (j - 1) else 0)) ((if_pos hlt).symm) ?_
                exact join1
        exact loop2 n 0 (by omega)
      · exact absurd (nI_le (a := n) (b := i) (by omega) (by omega)) hc
    | succ k ih =>
      intro i  hi 
      refine Rn.iload dX12_sways_11 rfl ?_
      refine Rn.iload dX12_sways_13 rfl ?_
      refine Rn.icmp_ge dX12_sways_15 (fun hc => ?_) (fun hc => ?_)
      · exact absurd hc (nI_ge (a := i) (b := n) (by omega) (by omega))
      · skip
        refine Rn.aload_n dX12_sways_18 rfl ?_
        refine Rn.getR dX12_sways_19 fX12_138 rfl (rc149 hR) (show M.2.2 149 65 = some 188 from (rpt65 hR)) ?_
        refine Rn.iload dX12_sways_22 rfl ?_
        refine Rn.aload_n dX12_sways_24 rfl ?_
        refine Rn.bipushv (v := 12) dX12_sways_25 bp_12 ?_
        refine Rn.iload_n dX12_sways_27 rfl ?_
        refine Rn.imul dX12_sways_28 ?_
        refine Rn.topI (y := nI (12 * b)) (nI_mul 12 b) ?_
        refine Rn.iload dX12_sways_29 rfl ?_
        refine Rn.iadd dX12_sways_31 ?_
        refine Rn.topI (y := nI (12 * b + i)) (nI_add (12 * b) i) ?_
        refine Rn.ialdN (k0 := (12 * b + i)) dX12_sways_32 (rc173 hR) (by omega) (by decide) ?_
        refine Rn.iastN (k0 := i) dX12_sways_33 (rc188 hR) (by omega) (by decide) ?_
        refine Rn.meq (M2 := sI M 188 (upd (pre i (sh (12 * b) (M.1 173)) (M.1 188)) i (M.1 173 (12 * b + i)))) (sI_sI _ _ _ _) ?_
        refine Rn.meq (M2 := sI M 188 (pre (i + 1) (sh (12 * b) (M.1 173)) (M.1 188))) (congrArg (fun r9 => sI M 188 r9) (pre_up i (sh (12 * b) (M.1 173)) (M.1 188))) ?_
        refine Rn.iincN (lv' := [some (.ref 149), some (.int (nI b)), some (.ref 173), some (.ref 174), some (.ref 186), some (.int stf), some (.int (nI n)), some (.int (nI (i + 1))), none, none, none]) dX12_sways_34 rfl (by decide) rfl ?_
        refine Rn.goto dX12_sways_37 ?_
        exact ih (i + 1) (by omega)
  exact loop n 0 (by omega)
theorem tX12_sways175 {G : Gx} {l : Launch} {ly : Ly} {M : Mm} {b n : Nat} {stf : Int32} {ca : Nat → Int32} (hb : b < 24) (hn : M.1 151 0 = nI n) (hn12 : n ≤ 12) (hcm : cmOk M.1 b n ca) (hR : RW ly M.2.2) : Mt G l mX12_sways (2, 0, 0, false) [.ref 149, .int (nI b), .ref 175, .ref 176, .ref 187, .int stf] ly M (Is none ly (sI (sI (sI (sI M 188 (pre n (sh (12 * b) (M.1 175)) (M.1 188))) 176 (blk (12 * b) n (nsp (sh (12 * b) (M.1 175)) (sh (12 * b) (M.1 176)) (M.1 187) ca stf n) (M.1 176))) 175 (blk (12 * b) n (nou (sh (12 * b) (M.1 175)) (sh (12 * b) (M.1 176)) (M.1 187) ca stf n) (M.1 175))) 187 (pre n (fun _ => 0) (M.1 187)))) := by
  refine Mt.is (fun Q hQ => ?_)
  refine Mt.of (lv := [some (.ref 149), some (.int (nI b)), some (.ref 175), some (.ref 176), some (.ref 187), some (.int stf), none, none, none, none, none]) rfl ?_
  refine Rn.aload_n dX12_sways_0 rfl ?_
  refine Rn.getR dX12_sways_1 fX12_15 rfl (rc149 hR) (show M.2.2 149 3 = some 151 from (rpt3 hR)) ?_
  refine Rn.iconstv (v := 0) dX12_sways_4 ic_0 ?_
  refine Rn.iald dX12_sways_5 (rc151 hR) (by unfold vp_in; decide) ?_
  refine Rn.topI (y := M.1 151 0) (rfl) ?_
  refine Rn.topI (y := nI n) (hn) ?_
  refine Rn.istore (lv' := [some (.ref 149), some (.int (nI b)), some (.ref 175), some (.ref 176), some (.ref 187), some (.int stf), some (.int (nI n)), none, none, none, none]) dX12_sways_6 (by decide) rfl ?_
  refine Rn.iconstv (v := 0) dX12_sways_8 ic_0 ?_
  refine Rn.istore (lv' := [some (.ref 149), some (.int (nI b)), some (.ref 175), some (.ref 176), some (.ref 187), some (.int stf), some (.int (nI n)), some (.int 0), none, none, none]) dX12_sways_9 (by decide) rfl ?_
  refine Rn.meq (M2 := sI M 188 (pre 0 (sh (12 * b) (M.1 175)) (M.1 188))) (by rw [pre_0, sI_self]) ?_
  have loop : ∀ (k i : Nat) , i + k = n → Rn G l mX12_sways (2, 0, 0, false) 11 [some (.ref 149), some (.int (nI b)), some (.ref 175), some (.ref 176), some (.ref 187), some (.int stf), some (.int (nI n)), some (.int (nI i)), none, none, none] [] ly (sI M 188 (pre i (sh (12 * b) (M.1 175)) (M.1 188))) Q := by
    intro k
    induction k with
    | zero =>
      intro i  hi 
      refine Rn.iload dX12_sways_11 rfl ?_
      refine Rn.iload dX12_sways_13 rfl ?_
      refine Rn.icmp_ge dX12_sways_15 (fun hc => ?_) (fun hc => ?_)
      · skip
        have hi : n = i := by omega
        subst hi
        refine Rn.iconstv (v := 0) dX12_sways_40 ic_0 ?_
        refine Rn.istore (lv' := [some (.ref 149), some (.int (nI b)), some (.ref 175), some (.ref 176), some (.ref 187), some (.int stf), some (.int (nI n)), some (.int 0), none, none, none]) dX12_sways_41 (by decide) rfl ?_
        refine Rn.meq (M2 := sI (sI (sI (sI M 188 (pre n (sh (12 * b) (M.1 175)) (M.1 188))) 176 (blk (12 * b) 0 (nsp (sh (12 * b) (M.1 175)) (sh (12 * b) (M.1 176)) (M.1 187) ca stf n) (M.1 176))) 175 (blk (12 * b) 0 (nou (sh (12 * b) (M.1 175)) (sh (12 * b) (M.1 176)) (M.1 187) ca stf n) (M.1 175))) 187 (pre 0 (fun _ => 0) (M.1 187))) (by simp only [blk_0, pre_0]; exact Eq.symm ((sI_sf rfl).trans ((sI_sf rfl).trans (sI_sf rfl)))) ?_
        have loop2 : ∀ (k j : Nat), j + k = n → Rn G l mX12_sways (2, 0, 0, false) 43 [some (.ref 149), some (.int (nI b)), some (.ref 175), some (.ref 176), some (.ref 187), some (.int stf), some (.int (nI n)), some (.int (nI j)), none, none, none] [] ly (sI (sI (sI (sI M 188 (pre n (sh (12 * b) (M.1 175)) (M.1 188))) 176 (blk (12 * b) j (nsp (sh (12 * b) (M.1 175)) (sh (12 * b) (M.1 176)) (M.1 187) ca stf n) (M.1 176))) 175 (blk (12 * b) j (nou (sh (12 * b) (M.1 175)) (sh (12 * b) (M.1 176)) (M.1 187) ca stf n) (M.1 175))) 187 (pre j (fun _ => 0) (M.1 187))) Q := by
          intro k
          induction k with
          | zero =>
            intro j hj
            refine Rn.iload dX12_sways_43 rfl ?_
            refine Rn.iload dX12_sways_45 rfl ?_
            refine Rn.icmp_ge dX12_sways_47 (fun hc2 => ?_) (fun hc2 => ?_)
            · skip
              have ej : n = j := by omega
              subst ej
              exact Rn.vret dX12_sways_194 rfl hQ
            · skip
              exact absurd (nI_le (a := n) (b := j) (by omega) (by omega)) hc2
          | succ k ih2 =>
            intro j hj
            refine Rn.iload dX12_sways_43 rfl ?_
            refine Rn.iload dX12_sways_45 rfl ?_
            refine Rn.icmp_ge dX12_sways_47 (fun hc2 => ?_) (fun hc2 => ?_)
            · skip
              exact absurd hc2 (nI_ge (a := j) (b := n) (by omega) (by omega))
            · skip
              refine Rn.bipushv (v := 12) dX12_sways_50 bp_12 ?_
              refine Rn.iload_n dX12_sways_52 rfl ?_
              refine Rn.imul dX12_sways_53 ?_
              refine Rn.topI (y := nI (12 * b)) (nI_mul 12 b) ?_
              refine Rn.iload dX12_sways_54 rfl ?_
              refine Rn.iadd dX12_sways_56 ?_
              refine Rn.topI (y := nI (12 * b + j)) (nI_add (12 * b) j) ?_
              refine Rn.istore (lv' := [some (.ref 149), some (.int (nI b)), some (.ref 175), some (.ref 176), some (.ref 187), some (.int stf), some (.int (nI n)), some (.int (nI j)), some (.int (nI (12 * b + j))), none, none]) dX12_sways_57 (by decide) rfl ?_
              refine Rn.iload dX12_sways_59 rfl ?_
              have join1 : Rn G l mX12_sways (2, 0, 0, false) 77 [some (.ref 149), some (.int (nI b)), some (.ref 175), some (.ref 176), some (.ref 187), some (.int stf), some (.int (nI n)), some (.int (nI j)), some (.int (nI (12 * b + j))), none, none] [.int (if 0 < j then (sh (12 * b) (M.1 175)) (j - 1) else 0)] ly (sI (sI (sI (sI M 188 (pre n (sh (12 * b) (M.1 175)) (M.1 188))) 176 (blk (12 * b) j (nsp (sh (12 * b) (M.1 175)) (sh (12 * b) (M.1 176)) (M.1 187) ca stf n) (M.1 176))) 175 (blk (12 * b) j (nou (sh (12 * b) (M.1 175)) (sh (12 * b) (M.1 176)) (M.1 187) ca stf n) (M.1 175))) 187 (pre j (fun _ => 0) (M.1 187))) Q := by
                refine Rn.iload dX12_sways_77 rfl ?_
                refine Rn.iconstv (v := 1) dX12_sways_79 ic_1 ?_
                refine Rn.iadd dX12_sways_80 ?_
                refine Rn.topI (y := nI (j + 1)) (nI_add j 1) ?_
                refine Rn.iload dX12_sways_81 rfl ?_
                have join2 : Rn G l mX12_sways (2, 0, 0, false) 99 [some (.ref 149), some (.int (nI b)), some (.ref 175), some (.ref 176), some (.ref 187), some (.int stf), some (.int (nI n)), some (.int (nI j)), some (.int (nI (12 * b + j))), none, none] [.int (if j + 1 < n then (sh (12 * b) (M.1 175)) (j + 1) else 0), .int (if 0 < j then (sh (12 * b) (M.1 175)) (j - 1) else 0)] ly (sI (sI (sI (sI M 188 (pre n (sh (12 * b) (M.1 175)) (M.1 188))) 176 (blk (12 * b) j (nsp (sh (12 * b) (M.1 175)) (sh (12 * b) (M.1 176)) (M.1 187) ca stf n) (M.1 176))) 175 (blk (12 * b) j (nou (sh (12 * b) (M.1 175)) (sh (12 * b) (M.1 176)) (M.1 187) ca stf n) (M.1 175))) 187 (pre j (fun _ => 0) (M.1 187))) Q := by
                  refine Rn.iadd dX12_sways_99 ?_
                  refine Rn.topI (y := bsd (sh (12 * b) (M.1 175)) n j) (rfl) ?_
                  refine Rn.istore (lv' := [some (.ref 149), some (.int (nI b)), some (.ref 175), some (.ref 176), some (.ref 187), some (.int stf), some (.int (nI n)), some (.int (nI j)), some (.int (nI (12 * b + j))), some (.int (bsd (sh (12 * b) (M.1 175)) n j)), none]) dX12_sways_100 (by decide) rfl ?_
                  refine Rn.aload_n dX12_sways_102 rfl ?_
                  refine Rn.iload dX12_sways_103 rfl ?_
                  refine Rn.ialdN (k0 := (12 * b + j)) dX12_sways_105 (rc176 hR) (by omega) (by decide) ?_
                  refine Rn.topI (y := (sh (12 * b) (M.1 176)) j) (blk_out (by omega)) ?_
                  refine Rn.iload dX12_sways_106 rfl ?_
                  refine Rn.iload dX12_sways_108 rfl ?_
                  refine Rn.iconstv (v := 2) dX12_sways_110 ic_2 ?_
                  refine Rn.aload_n dX12_sways_111 rfl ?_
                  refine Rn.getR dX12_sways_112 fX12_138 rfl (rc149 hR) (show M.2.2 149 65 = some 188 from (rpt65 hR)) ?_
                  refine Rn.iload dX12_sways_115 rfl ?_
                  refine Rn.ialdN (k0 := j) dX12_sways_117 (rc188 hR) (by omega) (by decide) ?_
                  refine Rn.topI (y := (sh (12 * b) (M.1 175)) j) (pre_lt (by omega)) ?_
                  refine Rn.imul dX12_sways_118 ?_
                  refine Rn.isub dX12_sways_119 ?_
                  refine Rn.imul dX12_sways_120 ?_
                  refine Rn.bipushv (v := 16) dX12_sways_121 bp_16 ?_
                  refine Rn.idiv dX12_sways_123 (by decide) ?_
                  refine Rn.iadd dX12_sways_124 ?_
                  refine Rn.aload dX12_sways_125 rfl ?_
                  refine Rn.iload dX12_sways_127 rfl ?_
                  refine Rn.ialdN (k0 := j) dX12_sways_129 (rc187 hR) (by omega) (by decide) ?_
                  refine Rn.topI (y := M.1 187 j) (show pre j (fun _ => 0) (M.1 187) j = _ from pre_ge (Nat.le_refl j)) ?_
                  refine Rn.iadd dX12_sways_130 ?_
                  refine Rn.topI (y := vel (sh (12 * b) (M.1 175)) (sh (12 * b) (M.1 176)) (M.1 187) stf n j) (rfl) ?_
                  refine Rn.istore (lv' := [some (.ref 149), some (.int (nI b)), some (.ref 175), some (.ref 176), some (.ref 187), some (.int stf), some (.int (nI n)), some (.int (nI j)), some (.int (nI (12 * b + j))), some (.int (bsd (sh (12 * b) (M.1 175)) n j)), some (.int (vel (sh (12 * b) (M.1 175)) (sh (12 * b) (M.1 176)) (M.1 187) stf n j))]) dX12_sways_131 (by decide) rfl ?_
                  refine Rn.iload dX12_sways_133 rfl ?_
                  refine Rn.iload dX12_sways_135 rfl ?_
                  refine Rn.aload_n dX12_sways_137 rfl ?_
                  refine Rn.iload_n dX12_sways_138 rfl ?_
                  refine Rn.iload dX12_sways_139 rfl ?_
                  refine Rn.callV2 dX12_sways_141 vX12_415 (rc149 hR) (by decide) rfl (tX12_calmC (M := sI (sI (sI (sI M 188 (pre n (sh (12 * b) (M.1 175)) (M.1 188))) 176 (blk (12 * b) j (nsp (sh (12 * b) (M.1 175)) (sh (12 * b) (M.1 176)) (M.1 187) ca stf n) (M.1 176))) 175 (blk (12 * b) j (nou (sh (12 * b) (M.1 175)) (sh (12 * b) (M.1 176)) (M.1 187) ca stf n) (M.1 175))) 187 (pre j (fun _ => 0) (M.1 187))) (n := n) (c := j) (ca := ca) hb (hcm.mv rfl rfl rfl rfl rfl) (by omega) hR) (by decide) ⟨(Nat.le_of_ble_eq_true rfl), (Nat.le_of_ble_eq_true rfl), (Nat.le_of_ble_eq_true rfl)⟩ (fun h => by cases h) (fun v1 ly1 M1 ⟨q1, q2, q3⟩ => ?_)
                  rw [q1, q2, q3]
                  refine Rn.imul dX12_sways_144 ?_
                  refine Rn.bipushv (v := 100) dX12_sways_145 bp_100 ?_
                  refine Rn.idiv dX12_sways_147 (by decide) ?_
                  refine Rn.isub dX12_sways_148 ?_
                  refine Rn.istore (lv' := [some (.ref 149), some (.int (nI b)), some (.ref 175), some (.ref 176), some (.ref 187), some (.int stf), some (.int (nI n)), some (.int (nI j)), some (.int (nI (12 * b + j))), some (.int (bsd (sh (12 * b) (M.1 175)) n j)), some (.int ((vel (sh (12 * b) (M.1 175)) (sh (12 * b) (M.1 176)) (M.1 187) stf n j) - (((vel (sh (12 * b) (M.1 175)) (sh (12 * b) (M.1 176)) (M.1 187) stf n j) * (ca j)) / 100)))]) dX12_sways_149 (by decide) rfl ?_
                  refine Rn.aload_n dX12_sways_151 rfl ?_
                  refine Rn.iload dX12_sways_152 rfl ?_
                  refine Rn.iload dX12_sways_154 rfl ?_
                  refine Rn.ldcw dX12_sways_156 kX12_418 ?_
                  refine Rn.callS2 dX12_sways_159 vX12_419 (tX12_within) (by decide) ⟨(Nat.le_of_ble_eq_true rfl), (Nat.le_of_ble_eq_true rfl), (Nat.le_of_ble_eq_true rfl)⟩ (fun h => by cases h) (fun v1 ly1 M1 ⟨q1, q2, q3⟩ => ?_)
                  rw [q1, q2, q3]
                  show Rn G l mX12_sways (2, 0, 0, false) 162 [some (.ref 149), some (.int (nI b)), some (.ref 175), some (.ref 176), some (.ref 187), some (.int stf), some (.int (nI n)), some (.int (nI j)), some (.int (nI (12 * b + j))), some (.int (bsd (sh (12 * b) (M.1 175)) n j)), some (.int ((vel (sh (12 * b) (M.1 175)) (sh (12 * b) (M.1 176)) (M.1 187) stf n j) - (((vel (sh (12 * b) (M.1 175)) (sh (12 * b) (M.1 176)) (M.1 187) stf n j) * (ca j)) / 100)))] [.int ((nsp (sh (12 * b) (M.1 175)) (sh (12 * b) (M.1 176)) (M.1 187) ca stf n) j), .int (nI (12 * b + j)), .ref 176] ly (sI (sI (sI (sI M 188 (pre n (sh (12 * b) (M.1 175)) (M.1 188))) 176 (blk (12 * b) j (nsp (sh (12 * b) (M.1 175)) (sh (12 * b) (M.1 176)) (M.1 187) ca stf n) (M.1 176))) 175 (blk (12 * b) j (nou (sh (12 * b) (M.1 175)) (sh (12 * b) (M.1 176)) (M.1 187) ca stf n) (M.1 175))) 187 (pre j (fun _ => 0) (M.1 187))) Q
                  refine Rn.iastN (k0 := (12 * b + j)) dX12_sways_162 (rc176 hR) (by omega) (by decide) ?_
                  refine Rn.meq (M2 := sI (sI (sI (sI M 188 (pre n (sh (12 * b) (M.1 175)) (M.1 188))) 176 (upd (blk (12 * b) j (nsp (sh (12 * b) (M.1 175)) (sh (12 * b) (M.1 176)) (M.1 187) ca stf n) (M.1 176)) (12 * b + j) ((nsp (sh (12 * b) (M.1 175)) (sh (12 * b) (M.1 176)) (M.1 187) ca stf n) j))) 175 (blk (12 * b) j (nou (sh (12 * b) (M.1 175)) (sh (12 * b) (M.1 176)) (M.1 187) ca stf n) (M.1 175))) 187 (pre j (fun _ => 0) (M.1 187))) ((sI_comm (show 187 ≠ 176 by decide)).trans (congrArg (fun m9 => sI m9 187 (pre j (fun _ => 0) (M.1 187))) ((sI_comm (show 175 ≠ 176 by decide)).trans (congrArg (fun m9 => sI m9 175 (blk (12 * b) j (nou (sh (12 * b) (M.1 175)) (sh (12 * b) (M.1 176)) (M.1 187) ca stf n) (M.1 175))) (sI_sI _ _ _ _))))) ?_
                  refine Rn.meq (M2 := sI (sI (sI (sI M 188 (pre n (sh (12 * b) (M.1 175)) (M.1 188))) 176 (blk (12 * b) (j + 1) (nsp (sh (12 * b) (M.1 175)) (sh (12 * b) (M.1 176)) (M.1 187) ca stf n) (M.1 176))) 175 (blk (12 * b) j (nou (sh (12 * b) (M.1 175)) (sh (12 * b) (M.1 176)) (M.1 187) ca stf n) (M.1 175))) 187 (pre j (fun _ => 0) (M.1 187))) (congrArg (fun m9 => sI m9 187 (pre j (fun _ => 0) (M.1 187))) (congrArg (fun m9 => sI m9 175 (blk (12 * b) j (nou (sh (12 * b) (M.1 175)) (sh (12 * b) (M.1 176)) (M.1 187) ca stf n) (M.1 175))) (congrArg (fun r9 => sI (sI M 188 (pre n (sh (12 * b) (M.1 175)) (M.1 188))) 176 r9) (blk_up (12 * b) j (nsp (sh (12 * b) (M.1 175)) (sh (12 * b) (M.1 176)) (M.1 187) ca stf n) (M.1 176))))) ?_
                  refine Rn.aload_n dX12_sways_163 rfl ?_
                  refine Rn.iload dX12_sways_164 rfl ?_
                  refine Rn.aload_n dX12_sways_166 rfl ?_
                  refine Rn.iload dX12_sways_167 rfl ?_
                  refine Rn.ialdN (k0 := (12 * b + j)) dX12_sways_169 (rc175 hR) (by omega) (by decide) ?_
                  refine Rn.topI (y := (sh (12 * b) (M.1 175)) j) (blk_out (by omega)) ?_
                  refine Rn.aload_n dX12_sways_170 rfl ?_
                  refine Rn.iload dX12_sways_171 rfl ?_
                  refine Rn.ialdN (k0 := (12 * b + j)) dX12_sways_173 (rc176 hR) (by omega) (by decide) ?_
                  refine Rn.topI (y := (nsp (sh (12 * b) (M.1 175)) (sh (12 * b) (M.1 176)) (M.1 187) ca stf n) j) (blk_in (Nat.lt_succ_self j)) ?_
                  refine Rn.iadd dX12_sways_174 ?_
                  refine Rn.ldcw dX12_sways_175 kX12_418 ?_
                  refine Rn.callS2 dX12_sways_178 vX12_419 (tX12_within) (by decide) ⟨(Nat.le_of_ble_eq_true rfl), (Nat.le_of_ble_eq_true rfl), (Nat.le_of_ble_eq_true rfl)⟩ (fun h => by cases h) (fun v1 ly1 M1 ⟨q1, q2, q3⟩ => ?_)
                  rw [q1, q2, q3]
                  show Rn G l mX12_sways (2, 0, 0, false) 181 [some (.ref 149), some (.int (nI b)), some (.ref 175), some (.ref 176), some (.ref 187), some (.int stf), some (.int (nI n)), some (.int (nI j)), some (.int (nI (12 * b + j))), some (.int (bsd (sh (12 * b) (M.1 175)) n j)), some (.int ((vel (sh (12 * b) (M.1 175)) (sh (12 * b) (M.1 176)) (M.1 187) stf n j) - (((vel (sh (12 * b) (M.1 175)) (sh (12 * b) (M.1 176)) (M.1 187) stf n j) * (ca j)) / 100)))] [.int ((nou (sh (12 * b) (M.1 175)) (sh (12 * b) (M.1 176)) (M.1 187) ca stf n) j), .int (nI (12 * b + j)), .ref 175] ly (sI (sI (sI (sI M 188 (pre n (sh (12 * b) (M.1 175)) (M.1 188))) 176 (blk (12 * b) (j + 1) (nsp (sh (12 * b) (M.1 175)) (sh (12 * b) (M.1 176)) (M.1 187) ca stf n) (M.1 176))) 175 (blk (12 * b) j (nou (sh (12 * b) (M.1 175)) (sh (12 * b) (M.1 176)) (M.1 187) ca stf n) (M.1 175))) 187 (pre j (fun _ => 0) (M.1 187))) Q
                  refine Rn.iastN (k0 := (12 * b + j)) dX12_sways_181 (rc175 hR) (by omega) (by decide) ?_
                  refine Rn.meq (M2 := sI (sI (sI (sI M 188 (pre n (sh (12 * b) (M.1 175)) (M.1 188))) 176 (blk (12 * b) (j + 1) (nsp (sh (12 * b) (M.1 175)) (sh (12 * b) (M.1 176)) (M.1 187) ca stf n) (M.1 176))) 175 (upd (blk (12 * b) j (nou (sh (12 * b) (M.1 175)) (sh (12 * b) (M.1 176)) (M.1 187) ca stf n) (M.1 175)) (12 * b + j) ((nou (sh (12 * b) (M.1 175)) (sh (12 * b) (M.1 176)) (M.1 187) ca stf n) j))) 187 (pre j (fun _ => 0) (M.1 187))) ((sI_comm (show 187 ≠ 175 by decide)).trans (congrArg (fun m9 => sI m9 187 (pre j (fun _ => 0) (M.1 187))) (sI_sI _ _ _ _))) ?_
                  refine Rn.meq (M2 := sI (sI (sI (sI M 188 (pre n (sh (12 * b) (M.1 175)) (M.1 188))) 176 (blk (12 * b) (j + 1) (nsp (sh (12 * b) (M.1 175)) (sh (12 * b) (M.1 176)) (M.1 187) ca stf n) (M.1 176))) 175 (blk (12 * b) (j + 1) (nou (sh (12 * b) (M.1 175)) (sh (12 * b) (M.1 176)) (M.1 187) ca stf n) (M.1 175))) 187 (pre j (fun _ => 0) (M.1 187))) (congrArg (fun m9 => sI m9 187 (pre j (fun _ => 0) (M.1 187))) (congrArg (fun r9 => sI (sI (sI M 188 (pre n (sh (12 * b) (M.1 175)) (M.1 188))) 176 (blk (12 * b) (j + 1) (nsp (sh (12 * b) (M.1 175)) (sh (12 * b) (M.1 176)) (M.1 187) ca stf n) (M.1 176))) 175 r9) (blk_up (12 * b) j (nou (sh (12 * b) (M.1 175)) (sh (12 * b) (M.1 176)) (M.1 187) ca stf n) (M.1 175)))) ?_
                  refine Rn.aload dX12_sways_182 rfl ?_
                  refine Rn.iload dX12_sways_184 rfl ?_
                  refine Rn.iconstv (v := 0) dX12_sways_186 ic_0 ?_
                  refine Rn.iastN (k0 := j) dX12_sways_187 (rc187 hR) (by omega) (by decide) ?_
                  refine Rn.meq (M2 := sI (sI (sI (sI M 188 (pre n (sh (12 * b) (M.1 175)) (M.1 188))) 176 (blk (12 * b) (j + 1) (nsp (sh (12 * b) (M.1 175)) (sh (12 * b) (M.1 176)) (M.1 187) ca stf n) (M.1 176))) 175 (blk (12 * b) (j + 1) (nou (sh (12 * b) (M.1 175)) (sh (12 * b) (M.1 176)) (M.1 187) ca stf n) (M.1 175))) 187 (upd (pre j (fun _ => 0) (M.1 187)) j 0)) (sI_sI _ _ _ _) ?_
                  refine Rn.meq (M2 := sI (sI (sI (sI M 188 (pre n (sh (12 * b) (M.1 175)) (M.1 188))) 176 (blk (12 * b) (j + 1) (nsp (sh (12 * b) (M.1 175)) (sh (12 * b) (M.1 176)) (M.1 187) ca stf n) (M.1 176))) 175 (blk (12 * b) (j + 1) (nou (sh (12 * b) (M.1 175)) (sh (12 * b) (M.1 176)) (M.1 187) ca stf n) (M.1 175))) 187 (pre (j + 1) (fun _ => 0) (M.1 187))) (congrArg (fun r9 => sI (sI (sI (sI M 188 (pre n (sh (12 * b) (M.1 175)) (M.1 188))) 176 (blk (12 * b) (j + 1) (nsp (sh (12 * b) (M.1 175)) (sh (12 * b) (M.1 176)) (M.1 187) ca stf n) (M.1 176))) 175 (blk (12 * b) (j + 1) (nou (sh (12 * b) (M.1 175)) (sh (12 * b) (M.1 176)) (M.1 187) ca stf n) (M.1 175))) 187 r9) (pre_up j (fun _ => 0) (M.1 187))) ?_
                  refine Rn.iincN (lv' := [some (.ref 149), some (.int (nI b)), some (.ref 175), some (.ref 176), some (.ref 187), some (.int stf), some (.int (nI n)), some (.int (nI (j + 1))), some (.int (nI (12 * b + j))), some (.int (bsd (sh (12 * b) (M.1 175)) n j)), some (.int ((vel (sh (12 * b) (M.1 175)) (sh (12 * b) (M.1 176)) (M.1 187) stf n j) - (((vel (sh (12 * b) (M.1 175)) (sh (12 * b) (M.1 176)) (M.1 187) stf n j) * (ca j)) / 100)))]) dX12_sways_188 rfl (by decide) rfl ?_
                  refine Rn.goto dX12_sways_191 ?_
                  refine Rn.forget (lv' := [some (.ref 149), some (.int (nI b)), some (.ref 175), some (.ref 176), some (.ref 187), some (.int stf), some (.int (nI n)), some (.int (nI (j + 1))), none, none, none]) (⟨rfl, ⟨rfl, ⟨rfl, ⟨rfl, ⟨rfl, ⟨rfl, ⟨rfl, ⟨rfl, trivial⟩⟩⟩⟩⟩⟩⟩⟩) ?_
                  exact ih2 (j + 1) (by omega)
                refine Rn.icmp_ge dX12_sways_83 (fun g2 => ?_) (fun g2 => ?_)
                · skip
                  refine Rn.iconstv (v := 0) dX12_sways_98 ic_0 ?_
                  refine Rn.topI (y := (if j + 1 < n then (sh (12 * b) (M.1 175)) (j + 1) else 0)) ((if_neg (fun h => nI_ge h (by omega) g2)).symm) ?_
                  exact join2
                · skip
                  have hlt : j + 1 < n := Nat.lt_of_not_le (fun h => g2 (nI_le h (by omega)))
                  refine Rn.aload_n dX12_sways_86 rfl ?_
                  refine Rn.getR dX12_sways_87 fX12_138 rfl (rc149 hR) (show M.2.2 149 65 = some 188 from (rpt65 hR)) ?_
                  refine Rn.iload dX12_sways_90 rfl ?_
                  refine Rn.iconstv (v := 1) dX12_sways_92 ic_1 ?_
                  refine Rn.iadd dX12_sways_93 ?_
                  refine Rn.topI (y := nI (j + 1)) (nI_add j 1) ?_
                  refine Rn.ialdN (k0 := (j + 1)) dX12_sways_94 (rc188 hR) (by omega) (by decide) ?_
                  refine Rn.topI (y := (sh (12 * b) (M.1 175)) (j + 1)) (pre_lt hlt) ?_
                  refine Rn.goto dX12_sways_95 ?_
                  refine Rn.topI (y := (if j + 1 < n then (sh (12 * b) (M.1 175)) (j + 1) else 0)) ((if_pos hlt).symm) ?_
                  exact join2
              refine Rn.if_le dX12_sways_61 (fun g1 => ?_) (fun g1 => ?_)
              · skip
                refine Rn.iconstv (v := 0) dX12_sways_76 ic_0 ?_
                refine Rn.topI (y := (if 0 < j then (sh (12 * b) (M.1 175)) (j - 1) else 0)) ((if_neg (fun h => nI_nle h (by omega) g1)).symm) ?_
                exact join1
              · skip
                have hlt : 0 < j := Nat.pos_of_ne_zero (fun h => g1 (by rw [h]; decide))
                refine Rn.aload_n dX12_sways_64 rfl ?_
                refine Rn.getR dX12_sways_65 fX12_138 rfl (rc149 hR) (show M.2.2 149 65 = some 188 from (rpt65 hR)) ?_
                refine Rn.iload dX12_sways_68 rfl ?_
                refine Rn.iconstv (v := 1) dX12_sways_70 ic_1 ?_
                refine Rn.isub dX12_sways_71 ?_
                refine Rn.topI (y := nI (j - 1)) (i32sub (b := 1) (by omega)) ?_
                refine Rn.ialdN (k0 := (j - 1)) dX12_sways_72 (rc188 hR) (by omega) (by decide) ?_
                refine Rn.topI (y := (sh (12 * b) (M.1 175)) (j - 1)) (pre_lt (by omega)) ?_
                refine Rn.goto dX12_sways_73 ?_
                refine Rn.topI (y := (if 0 < j then (sh (12 * b) (M.1 175)) (j - 1) else 0)) ((if_pos hlt).symm) ?_
                exact join1
        exact loop2 n 0 (by omega)
      · exact absurd (nI_le (a := n) (b := i) (by omega) (by omega)) hc
    | succ k ih =>
      intro i  hi 
      refine Rn.iload dX12_sways_11 rfl ?_
      refine Rn.iload dX12_sways_13 rfl ?_
      refine Rn.icmp_ge dX12_sways_15 (fun hc => ?_) (fun hc => ?_)
      · exact absurd hc (nI_ge (a := i) (b := n) (by omega) (by omega))
      · skip
        refine Rn.aload_n dX12_sways_18 rfl ?_
        refine Rn.getR dX12_sways_19 fX12_138 rfl (rc149 hR) (show M.2.2 149 65 = some 188 from (rpt65 hR)) ?_
        refine Rn.iload dX12_sways_22 rfl ?_
        refine Rn.aload_n dX12_sways_24 rfl ?_
        refine Rn.bipushv (v := 12) dX12_sways_25 bp_12 ?_
        refine Rn.iload_n dX12_sways_27 rfl ?_
        refine Rn.imul dX12_sways_28 ?_
        refine Rn.topI (y := nI (12 * b)) (nI_mul 12 b) ?_
        refine Rn.iload dX12_sways_29 rfl ?_
        refine Rn.iadd dX12_sways_31 ?_
        refine Rn.topI (y := nI (12 * b + i)) (nI_add (12 * b) i) ?_
        refine Rn.ialdN (k0 := (12 * b + i)) dX12_sways_32 (rc175 hR) (by omega) (by decide) ?_
        refine Rn.iastN (k0 := i) dX12_sways_33 (rc188 hR) (by omega) (by decide) ?_
        refine Rn.meq (M2 := sI M 188 (upd (pre i (sh (12 * b) (M.1 175)) (M.1 188)) i (M.1 175 (12 * b + i)))) (sI_sI _ _ _ _) ?_
        refine Rn.meq (M2 := sI M 188 (pre (i + 1) (sh (12 * b) (M.1 175)) (M.1 188))) (congrArg (fun r9 => sI M 188 r9) (pre_up i (sh (12 * b) (M.1 175)) (M.1 188))) ?_
        refine Rn.iincN (lv' := [some (.ref 149), some (.int (nI b)), some (.ref 175), some (.ref 176), some (.ref 187), some (.int stf), some (.int (nI n)), some (.int (nI (i + 1))), none, none, none]) dX12_sways_34 rfl (by decide) rfl ?_
        refine Rn.goto dX12_sways_37 ?_
        exact ih (i + 1) (by omega)
  exact loop n 0 (by omega)
