/-- who is fat is copied, from the bridge q to p -/
def cfR (M K : Mm) (p q nf : Nat) : Prop := K.2.2 = M.2.2 ∧ (∀ a, a ≠ 180 → a ≠ 181 → a ≠ 182 → K.1 a = M.1 a) ∧ K.1 180 = upd (M.1 180) p (nI nf) ∧ K.1 181 = blk (12 * p) nf (sh (12 * q) (M.1 181)) (M.1 181) ∧ K.1 182 = blk (12 * p) nf (sh (12 * q) (M.1 182)) (M.1 182)
/-- a bridge is copied, from q to p -/
def cbR (M K : Mm) (p q nf : Nat) : Prop := K.2.2 = M.2.2 ∧ (∀ a, a < 169 ∨ 182 < a → K.1 a = M.1 a) ∧ (∀ a, 169 ≤ a ∧ a ≤ 172 → K.1 a = upd (M.1 a) p (M.1 a q)) ∧ (∀ a, 173 ≤ a ∧ a ≤ 176 → K.1 a = blk (12 * p) 12 (sh (12 * q) (M.1 a)) (M.1 a)) ∧ (∀ a, 177 ≤ a ∧ a ≤ 179 → K.1 a = blk (6 * p) 6 (sh (6 * q) (M.1 a)) (M.1 a)) ∧ K.1 180 = upd (M.1 180) p (nI nf) ∧ (∀ a, 181 ≤ a ∧ a ≤ 182 → K.1 a = blk (12 * p) nf (sh (12 * q) (M.1 a)) (M.1 a))
theorem tX12_copiesFat {G : Gx} {l : Launch} {ly : Ly} {M : Mm} {p q nf : Nat} (hp : p < 24) (hq : q < 24) (hpq : p ≠ q) (hnf : M.1 180 q = nI nf) (hnf12 : nf ≤ 12) (hR : RW ly M.2.2) {Q : Qt} (hQ : ∀ K, cfR M K p q nf → Q none ly K) : Mt G l mX12_copiesFat (1, 0, 0, false) [.ref 149, .int (nI p), .int (nI q)] ly M Q := by
  refine Mt.of (lv := [some (.ref 149), some (.int (nI p)), some (.int (nI q)), none]) rfl ?_
  refine Rn.aload_n dX12_copiesFat_0 rfl ?_
  refine Rn.getR dX12_copiesFat_1 fX12_107 rfl (rc149 hR) (show M.2.2 149 46 = some 180 from (rpt46 hR)) ?_
  refine Rn.iload_n dX12_copiesFat_4 rfl ?_
  refine Rn.aload_n dX12_copiesFat_5 rfl ?_
  refine Rn.getR dX12_copiesFat_6 fX12_107 rfl (rc149 hR) (show M.2.2 149 46 = some 180 from (rpt46 hR)) ?_
  refine Rn.iload_n dX12_copiesFat_9 rfl ?_
  refine Rn.ialdN (k0 := q) dX12_copiesFat_10 (rc180 hR) (by omega) (by decide) ?_
  refine Rn.topI (y := nI nf) (hnf) ?_
  refine Rn.iastN (k0 := p) dX12_copiesFat_11 (rc180 hR) (by omega) (by decide) ?_
  refine Rn.iconstv (v := 0) dX12_copiesFat_12 ic_0 ?_
  refine Rn.istore_n (lv' := [some (.ref 149), some (.int (nI p)), some (.int (nI q)), some (.int 0)]) dX12_copiesFat_13 (by decide) rfl ?_
  refine Rn.meq (M2 := sI (sI (sI M 180 (upd (M.1 180) p (nI nf))) 181 (blk (12 * p) 0 (sh (12 * q) (M.1 181)) (M.1 181))) 182 (blk (12 * p) 0 (sh (12 * q) (M.1 182)) (M.1 182))) (by simp only [blk_0]; exact Eq.symm ((sI_sf rfl).trans (sI_sf rfl))) ?_
  have loop : ∀ (k i : Nat) , i + k = nf → Rn G l mX12_copiesFat (1, 0, 0, false) 14 [some (.ref 149), some (.int (nI p)), some (.int (nI q)), some (.int (nI i))] [] ly (sI (sI (sI M 180 (upd (M.1 180) p (nI nf))) 181 (blk (12 * p) i (sh (12 * q) (M.1 181)) (M.1 181))) 182 (blk (12 * p) i (sh (12 * q) (M.1 182)) (M.1 182))) Q := by
    intro k
    induction k with
    | zero =>
      intro i  hi 
      refine Rn.iload_n dX12_copiesFat_14 rfl ?_
      refine Rn.aload_n dX12_copiesFat_15 rfl ?_
      refine Rn.getR dX12_copiesFat_16 fX12_107 rfl (rc149 hR) (show M.2.2 149 46 = some 180 from (rpt46 hR)) ?_
      refine Rn.iload_n dX12_copiesFat_19 rfl ?_
      refine Rn.ialdN (k0 := q) dX12_copiesFat_20 (rc180 hR) (by omega) (by decide) ?_
      refine Rn.topI (y := M.1 180 q) (pk_un (show q ≠ p by omega)) ?_
      refine Rn.topI (y := nI nf) (hnf) ?_
      refine Rn.icmp_ge dX12_copiesFat_21 (fun hc => ?_) (fun hc => ?_)
      · skip
        have hi : nf = i := by omega
        subst hi
        exact Rn.vret dX12_copiesFat_74 rfl (hQ _ ⟨rfl, fun a a1 a2 a3 => (sI_ne a3).trans ((sI_ne a2).trans (sI_ne a1)), rfl, rfl, rfl⟩)
      · exact absurd (nI_le (a := nf) (b := i) (by omega) (by omega)) hc
    | succ k ih =>
      intro i  hi 
      refine Rn.iload_n dX12_copiesFat_14 rfl ?_
      refine Rn.aload_n dX12_copiesFat_15 rfl ?_
      refine Rn.getR dX12_copiesFat_16 fX12_107 rfl (rc149 hR) (show M.2.2 149 46 = some 180 from (rpt46 hR)) ?_
      refine Rn.iload_n dX12_copiesFat_19 rfl ?_
      refine Rn.ialdN (k0 := q) dX12_copiesFat_20 (rc180 hR) (by omega) (by decide) ?_
      refine Rn.topI (y := M.1 180 q) (pk_un (show q ≠ p by omega)) ?_
      refine Rn.topI (y := nI nf) (hnf) ?_
      refine Rn.icmp_ge dX12_copiesFat_21 (fun hc => ?_) (fun hc => ?_)
      · exact absurd hc (nI_ge (a := i) (b := nf) (by omega) (by omega))
      · skip
        refine Rn.aload_n dX12_copiesFat_24 rfl ?_
        refine Rn.getR dX12_copiesFat_25 fX12_110 rfl (rc149 hR) (show M.2.2 149 47 = some 181 from (rpt47 hR)) ?_
        refine Rn.bipushv (v := 12) dX12_copiesFat_28 bp_12 ?_
        refine Rn.iload_n dX12_copiesFat_30 rfl ?_
        refine Rn.imul dX12_copiesFat_31 ?_
        refine Rn.topI (y := nI (12 * p)) (nI_mul 12 p) ?_
        refine Rn.iload_n dX12_copiesFat_32 rfl ?_
        refine Rn.iadd dX12_copiesFat_33 ?_
        refine Rn.topI (y := nI (12 * p + i)) (nI_add (12 * p) i) ?_
        refine Rn.aload_n dX12_copiesFat_34 rfl ?_
        refine Rn.getR dX12_copiesFat_35 fX12_110 rfl (rc149 hR) (show M.2.2 149 47 = some 181 from (rpt47 hR)) ?_
        refine Rn.bipushv (v := 12) dX12_copiesFat_38 bp_12 ?_
        refine Rn.iload_n dX12_copiesFat_40 rfl ?_
        refine Rn.imul dX12_copiesFat_41 ?_
        refine Rn.topI (y := nI (12 * q)) (nI_mul 12 q) ?_
        refine Rn.iload_n dX12_copiesFat_42 rfl ?_
        refine Rn.iadd dX12_copiesFat_43 ?_
        refine Rn.topI (y := nI (12 * q + i)) (nI_add (12 * q) i) ?_
        refine Rn.ialdN (k0 := (12 * q + i)) dX12_copiesFat_44 (rc181 hR) (by omega) (by decide) ?_
        refine Rn.topI (y := sh (12 * q) (M.1 181) i) (show blk (12 * p) i (sh (12 * q) (M.1 181)) (M.1 181) (12 * q + i) = sh (12 * q) (M.1 181) i from blk_out (by omega)) ?_
        refine Rn.iastN (k0 := (12 * p + i)) dX12_copiesFat_45 (rc181 hR) (by omega) (by decide) ?_
        refine Rn.meq (M2 := sI (sI (sI M 180 (upd (M.1 180) p (nI nf))) 181 (upd (blk (12 * p) i (sh (12 * q) (M.1 181)) (M.1 181)) (12 * p + i) (sh (12 * q) (M.1 181) i))) 182 (blk (12 * p) i (sh (12 * q) (M.1 182)) (M.1 182))) ((sI_comm (show 182 ≠ 181 by decide)).trans (congrArg (fun m9 => sI m9 182 (blk (12 * p) i (sh (12 * q) (M.1 182)) (M.1 182))) (sI_sI _ _ _ _))) ?_
        refine Rn.meq (M2 := sI (sI (sI M 180 (upd (M.1 180) p (nI nf))) 181 (blk (12 * p) (i + 1) (sh (12 * q) (M.1 181)) (M.1 181))) 182 (blk (12 * p) i (sh (12 * q) (M.1 182)) (M.1 182))) (congrArg (fun m9 => sI m9 182 (blk (12 * p) i (sh (12 * q) (M.1 182)) (M.1 182))) (congrArg (fun r9 => sI (sI M 180 (upd (M.1 180) p (nI nf))) 181 r9) (blk_up (12 * p) i (sh (12 * q) (M.1 181)) (M.1 181)))) ?_
        refine Rn.aload_n dX12_copiesFat_46 rfl ?_
        refine Rn.getR dX12_copiesFat_47 fX12_113 rfl (rc149 hR) (show M.2.2 149 48 = some 182 from (rpt48 hR)) ?_
        refine Rn.bipushv (v := 12) dX12_copiesFat_50 bp_12 ?_
        refine Rn.iload_n dX12_copiesFat_52 rfl ?_
        refine Rn.imul dX12_copiesFat_53 ?_
        refine Rn.topI (y := nI (12 * p)) (nI_mul 12 p) ?_
        refine Rn.iload_n dX12_copiesFat_54 rfl ?_
        refine Rn.iadd dX12_copiesFat_55 ?_
        refine Rn.topI (y := nI (12 * p + i)) (nI_add (12 * p) i) ?_
        refine Rn.aload_n dX12_copiesFat_56 rfl ?_
        refine Rn.getR dX12_copiesFat_57 fX12_113 rfl (rc149 hR) (show M.2.2 149 48 = some 182 from (rpt48 hR)) ?_
        refine Rn.bipushv (v := 12) dX12_copiesFat_60 bp_12 ?_
        refine Rn.iload_n dX12_copiesFat_62 rfl ?_
        refine Rn.imul dX12_copiesFat_63 ?_
        refine Rn.topI (y := nI (12 * q)) (nI_mul 12 q) ?_
        refine Rn.iload_n dX12_copiesFat_64 rfl ?_
        refine Rn.iadd dX12_copiesFat_65 ?_
        refine Rn.topI (y := nI (12 * q + i)) (nI_add (12 * q) i) ?_
        refine Rn.ialdN (k0 := (12 * q + i)) dX12_copiesFat_66 (rc182 hR) (by omega) (by decide) ?_
        refine Rn.topI (y := sh (12 * q) (M.1 182) i) (show blk (12 * p) i (sh (12 * q) (M.1 182)) (M.1 182) (12 * q + i) = sh (12 * q) (M.1 182) i from blk_out (by omega)) ?_
        refine Rn.iastN (k0 := (12 * p + i)) dX12_copiesFat_67 (rc182 hR) (by omega) (by decide) ?_
        refine Rn.meq (M2 := sI (sI (sI M 180 (upd (M.1 180) p (nI nf))) 181 (blk (12 * p) (i + 1) (sh (12 * q) (M.1 181)) (M.1 181))) 182 (upd (blk (12 * p) i (sh (12 * q) (M.1 182)) (M.1 182)) (12 * p + i) (sh (12 * q) (M.1 182) i))) (sI_sI _ _ _ _) ?_
        refine Rn.meq (M2 := sI (sI (sI M 180 (upd (M.1 180) p (nI nf))) 181 (blk (12 * p) (i + 1) (sh (12 * q) (M.1 181)) (M.1 181))) 182 (blk (12 * p) (i + 1) (sh (12 * q) (M.1 182)) (M.1 182))) (congrArg (fun r9 => sI (sI (sI M 180 (upd (M.1 180) p (nI nf))) 181 (blk (12 * p) (i + 1) (sh (12 * q) (M.1 181)) (M.1 181))) 182 r9) (blk_up (12 * p) i (sh (12 * q) (M.1 182)) (M.1 182))) ?_
        refine Rn.iincN (lv' := [some (.ref 149), some (.int (nI p)), some (.int (nI q)), some (.int (nI (i + 1)))]) dX12_copiesFat_68 rfl (by decide) rfl ?_
        refine Rn.goto dX12_copiesFat_71 ?_
        exact ih (i + 1) (by omega)
  exact loop nf 0 (by omega)
theorem tX12_copies {G : Gx} {l : Launch} {ly : Ly} {M : Mm} {p q nf : Nat} (hp : p < 24) (hq : q < 24) (hpq : p ≠ q) (hnf : M.1 180 q = nI nf) (hnf12 : nf ≤ 12) (hbl : M.1 171 q = 0 ∨ M.1 171 q = 1) (hR : RW ly M.2.2) {Q : Qt} (hQ : ∀ K, cbR M K p q nf → Q none ly K) : Mt G l mX12_copies (2, 0, 0, false) [.ref 149, .int (nI p), .int (nI q)] ly M Q := by
  refine Mt.of (lv := [some (.ref 149), some (.int (nI p)), some (.int (nI q)), none]) rfl ?_
  refine Rn.aload_n dX12_copies_0 rfl ?_
  refine Rn.getR dX12_copies_1 fX12_73 rfl (rc149 hR) (show M.2.2 149 35 = some 169 from (rpt35 hR)) ?_
  refine Rn.iload_n dX12_copies_4 rfl ?_
  refine Rn.aload_n dX12_copies_5 rfl ?_
  refine Rn.getR dX12_copies_6 fX12_73 rfl (rc149 hR) (show M.2.2 149 35 = some 169 from (rpt35 hR)) ?_
  refine Rn.iload_n dX12_copies_9 rfl ?_
  refine Rn.ialdN (k0 := q) dX12_copies_10 (rc169 hR) (by omega) (by decide) ?_
  refine Rn.iastN (k0 := p) dX12_copies_11 (rc169 hR) (by omega) (by decide) ?_
  refine Rn.aload_n dX12_copies_12 rfl ?_
  refine Rn.getR dX12_copies_13 fX12_76 rfl (rc149 hR) (show M.2.2 149 36 = some 170 from (rpt36 hR)) ?_
  refine Rn.iload_n dX12_copies_16 rfl ?_
  refine Rn.aload_n dX12_copies_17 rfl ?_
  refine Rn.getR dX12_copies_18 fX12_76 rfl (rc149 hR) (show M.2.2 149 36 = some 170 from (rpt36 hR)) ?_
  refine Rn.iload_n dX12_copies_21 rfl ?_
  refine Rn.ialdN (k0 := q) dX12_copies_22 (rc170 hR) (by omega) (by decide) ?_
  refine Rn.iastN (k0 := p) dX12_copies_23 (rc170 hR) (by omega) (by decide) ?_
  refine Rn.aload_n dX12_copies_24 rfl ?_
  refine Rn.getR dX12_copies_25 fX12_79 rfl (rc149 hR) (show M.2.2 149 37 = some 171 from (rpt37 hR)) ?_
  refine Rn.iload_n dX12_copies_28 rfl ?_
  refine Rn.aload_n dX12_copies_29 rfl ?_
  refine Rn.getR dX12_copies_30 fX12_79 rfl (rc149 hR) (show M.2.2 149 37 = some 171 from (rpt37 hR)) ?_
  refine Rn.iload_n dX12_copies_33 rfl ?_
  refine Rn.zaldN (k0 := q) dX12_copies_34 (rc171 hR) (by omega) (by decide) ?_
  refine Rn.zastN (k0 := p) dX12_copies_35 (rc171 hR) (by omega) (by decide) ?_
  refine Rn.meq (M2 := sI (sI (sI M 169 (upd (M.1 169) p (M.1 169 q))) 170 (upd (M.1 170) p (M.1 170 q))) 171 (upd (M.1 171) p (M.1 171 q))) (congrArg (fun r9 => sI (sI (sI M 169 (upd (M.1 169) p (M.1 169 q))) 170 (upd (M.1 170) p (M.1 170 q))) 171 r9) (show upd (M.1 171) p (vp_nar .boolean (M.1 171 q)) = upd (M.1 171) p (M.1 171 q) by rw [narZ hbl])) ?_
  refine Rn.aload_n dX12_copies_36 rfl ?_
  refine Rn.getR dX12_copies_37 fX12_83 rfl (rc149 hR) (show M.2.2 149 38 = some 172 from (rpt38 hR)) ?_
  refine Rn.iload_n dX12_copies_40 rfl ?_
  refine Rn.aload_n dX12_copies_41 rfl ?_
  refine Rn.getR dX12_copies_42 fX12_83 rfl (rc149 hR) (show M.2.2 149 38 = some 172 from (rpt38 hR)) ?_
  refine Rn.iload_n dX12_copies_45 rfl ?_
  refine Rn.ialdN (k0 := q) dX12_copies_46 (rc172 hR) (by omega) (by decide) ?_
  refine Rn.iastN (k0 := p) dX12_copies_47 (rc172 hR) (by omega) (by decide) ?_
  refine Rn.iconstv (v := 0) dX12_copies_48 ic_0 ?_
  refine Rn.istore_n (lv' := [some (.ref 149), some (.int (nI p)), some (.int (nI q)), some (.int 0)]) dX12_copies_49 (by decide) rfl ?_
  refine Rn.meq (M2 := sI (sI (sI (sI (sI (sI (sI (sI M 169 (upd (M.1 169) p (M.1 169 q))) 170 (upd (M.1 170) p (M.1 170 q))) 171 (upd (M.1 171) p (M.1 171 q))) 172 (upd (M.1 172) p (M.1 172 q))) 173 (blk (12 * p) 0 (sh (12 * q) (M.1 173)) (M.1 173))) 174 (blk (12 * p) 0 (sh (12 * q) (M.1 174)) (M.1 174))) 175 (blk (12 * p) 0 (sh (12 * q) (M.1 175)) (M.1 175))) 176 (blk (12 * p) 0 (sh (12 * q) (M.1 176)) (M.1 176))) (by simp only [blk_0]; exact Eq.symm ((sI_sf rfl).trans ((sI_sf rfl).trans ((sI_sf rfl).trans (sI_sf rfl))))) ?_
  have loop : ∀ (k i : Nat) , i + k = 12 → Rn G l mX12_copies (2, 0, 0, false) 50 [some (.ref 149), some (.int (nI p)), some (.int (nI q)), some (.int (nI i))] [] ly (sI (sI (sI (sI (sI (sI (sI (sI M 169 (upd (M.1 169) p (M.1 169 q))) 170 (upd (M.1 170) p (M.1 170 q))) 171 (upd (M.1 171) p (M.1 171 q))) 172 (upd (M.1 172) p (M.1 172 q))) 173 (blk (12 * p) i (sh (12 * q) (M.1 173)) (M.1 173))) 174 (blk (12 * p) i (sh (12 * q) (M.1 174)) (M.1 174))) 175 (blk (12 * p) i (sh (12 * q) (M.1 175)) (M.1 175))) 176 (blk (12 * p) i (sh (12 * q) (M.1 176)) (M.1 176))) Q := by
    intro k
    induction k with
    | zero =>
      intro i  hi 
      refine Rn.iload_n dX12_copies_50 rfl ?_
      refine Rn.bipushv (v := 12) dX12_copies_51 bp_12 ?_
      refine Rn.icmp_ge dX12_copies_53 (fun hc => ?_) (fun hc => ?_)
      · skip
        have hi : i = 12 := by omega
        subst hi
        refine Rn.iconstv (v := 0) dX12_copies_150 ic_0 ?_
        refine Rn.istore_n (lv' := [some (.ref 149), some (.int (nI p)), some (.int (nI q)), some (.int 0)]) dX12_copies_151 (by decide) rfl ?_
        refine Rn.meq (M2 := sI (sI (sI (sI (sI (sI (sI (sI (sI (sI (sI M 169 (upd (M.1 169) p (M.1 169 q))) 170 (upd (M.1 170) p (M.1 170 q))) 171 (upd (M.1 171) p (M.1 171 q))) 172 (upd (M.1 172) p (M.1 172 q))) 173 (blk (12 * p) 12 (sh (12 * q) (M.1 173)) (M.1 173))) 174 (blk (12 * p) 12 (sh (12 * q) (M.1 174)) (M.1 174))) 175 (blk (12 * p) 12 (sh (12 * q) (M.1 175)) (M.1 175))) 176 (blk (12 * p) 12 (sh (12 * q) (M.1 176)) (M.1 176))) 177 (blk (6 * p) 0 (sh (6 * q) (M.1 177)) (M.1 177))) 178 (blk (6 * p) 0 (sh (6 * q) (M.1 178)) (M.1 178))) 179 (blk (6 * p) 0 (sh (6 * q) (M.1 179)) (M.1 179))) (by simp only [blk_0]; exact Eq.symm ((sI_sf rfl).trans ((sI_sf rfl).trans (sI_sf rfl)))) ?_
        have loop2 : ∀ (k i : Nat) , i + k = 6 → Rn G l mX12_copies (2, 0, 0, false) 152 [some (.ref 149), some (.int (nI p)), some (.int (nI q)), some (.int (nI i))] [] ly (sI (sI (sI (sI (sI (sI (sI (sI (sI (sI (sI M 169 (upd (M.1 169) p (M.1 169 q))) 170 (upd (M.1 170) p (M.1 170 q))) 171 (upd (M.1 171) p (M.1 171 q))) 172 (upd (M.1 172) p (M.1 172 q))) 173 (blk (12 * p) 12 (sh (12 * q) (M.1 173)) (M.1 173))) 174 (blk (12 * p) 12 (sh (12 * q) (M.1 174)) (M.1 174))) 175 (blk (12 * p) 12 (sh (12 * q) (M.1 175)) (M.1 175))) 176 (blk (12 * p) 12 (sh (12 * q) (M.1 176)) (M.1 176))) 177 (blk (6 * p) i (sh (6 * q) (M.1 177)) (M.1 177))) 178 (blk (6 * p) i (sh (6 * q) (M.1 178)) (M.1 178))) 179 (blk (6 * p) i (sh (6 * q) (M.1 179)) (M.1 179))) Q := by
          intro k
          induction k with
          | zero =>
            intro i  hi 
            refine Rn.iload_n dX12_copies_152 rfl ?_
            refine Rn.bipushv (v := 6) dX12_copies_153 bp_6 ?_
            refine Rn.icmp_ge dX12_copies_155 (fun hc => ?_) (fun hc => ?_)
            · skip
              have hi : i = 6 := by omega
              subst hi
              refine Rn.aload_n dX12_copies_230 rfl ?_
              refine Rn.iload_n dX12_copies_231 rfl ?_
              refine Rn.iload_n dX12_copies_232 rfl ?_
              refine Rn.callV2 dX12_copies_233 vX12_343 (rc149 hR) (by decide) rfl (tX12_copiesFat (M := sI (sI (sI (sI (sI (sI (sI (sI (sI (sI (sI M 169 (upd (M.1 169) p (M.1 169 q))) 170 (upd (M.1 170) p (M.1 170 q))) 171 (upd (M.1 171) p (M.1 171 q))) 172 (upd (M.1 172) p (M.1 172 q))) 173 (blk (12 * p) 12 (sh (12 * q) (M.1 173)) (M.1 173))) 174 (blk (12 * p) 12 (sh (12 * q) (M.1 174)) (M.1 174))) 175 (blk (12 * p) 12 (sh (12 * q) (M.1 175)) (M.1 175))) 176 (blk (12 * p) 12 (sh (12 * q) (M.1 176)) (M.1 176))) 177 (blk (6 * p) 6 (sh (6 * q) (M.1 177)) (M.1 177))) 178 (blk (6 * p) 6 (sh (6 * q) (M.1 178)) (M.1 178))) 179 (blk (6 * p) 6 (sh (6 * q) (M.1 179)) (M.1 179))) (Q := fun v0 ly0 K => v0 = none ∧ ly0 = ly ∧ cfR (sI (sI (sI (sI (sI (sI (sI (sI (sI (sI (sI M 169 (upd (M.1 169) p (M.1 169 q))) 170 (upd (M.1 170) p (M.1 170 q))) 171 (upd (M.1 171) p (M.1 171 q))) 172 (upd (M.1 172) p (M.1 172 q))) 173 (blk (12 * p) 12 (sh (12 * q) (M.1 173)) (M.1 173))) 174 (blk (12 * p) 12 (sh (12 * q) (M.1 174)) (M.1 174))) 175 (blk (12 * p) 12 (sh (12 * q) (M.1 175)) (M.1 175))) 176 (blk (12 * p) 12 (sh (12 * q) (M.1 176)) (M.1 176))) 177 (blk (6 * p) 6 (sh (6 * q) (M.1 177)) (M.1 177))) 178 (blk (6 * p) 6 (sh (6 * q) (M.1 178)) (M.1 178))) 179 (blk (6 * p) 6 (sh (6 * q) (M.1 179)) (M.1 179))) K p q nf) hp hq hpq hnf hnf12 hR (fun K h => ⟨rfl, rfl, h⟩)) (by decide) ⟨(Nat.le_of_ble_eq_true rfl), (Nat.le_of_ble_eq_true rfl), (Nat.le_of_ble_eq_true rfl)⟩ (fun h => by cases h) (fun v1 ly1 K ⟨q1, q2, h1, h2, h3, h4, h5⟩ => ?_)
              rw [q1, q2]
              refine Rn.vret dX12_copies_236 rfl (hQ K ⟨h1, fun a ha => ?_, fun a ha => ?_, fun a ha => ?_, fun a ha => ?_, h3, fun a ha => ?_⟩)
              · rw [h2 a (by omega) (by omega) (by omega)]
                refine (sI_ne (by omega)).trans ((sI_ne (by omega)).trans ((sI_ne (by omega)).trans ((sI_ne (by omega)).trans ((sI_ne (by omega)).trans ((sI_ne (by omega)).trans ((sI_ne (by omega)).trans ((sI_ne (by omega)).trans ((sI_ne (by omega)).trans ((sI_ne (by omega)).trans (sI_ne (by omega)))))))))))
              · rcases (show a = 169 ∨ a = 170 ∨ a = 171 ∨ a = 172 by omega) with rfl | rfl | rfl | rfl <;> exact h2 _ (by decide) (by decide) (by decide)
              · rcases (show a = 173 ∨ a = 174 ∨ a = 175 ∨ a = 176 by omega) with rfl | rfl | rfl | rfl <;> exact h2 _ (by decide) (by decide) (by decide)
              · rcases (show a = 177 ∨ a = 178 ∨ a = 179 by omega) with rfl | rfl | rfl <;> exact h2 _ (by decide) (by decide) (by decide)
              · rcases (show a = 181 ∨ a = 182 by omega) with rfl | rfl
                · exact h4
                · exact h5
            · exact absurd (nI_le (a := 6) (b := i) (by omega) (by omega)) hc
          | succ k ih =>
            intro i  hi 
            refine Rn.iload_n dX12_copies_152 rfl ?_
            refine Rn.bipushv (v := 6) dX12_copies_153 bp_6 ?_
            refine Rn.icmp_ge dX12_copies_155 (fun hc => ?_) (fun hc => ?_)
            · exact absurd hc (nI_ge (a := i) (b := 6) (by omega) (by omega))
            · skip
              refine Rn.aload_n dX12_copies_158 rfl ?_
              refine Rn.getR dX12_copies_159 fX12_98 rfl (rc149 hR) (show M.2.2 149 43 = some 177 from (rpt43 hR)) ?_
              refine Rn.bipushv (v := 6) dX12_copies_162 bp_6 ?_
              refine Rn.iload_n dX12_copies_164 rfl ?_
              refine Rn.imul dX12_copies_165 ?_
              refine Rn.topI (y := nI (6 * p)) (nI_mul 6 p) ?_
              refine Rn.iload_n dX12_copies_166 rfl ?_
              refine Rn.iadd dX12_copies_167 ?_
              refine Rn.topI (y := nI (6 * p + i)) (nI_add (6 * p) i) ?_
              refine Rn.aload_n dX12_copies_168 rfl ?_
              refine Rn.getR dX12_copies_169 fX12_98 rfl (rc149 hR) (show M.2.2 149 43 = some 177 from (rpt43 hR)) ?_
              refine Rn.bipushv (v := 6) dX12_copies_172 bp_6 ?_
              refine Rn.iload_n dX12_copies_174 rfl ?_
              refine Rn.imul dX12_copies_175 ?_
              refine Rn.topI (y := nI (6 * q)) (nI_mul 6 q) ?_
              refine Rn.iload_n dX12_copies_176 rfl ?_
              refine Rn.iadd dX12_copies_177 ?_
              refine Rn.topI (y := nI (6 * q + i)) (nI_add (6 * q) i) ?_
              refine Rn.ialdN (k0 := (6 * q + i)) dX12_copies_178 (rc177 hR) (by omega) (by decide) ?_
              refine Rn.topI (y := sh (6 * q) (M.1 177) i) (show blk (6 * p) i (sh (6 * q) (M.1 177)) (M.1 177) (6 * q + i) = sh (6 * q) (M.1 177) i from blk_out (by omega)) ?_
              refine Rn.iastN (k0 := (6 * p + i)) dX12_copies_179 (rc177 hR) (by omega) (by decide) ?_
              refine Rn.meq (M2 := sI (sI (sI (sI (sI (sI (sI (sI (sI (sI (sI M 169 (upd (M.1 169) p (M.1 169 q))) 170 (upd (M.1 170) p (M.1 170 q))) 171 (upd (M.1 171) p (M.1 171 q))) 172 (upd (M.1 172) p (M.1 172 q))) 173 (blk (12 * p) 12 (sh (12 * q) (M.1 173)) (M.1 173))) 174 (blk (12 * p) 12 (sh (12 * q) (M.1 174)) (M.1 174))) 175 (blk (12 * p) 12 (sh (12 * q) (M.1 175)) (M.1 175))) 176 (blk (12 * p) 12 (sh (12 * q) (M.1 176)) (M.1 176))) 177 (upd (blk (6 * p) i (sh (6 * q) (M.1 177)) (M.1 177)) (6 * p + i) (sh (6 * q) (M.1 177) i))) 178 (blk (6 * p) i (sh (6 * q) (M.1 178)) (M.1 178))) 179 (blk (6 * p) i (sh (6 * q) (M.1 179)) (M.1 179))) ((sI_comm (show 179 ≠ 177 by decide)).trans (congrArg (fun m9 => sI m9 179 (blk (6 * p) i (sh (6 * q) (M.1 179)) (M.1 179))) ((sI_comm (show 178 ≠ 177 by decide)).trans (congrArg (fun m9 => sI m9 178 (blk (6 * p) i (sh (6 * q) (M.1 178)) (M.1 178))) (sI_sI _ _ _ _))))) ?_
              refine Rn.meq (M2 := sI (sI (sI (sI (sI (sI (sI (sI (sI (sI (sI M 169 (upd (M.1 169) p (M.1 169 q))) 170 (upd (M.1 170) p (M.1 170 q))) 171 (upd (M.1 171) p (M.1 171 q))) 172 (upd (M.1 172) p (M.1 172 q))) 173 (blk (12 * p) 12 (sh (12 * q) (M.1 173)) (M.1 173))) 174 (blk (12 * p) 12 (sh (12 * q) (M.1 174)) (M.1 174))) 175 (blk (12 * p) 12 (sh (12 * q) (M.1 175)) (M.1 175))) 176 (blk (12 * p) 12 (sh (12 * q) (M.1 176)) (M.1 176))) 177 (blk (6 * p) (i + 1) (sh (6 * q) (M.1 177)) (M.1 177))) 178 (blk (6 * p) i (sh (6 * q) (M.1 178)) (M.1 178))) 179 (blk (6 * p) i (sh (6 * q) (M.1 179)) (M.1 179))) (congrArg (fun m9 => sI m9 179 (blk (6 * p) i (sh (6 * q) (M.1 179)) (M.1 179))) (congrArg (fun m9 => sI m9 178 (blk (6 * p) i (sh (6 * q) (M.1 178)) (M.1 178))) (congrArg (fun r9 => sI (sI (sI (sI (sI (sI (sI (sI (sI M 169 (upd (M.1 169) p (M.1 169 q))) 170 (upd (M.1 170) p (M.1 170 q))) 171 (upd (M.1 171) p (M.1 171 q))) 172 (upd (M.1 172) p (M.1 172 q))) 173 (blk (12 * p) 12 (sh (12 * q) (M.1 173)) (M.1 173))) 174 (blk (12 * p) 12 (sh (12 * q) (M.1 174)) (M.1 174))) 175 (blk (12 * p) 12 (sh (12 * q) (M.1 175)) (M.1 175))) 176 (blk (12 * p) 12 (sh (12 * q) (M.1 176)) (M.1 176))) 177 r9) (blk_up (6 * p) i (sh (6 * q) (M.1 177)) (M.1 177))))) ?_
              refine Rn.aload_n dX12_copies_180 rfl ?_
              refine Rn.getR dX12_copies_181 fX12_101 rfl (rc149 hR) (show M.2.2 149 44 = some 178 from (rpt44 hR)) ?_
              refine Rn.bipushv (v := 6) dX12_copies_184 bp_6 ?_
              refine Rn.iload_n dX12_copies_186 rfl ?_
              refine Rn.imul dX12_copies_187 ?_
              refine Rn.topI (y := nI (6 * p)) (nI_mul 6 p) ?_
              refine Rn.iload_n dX12_copies_188 rfl ?_
              refine Rn.iadd dX12_copies_189 ?_
              refine Rn.topI (y := nI (6 * p + i)) (nI_add (6 * p) i) ?_
              refine Rn.aload_n dX12_copies_190 rfl ?_
              refine Rn.getR dX12_copies_191 fX12_101 rfl (rc149 hR) (show M.2.2 149 44 = some 178 from (rpt44 hR)) ?_
              refine Rn.bipushv (v := 6) dX12_copies_194 bp_6 ?_
              refine Rn.iload_n dX12_copies_196 rfl ?_
              refine Rn.imul dX12_copies_197 ?_
              refine Rn.topI (y := nI (6 * q)) (nI_mul 6 q) ?_
              refine Rn.iload_n dX12_copies_198 rfl ?_
              refine Rn.iadd dX12_copies_199 ?_
              refine Rn.topI (y := nI (6 * q + i)) (nI_add (6 * q) i) ?_
              refine Rn.ialdN (k0 := (6 * q + i)) dX12_copies_200 (rc178 hR) (by omega) (by decide) ?_
              refine Rn.topI (y := sh (6 * q) (M.1 178) i) (show blk (6 * p) i (sh (6 * q) (M.1 178)) (M.1 178) (6 * q + i) = sh (6 * q) (M.1 178) i from blk_out (by omega)) ?_
              refine Rn.iastN (k0 := (6 * p + i)) dX12_copies_201 (rc178 hR) (by omega) (by decide) ?_
              refine Rn.meq (M2 := sI (sI (sI (sI (sI (sI (sI (sI (sI (sI (sI M 169 (upd (M.1 169) p (M.1 169 q))) 170 (upd (M.1 170) p (M.1 170 q))) 171 (upd (M.1 171) p (M.1 171 q))) 172 (upd (M.1 172) p (M.1 172 q))) 173 (blk (12 * p) 12 (sh (12 * q) (M.1 173)) (M.1 173))) 174 (blk (12 * p) 12 (sh (12 * q) (M.1 174)) (M.1 174))) 175 (blk (12 * p) 12 (sh (12 * q) (M.1 175)) (M.1 175))) 176 (blk (12 * p) 12 (sh (12 * q) (M.1 176)) (M.1 176))) 177 (blk (6 * p) (i + 1) (sh (6 * q) (M.1 177)) (M.1 177))) 178 (upd (blk (6 * p) i (sh (6 * q) (M.1 178)) (M.1 178)) (6 * p + i) (sh (6 * q) (M.1 178) i))) 179 (blk (6 * p) i (sh (6 * q) (M.1 179)) (M.1 179))) ((sI_comm (show 179 ≠ 178 by decide)).trans (congrArg (fun m9 => sI m9 179 (blk (6 * p) i (sh (6 * q) (M.1 179)) (M.1 179))) (sI_sI _ _ _ _))) ?_
              refine Rn.meq (M2 := sI (sI (sI (sI (sI (sI (sI (sI (sI (sI (sI M 169 (upd (M.1 169) p (M.1 169 q))) 170 (upd (M.1 170) p (M.1 170 q))) 171 (upd (M.1 171) p (M.1 171 q))) 172 (upd (M.1 172) p (M.1 172 q))) 173 (blk (12 * p) 12 (sh (12 * q) (M.1 173)) (M.1 173))) 174 (blk (12 * p) 12 (sh (12 * q) (M.1 174)) (M.1 174))) 175 (blk (12 * p) 12 (sh (12 * q) (M.1 175)) (M.1 175))) 176 (blk (12 * p) 12 (sh (12 * q) (M.1 176)) (M.1 176))) 177 (blk (6 * p) (i + 1) (sh (6 * q) (M.1 177)) (M.1 177))) 178 (blk (6 * p) (i + 1) (sh (6 * q) (M.1 178)) (M.1 178))) 179 (blk (6 * p) i (sh (6 * q) (M.1 179)) (M.1 179))) (congrArg (fun m9 => sI m9 179 (blk (6 * p) i (sh (6 * q) (M.1 179)) (M.1 179))) (congrArg (fun r9 => sI (sI (sI (sI (sI (sI (sI (sI (sI (sI M 169 (upd (M.1 169) p (M.1 169 q))) 170 (upd (M.1 170) p (M.1 170 q))) 171 (upd (M.1 171) p (M.1 171 q))) 172 (upd (M.1 172) p (M.1 172 q))) 173 (blk (12 * p) 12 (sh (12 * q) (M.1 173)) (M.1 173))) 174 (blk (12 * p) 12 (sh (12 * q) (M.1 174)) (M.1 174))) 175 (blk (12 * p) 12 (sh (12 * q) (M.1 175)) (M.1 175))) 176 (blk (12 * p) 12 (sh (12 * q) (M.1 176)) (M.1 176))) 177 (blk (6 * p) (i + 1) (sh (6 * q) (M.1 177)) (M.1 177))) 178 r9) (blk_up (6 * p) i (sh (6 * q) (M.1 178)) (M.1 178)))) ?_
              refine Rn.aload_n dX12_copies_202 rfl ?_
              refine Rn.getR dX12_copies_203 fX12_104 rfl (rc149 hR) (show M.2.2 149 45 = some 179 from (rpt45 hR)) ?_
              refine Rn.bipushv (v := 6) dX12_copies_206 bp_6 ?_
              refine Rn.iload_n dX12_copies_208 rfl ?_
              refine Rn.imul dX12_copies_209 ?_
              refine Rn.topI (y := nI (6 * p)) (nI_mul 6 p) ?_
              refine Rn.iload_n dX12_copies_210 rfl ?_
              refine Rn.iadd dX12_copies_211 ?_
              refine Rn.topI (y := nI (6 * p + i)) (nI_add (6 * p) i) ?_
              refine Rn.aload_n dX12_copies_212 rfl ?_
              refine Rn.getR dX12_copies_213 fX12_104 rfl (rc149 hR) (show M.2.2 149 45 = some 179 from (rpt45 hR)) ?_
              refine Rn.bipushv (v := 6) dX12_copies_216 bp_6 ?_
              refine Rn.iload_n dX12_copies_218 rfl ?_
              refine Rn.imul dX12_copies_219 ?_
              refine Rn.topI (y := nI (6 * q)) (nI_mul 6 q) ?_
              refine Rn.iload_n dX12_copies_220 rfl ?_
              refine Rn.iadd dX12_copies_221 ?_
              refine Rn.topI (y := nI (6 * q + i)) (nI_add (6 * q) i) ?_
              refine Rn.ialdN (k0 := (6 * q + i)) dX12_copies_222 (rc179 hR) (by omega) (by decide) ?_
              refine Rn.topI (y := sh (6 * q) (M.1 179) i) (show blk (6 * p) i (sh (6 * q) (M.1 179)) (M.1 179) (6 * q + i) = sh (6 * q) (M.1 179) i from blk_out (by omega)) ?_
              refine Rn.iastN (k0 := (6 * p + i)) dX12_copies_223 (rc179 hR) (by omega) (by decide) ?_
              refine Rn.meq (M2 := sI (sI (sI (sI (sI (sI (sI (sI (sI (sI (sI M 169 (upd (M.1 169) p (M.1 169 q))) 170 (upd (M.1 170) p (M.1 170 q))) 171 (upd (M.1 171) p (M.1 171 q))) 172 (upd (M.1 172) p (M.1 172 q))) 173 (blk (12 * p) 12 (sh (12 * q) (M.1 173)) (M.1 173))) 174 (blk (12 * p) 12 (sh (12 * q) (M.1 174)) (M.1 174))) 175 (blk (12 * p) 12 (sh (12 * q) (M.1 175)) (M.1 175))) 176 (blk (12 * p) 12 (sh (12 * q) (M.1 176)) (M.1 176))) 177 (blk (6 * p) (i + 1) (sh (6 * q) (M.1 177)) (M.1 177))) 178 (blk (6 * p) (i + 1) (sh (6 * q) (M.1 178)) (M.1 178))) 179 (upd (blk (6 * p) i (sh (6 * q) (M.1 179)) (M.1 179)) (6 * p + i) (sh (6 * q) (M.1 179) i))) (sI_sI _ _ _ _) ?_
              refine Rn.meq (M2 := sI (sI (sI (sI (sI (sI (sI (sI (sI (sI (sI M 169 (upd (M.1 169) p (M.1 169 q))) 170 (upd (M.1 170) p (M.1 170 q))) 171 (upd (M.1 171) p (M.1 171 q))) 172 (upd (M.1 172) p (M.1 172 q))) 173 (blk (12 * p) 12 (sh (12 * q) (M.1 173)) (M.1 173))) 174 (blk (12 * p) 12 (sh (12 * q) (M.1 174)) (M.1 174))) 175 (blk (12 * p) 12 (sh (12 * q) (M.1 175)) (M.1 175))) 176 (blk (12 * p) 12 (sh (12 * q) (M.1 176)) (M.1 176))) 177 (blk (6 * p) (i + 1) (sh (6 * q) (M.1 177)) (M.1 177))) 178 (blk (6 * p) (i + 1) (sh (6 * q) (M.1 178)) (M.1 178))) 179 (blk (6 * p) (i + 1) (sh (6 * q) (M.1 179)) (M.1 179))) (congrArg (fun r9 => sI (sI (sI (sI (sI (sI (sI (sI (sI (sI (sI M 169 (upd (M.1 169) p (M.1 169 q))) 170 (upd (M.1 170) p (M.1 170 q))) 171 (upd (M.1 171) p (M.1 171 q))) 172 (upd (M.1 172) p (M.1 172 q))) 173 (blk (12 * p) 12 (sh (12 * q) (M.1 173)) (M.1 173))) 174 (blk (12 * p) 12 (sh (12 * q) (M.1 174)) (M.1 174))) 175 (blk (12 * p) 12 (sh (12 * q) (M.1 175)) (M.1 175))) 176 (blk (12 * p) 12 (sh (12 * q) (M.1 176)) (M.1 176))) 177 (blk (6 * p) (i + 1) (sh (6 * q) (M.1 177)) (M.1 177))) 178 (blk (6 * p) (i + 1) (sh (6 * q) (M.1 178)) (M.1 178))) 179 r9) (blk_up (6 * p) i (sh (6 * q) (M.1 179)) (M.1 179))) ?_
              refine Rn.iincN (lv' := [some (.ref 149), some (.int (nI p)), some (.int (nI q)), some (.int (nI (i + 1)))]) dX12_copies_224 rfl (by decide) rfl ?_
              refine Rn.goto dX12_copies_227 ?_
              exact ih (i + 1) (by omega)
        exact loop2 6 0 (by omega)
      · exact absurd (nI_le (a := 12) (b := i) (by omega) (by omega)) hc
    | succ k ih =>
      intro i  hi 
      refine Rn.iload_n dX12_copies_50 rfl ?_
      refine Rn.bipushv (v := 12) dX12_copies_51 bp_12 ?_
      refine Rn.icmp_ge dX12_copies_53 (fun hc => ?_) (fun hc => ?_)
      · exact absurd hc (nI_ge (a := i) (b := 12) (by omega) (by omega))
      · skip
        refine Rn.aload_n dX12_copies_56 rfl ?_
        refine Rn.getR dX12_copies_57 fX12_86 rfl (rc149 hR) (show M.2.2 149 39 = some 173 from (rpt39 hR)) ?_
        refine Rn.bipushv (v := 12) dX12_copies_60 bp_12 ?_
        refine Rn.iload_n dX12_copies_62 rfl ?_
        refine Rn.imul dX12_copies_63 ?_
        refine Rn.topI (y := nI (12 * p)) (nI_mul 12 p) ?_
        refine Rn.iload_n dX12_copies_64 rfl ?_
        refine Rn.iadd dX12_copies_65 ?_
        refine Rn.topI (y := nI (12 * p + i)) (nI_add (12 * p) i) ?_
        refine Rn.aload_n dX12_copies_66 rfl ?_
        refine Rn.getR dX12_copies_67 fX12_86 rfl (rc149 hR) (show M.2.2 149 39 = some 173 from (rpt39 hR)) ?_
        refine Rn.bipushv (v := 12) dX12_copies_70 bp_12 ?_
        refine Rn.iload_n dX12_copies_72 rfl ?_
        refine Rn.imul dX12_copies_73 ?_
        refine Rn.topI (y := nI (12 * q)) (nI_mul 12 q) ?_
        refine Rn.iload_n dX12_copies_74 rfl ?_
        refine Rn.iadd dX12_copies_75 ?_
        refine Rn.topI (y := nI (12 * q + i)) (nI_add (12 * q) i) ?_
        refine Rn.ialdN (k0 := (12 * q + i)) dX12_copies_76 (rc173 hR) (by omega) (by decide) ?_
        refine Rn.topI (y := sh (12 * q) (M.1 173) i) (show blk (12 * p) i (sh (12 * q) (M.1 173)) (M.1 173) (12 * q + i) = sh (12 * q) (M.1 173) i from blk_out (by omega)) ?_
        refine Rn.iastN (k0 := (12 * p + i)) dX12_copies_77 (rc173 hR) (by omega) (by decide) ?_
        refine Rn.meq (M2 := sI (sI (sI (sI (sI (sI (sI (sI M 169 (upd (M.1 169) p (M.1 169 q))) 170 (upd (M.1 170) p (M.1 170 q))) 171 (upd (M.1 171) p (M.1 171 q))) 172 (upd (M.1 172) p (M.1 172 q))) 173 (upd (blk (12 * p) i (sh (12 * q) (M.1 173)) (M.1 173)) (12 * p + i) (sh (12 * q) (M.1 173) i))) 174 (blk (12 * p) i (sh (12 * q) (M.1 174)) (M.1 174))) 175 (blk (12 * p) i (sh (12 * q) (M.1 175)) (M.1 175))) 176 (blk (12 * p) i (sh (12 * q) (M.1 176)) (M.1 176))) ((sI_comm (show 176 ≠ 173 by decide)).trans (congrArg (fun m9 => sI m9 176 (blk (12 * p) i (sh (12 * q) (M.1 176)) (M.1 176))) ((sI_comm (show 175 ≠ 173 by decide)).trans (congrArg (fun m9 => sI m9 175 (blk (12 * p) i (sh (12 * q) (M.1 175)) (M.1 175))) ((sI_comm (show 174 ≠ 173 by decide)).trans (congrArg (fun m9 => sI m9 174 (blk (12 * p) i (sh (12 * q) (M.1 174)) (M.1 174))) (sI_sI _ _ _ _))))))) ?_
        refine Rn.meq (M2 := sI (sI (sI (sI (sI (sI (sI (sI M 169 (upd (M.1 169) p (M.1 169 q))) 170 (upd (M.1 170) p (M.1 170 q))) 171 (upd (M.1 171) p (M.1 171 q))) 172 (upd (M.1 172) p (M.1 172 q))) 173 (blk (12 * p) (i + 1) (sh (12 * q) (M.1 173)) (M.1 173))) 174 (blk (12 * p) i (sh (12 * q) (M.1 174)) (M.1 174))) 175 (blk (12 * p) i (sh (12 * q) (M.1 175)) (M.1 175))) 176 (blk (12 * p) i (sh (12 * q) (M.1 176)) (M.1 176))) (congrArg (fun m9 => sI m9 176 (blk (12 * p) i (sh (12 * q) (M.1 176)) (M.1 176))) (congrArg (fun m9 => sI m9 175 (blk (12 * p) i (sh (12 * q) (M.1 175)) (M.1 175))) (congrArg (fun m9 => sI m9 174 (blk (12 * p) i (sh (12 * q) (M.1 174)) (M.1 174))) (congrArg (fun r9 => sI (sI (sI (sI (sI M 169 (upd (M.1 169) p (M.1 169 q))) 170 (upd (M.1 170) p (M.1 170 q))) 171 (upd (M.1 171) p (M.1 171 q))) 172 (upd (M.1 172) p (M.1 172 q))) 173 r9) (blk_up (12 * p) i (sh (12 * q) (M.1 173)) (M.1 173)))))) ?_
        refine Rn.aload_n dX12_copies_78 rfl ?_
        refine Rn.getR dX12_copies_79 fX12_89 rfl (rc149 hR) (show M.2.2 149 40 = some 174 from (rpt40 hR)) ?_
        refine Rn.bipushv (v := 12) dX12_copies_82 bp_12 ?_
        refine Rn.iload_n dX12_copies_84 rfl ?_
        refine Rn.imul dX12_copies_85 ?_
        refine Rn.topI (y := nI (12 * p)) (nI_mul 12 p) ?_
        refine Rn.iload_n dX12_copies_86 rfl ?_
        refine Rn.iadd dX12_copies_87 ?_
        refine Rn.topI (y := nI (12 * p + i)) (nI_add (12 * p) i) ?_
        refine Rn.aload_n dX12_copies_88 rfl ?_
        refine Rn.getR dX12_copies_89 fX12_89 rfl (rc149 hR) (show M.2.2 149 40 = some 174 from (rpt40 hR)) ?_
        refine Rn.bipushv (v := 12) dX12_copies_92 bp_12 ?_
        refine Rn.iload_n dX12_copies_94 rfl ?_
        refine Rn.imul dX12_copies_95 ?_
        refine Rn.topI (y := nI (12 * q)) (nI_mul 12 q) ?_
        refine Rn.iload_n dX12_copies_96 rfl ?_
        refine Rn.iadd dX12_copies_97 ?_
        refine Rn.topI (y := nI (12 * q + i)) (nI_add (12 * q) i) ?_
        refine Rn.ialdN (k0 := (12 * q + i)) dX12_copies_98 (rc174 hR) (by omega) (by decide) ?_
        refine Rn.topI (y := sh (12 * q) (M.1 174) i) (show blk (12 * p) i (sh (12 * q) (M.1 174)) (M.1 174) (12 * q + i) = sh (12 * q) (M.1 174) i from blk_out (by omega)) ?_
        refine Rn.iastN (k0 := (12 * p + i)) dX12_copies_99 (rc174 hR) (by omega) (by decide) ?_
        refine Rn.meq (M2 := sI (sI (sI (sI (sI (sI (sI (sI M 169 (upd (M.1 169) p (M.1 169 q))) 170 (upd (M.1 170) p (M.1 170 q))) 171 (upd (M.1 171) p (M.1 171 q))) 172 (upd (M.1 172) p (M.1 172 q))) 173 (blk (12 * p) (i + 1) (sh (12 * q) (M.1 173)) (M.1 173))) 174 (upd (blk (12 * p) i (sh (12 * q) (M.1 174)) (M.1 174)) (12 * p + i) (sh (12 * q) (M.1 174) i))) 175 (blk (12 * p) i (sh (12 * q) (M.1 175)) (M.1 175))) 176 (blk (12 * p) i (sh (12 * q) (M.1 176)) (M.1 176))) ((sI_comm (show 176 ≠ 174 by decide)).trans (congrArg (fun m9 => sI m9 176 (blk (12 * p) i (sh (12 * q) (M.1 176)) (M.1 176))) ((sI_comm (show 175 ≠ 174 by decide)).trans (congrArg (fun m9 => sI m9 175 (blk (12 * p) i (sh (12 * q) (M.1 175)) (M.1 175))) (sI_sI _ _ _ _))))) ?_
        refine Rn.meq (M2 := sI (sI (sI (sI (sI (sI (sI (sI M 169 (upd (M.1 169) p (M.1 169 q))) 170 (upd (M.1 170) p (M.1 170 q))) 171 (upd (M.1 171) p (M.1 171 q))) 172 (upd (M.1 172) p (M.1 172 q))) 173 (blk (12 * p) (i + 1) (sh (12 * q) (M.1 173)) (M.1 173))) 174 (blk (12 * p) (i + 1) (sh (12 * q) (M.1 174)) (M.1 174))) 175 (blk (12 * p) i (sh (12 * q) (M.1 175)) (M.1 175))) 176 (blk (12 * p) i (sh (12 * q) (M.1 176)) (M.1 176))) (congrArg (fun m9 => sI m9 176 (blk (12 * p) i (sh (12 * q) (M.1 176)) (M.1 176))) (congrArg (fun m9 => sI m9 175 (blk (12 * p) i (sh (12 * q) (M.1 175)) (M.1 175))) (congrArg (fun r9 => sI (sI (sI (sI (sI (sI M 169 (upd (M.1 169) p (M.1 169 q))) 170 (upd (M.1 170) p (M.1 170 q))) 171 (upd (M.1 171) p (M.1 171 q))) 172 (upd (M.1 172) p (M.1 172 q))) 173 (blk (12 * p) (i + 1) (sh (12 * q) (M.1 173)) (M.1 173))) 174 r9) (blk_up (12 * p) i (sh (12 * q) (M.1 174)) (M.1 174))))) ?_
        refine Rn.aload_n dX12_copies_100 rfl ?_
        refine Rn.getR dX12_copies_101 fX12_92 rfl (rc149 hR) (show M.2.2 149 41 = some 175 from (rpt41 hR)) ?_
        refine Rn.bipushv (v := 12) dX12_copies_104 bp_12 ?_
        refine Rn.iload_n dX12_copies_106 rfl ?_
        refine Rn.imul dX12_copies_107 ?_
        refine Rn.topI (y := nI (12 * p)) (nI_mul 12 p) ?_
        refine Rn.iload_n dX12_copies_108 rfl ?_
        refine Rn.iadd dX12_copies_109 ?_
        refine Rn.topI (y := nI (12 * p + i)) (nI_add (12 * p) i) ?_
        refine Rn.aload_n dX12_copies_110 rfl ?_
        refine Rn.getR dX12_copies_111 fX12_92 rfl (rc149 hR) (show M.2.2 149 41 = some 175 from (rpt41 hR)) ?_
        refine Rn.bipushv (v := 12) dX12_copies_114 bp_12 ?_
        refine Rn.iload_n dX12_copies_116 rfl ?_
        refine Rn.imul dX12_copies_117 ?_
        refine Rn.topI (y := nI (12 * q)) (nI_mul 12 q) ?_
        refine Rn.iload_n dX12_copies_118 rfl ?_
        refine Rn.iadd dX12_copies_119 ?_
        refine Rn.topI (y := nI (12 * q + i)) (nI_add (12 * q) i) ?_
        refine Rn.ialdN (k0 := (12 * q + i)) dX12_copies_120 (rc175 hR) (by omega) (by decide) ?_
        refine Rn.topI (y := sh (12 * q) (M.1 175) i) (show blk (12 * p) i (sh (12 * q) (M.1 175)) (M.1 175) (12 * q + i) = sh (12 * q) (M.1 175) i from blk_out (by omega)) ?_
        refine Rn.iastN (k0 := (12 * p + i)) dX12_copies_121 (rc175 hR) (by omega) (by decide) ?_
        refine Rn.meq (M2 := sI (sI (sI (sI (sI (sI (sI (sI M 169 (upd (M.1 169) p (M.1 169 q))) 170 (upd (M.1 170) p (M.1 170 q))) 171 (upd (M.1 171) p (M.1 171 q))) 172 (upd (M.1 172) p (M.1 172 q))) 173 (blk (12 * p) (i + 1) (sh (12 * q) (M.1 173)) (M.1 173))) 174 (blk (12 * p) (i + 1) (sh (12 * q) (M.1 174)) (M.1 174))) 175 (upd (blk (12 * p) i (sh (12 * q) (M.1 175)) (M.1 175)) (12 * p + i) (sh (12 * q) (M.1 175) i))) 176 (blk (12 * p) i (sh (12 * q) (M.1 176)) (M.1 176))) ((sI_comm (show 176 ≠ 175 by decide)).trans (congrArg (fun m9 => sI m9 176 (blk (12 * p) i (sh (12 * q) (M.1 176)) (M.1 176))) (sI_sI _ _ _ _))) ?_
        refine Rn.meq (M2 := sI (sI (sI (sI (sI (sI (sI (sI M 169 (upd (M.1 169) p (M.1 169 q))) 170 (upd (M.1 170) p (M.1 170 q))) 171 (upd (M.1 171) p (M.1 171 q))) 172 (upd (M.1 172) p (M.1 172 q))) 173 (blk (12 * p) (i + 1) (sh (12 * q) (M.1 173)) (M.1 173))) 174 (blk (12 * p) (i + 1) (sh (12 * q) (M.1 174)) (M.1 174))) 175 (blk (12 * p) (i + 1) (sh (12 * q) (M.1 175)) (M.1 175))) 176 (blk (12 * p) i (sh (12 * q) (M.1 176)) (M.1 176))) (congrArg (fun m9 => sI m9 176 (blk (12 * p) i (sh (12 * q) (M.1 176)) (M.1 176))) (congrArg (fun r9 => sI (sI (sI (sI (sI (sI (sI M 169 (upd (M.1 169) p (M.1 169 q))) 170 (upd (M.1 170) p (M.1 170 q))) 171 (upd (M.1 171) p (M.1 171 q))) 172 (upd (M.1 172) p (M.1 172 q))) 173 (blk (12 * p) (i + 1) (sh (12 * q) (M.1 173)) (M.1 173))) 174 (blk (12 * p) (i + 1) (sh (12 * q) (M.1 174)) (M.1 174))) 175 r9) (blk_up (12 * p) i (sh (12 * q) (M.1 175)) (M.1 175)))) ?_
        refine Rn.aload_n dX12_copies_122 rfl ?_
        refine Rn.getR dX12_copies_123 fX12_95 rfl (rc149 hR) (show M.2.2 149 42 = some 176 from (rpt42 hR)) ?_
        refine Rn.bipushv (v := 12) dX12_copies_126 bp_12 ?_
        refine Rn.iload_n dX12_copies_128 rfl ?_
        refine Rn.imul dX12_copies_129 ?_
        refine Rn.topI (y := nI (12 * p)) (nI_mul 12 p) ?_
        refine Rn.iload_n dX12_copies_130 rfl ?_
        refine Rn.iadd dX12_copies_131 ?_
        refine Rn.topI (y := nI (12 * p + i)) (nI_add (12 * p) i) ?_
        refine Rn.aload_n dX12_copies_132 rfl ?_
        refine Rn.getR dX12_copies_133 fX12_95 rfl (rc149 hR) (show M.2.2 149 42 = some 176 from (rpt42 hR)) ?_
        refine Rn.bipushv (v := 12) dX12_copies_136 bp_12 ?_
        refine Rn.iload_n dX12_copies_138 rfl ?_
        refine Rn.imul dX12_copies_139 ?_
        refine Rn.topI (y := nI (12 * q)) (nI_mul 12 q) ?_
        refine Rn.iload_n dX12_copies_140 rfl ?_
        refine Rn.iadd dX12_copies_141 ?_
        refine Rn.topI (y := nI (12 * q + i)) (nI_add (12 * q) i) ?_
        refine Rn.ialdN (k0 := (12 * q + i)) dX12_copies_142 (rc176 hR) (by omega) (by decide) ?_
        refine Rn.topI (y := sh (12 * q) (M.1 176) i) (show blk (12 * p) i (sh (12 * q) (M.1 176)) (M.1 176) (12 * q + i) = sh (12 * q) (M.1 176) i from blk_out (by omega)) ?_
        refine Rn.iastN (k0 := (12 * p + i)) dX12_copies_143 (rc176 hR) (by omega) (by decide) ?_
        refine Rn.meq (M2 := sI (sI (sI (sI (sI (sI (sI (sI M 169 (upd (M.1 169) p (M.1 169 q))) 170 (upd (M.1 170) p (M.1 170 q))) 171 (upd (M.1 171) p (M.1 171 q))) 172 (upd (M.1 172) p (M.1 172 q))) 173 (blk (12 * p) (i + 1) (sh (12 * q) (M.1 173)) (M.1 173))) 174 (blk (12 * p) (i + 1) (sh (12 * q) (M.1 174)) (M.1 174))) 175 (blk (12 * p) (i + 1) (sh (12 * q) (M.1 175)) (M.1 175))) 176 (upd (blk (12 * p) i (sh (12 * q) (M.1 176)) (M.1 176)) (12 * p + i) (sh (12 * q) (M.1 176) i))) (sI_sI _ _ _ _) ?_
        refine Rn.meq (M2 := sI (sI (sI (sI (sI (sI (sI (sI M 169 (upd (M.1 169) p (M.1 169 q))) 170 (upd (M.1 170) p (M.1 170 q))) 171 (upd (M.1 171) p (M.1 171 q))) 172 (upd (M.1 172) p (M.1 172 q))) 173 (blk (12 * p) (i + 1) (sh (12 * q) (M.1 173)) (M.1 173))) 174 (blk (12 * p) (i + 1) (sh (12 * q) (M.1 174)) (M.1 174))) 175 (blk (12 * p) (i + 1) (sh (12 * q) (M.1 175)) (M.1 175))) 176 (blk (12 * p) (i + 1) (sh (12 * q) (M.1 176)) (M.1 176))) (congrArg (fun r9 => sI (sI (sI (sI (sI (sI (sI (sI M 169 (upd (M.1 169) p (M.1 169 q))) 170 (upd (M.1 170) p (M.1 170 q))) 171 (upd (M.1 171) p (M.1 171 q))) 172 (upd (M.1 172) p (M.1 172 q))) 173 (blk (12 * p) (i + 1) (sh (12 * q) (M.1 173)) (M.1 173))) 174 (blk (12 * p) (i + 1) (sh (12 * q) (M.1 174)) (M.1 174))) 175 (blk (12 * p) (i + 1) (sh (12 * q) (M.1 175)) (M.1 175))) 176 r9) (blk_up (12 * p) i (sh (12 * q) (M.1 176)) (M.1 176))) ?_
        refine Rn.iincN (lv' := [some (.ref 149), some (.int (nI p)), some (.int (nI q)), some (.int (nI (i + 1)))]) dX12_copies_144 rfl (by decide) rfl ?_
        refine Rn.goto dX12_copies_147 ?_
        exact ih (i + 1) (by omega)
  exact loop 12 0 (by omega)
theorem tX12_copiesLog {G : Gx} {l : Launch} {ly : Ly} {M : Mm} {p q : Nat} (hp : p < 2) (hq : q < 2) (hpq : p ≠ q) (hR : RW ly M.2.2) {Q : Qt} (hQ : Q none ly (sI M 183 (blk (60 * p) 60 (sh (60 * q) (M.1 183)) (M.1 183)))) : Mt G l mX12_copiesLog (1, 0, 0, false) [.ref 149, .int (nI p), .int (nI q)] ly M Q := by
  refine Mt.of (lv := [some (.ref 149), some (.int (nI p)), some (.int (nI q)), none]) rfl ?_
  refine Rn.iconstv (v := 0) dX12_copiesLog_0 ic_0 ?_
  refine Rn.istore_n (lv' := [some (.ref 149), some (.int (nI p)), some (.int (nI q)), some (.int 0)]) dX12_copiesLog_1 (by decide) rfl ?_
  refine Rn.meq (M2 := sI M 183 (blk (60 * p) 0 (sh (60 * q) (M.1 183)) (M.1 183))) (by rw [blk_0, sI_self]) ?_
  have loop : ∀ (k i : Nat) , i + k = 60 → Rn G l mX12_copiesLog (1, 0, 0, false) 2 [some (.ref 149), some (.int (nI p)), some (.int (nI q)), some (.int (nI i))] [] ly (sI M 183 (blk (60 * p) i (sh (60 * q) (M.1 183)) (M.1 183))) Q := by
    intro k
    induction k with
    | zero =>
      intro i  hi 
      refine Rn.iload_n dX12_copiesLog_2 rfl ?_
      refine Rn.bipushv (v := 60) dX12_copiesLog_3 bp_60 ?_
      refine Rn.icmp_ge dX12_copiesLog_5 (fun hc => ?_) (fun hc => ?_)
      · skip
        have hi : i = 60 := by omega
        subst hi
        exact Rn.vret dX12_copiesLog_36 rfl hQ
      · exact absurd (nI_le (a := 60) (b := i) (by omega) (by omega)) hc
    | succ k ih =>
      intro i  hi 
      refine Rn.iload_n dX12_copiesLog_2 rfl ?_
      refine Rn.bipushv (v := 60) dX12_copiesLog_3 bp_60 ?_
      refine Rn.icmp_ge dX12_copiesLog_5 (fun hc => ?_) (fun hc => ?_)
      · exact absurd hc (nI_ge (a := i) (b := 60) (by omega) (by omega))
      · skip
        refine Rn.aload_n dX12_copiesLog_8 rfl ?_
        refine Rn.getR dX12_copiesLog_9 fX12_116 rfl (rc149 hR) (show M.2.2 149 49 = some 183 from (rpt49 hR)) ?_
        refine Rn.bipushv (v := 60) dX12_copiesLog_12 bp_60 ?_
        refine Rn.iload_n dX12_copiesLog_14 rfl ?_
        refine Rn.imul dX12_copiesLog_15 ?_
        refine Rn.topI (y := nI (60 * p)) (nI_mul 60 p) ?_
        refine Rn.iload_n dX12_copiesLog_16 rfl ?_
        refine Rn.iadd dX12_copiesLog_17 ?_
        refine Rn.topI (y := nI (60 * p + i)) (nI_add (60 * p) i) ?_
        refine Rn.aload_n dX12_copiesLog_18 rfl ?_
        refine Rn.getR dX12_copiesLog_19 fX12_116 rfl (rc149 hR) (show M.2.2 149 49 = some 183 from (rpt49 hR)) ?_
        refine Rn.bipushv (v := 60) dX12_copiesLog_22 bp_60 ?_
        refine Rn.iload_n dX12_copiesLog_24 rfl ?_
        refine Rn.imul dX12_copiesLog_25 ?_
        refine Rn.topI (y := nI (60 * q)) (nI_mul 60 q) ?_
        refine Rn.iload_n dX12_copiesLog_26 rfl ?_
        refine Rn.iadd dX12_copiesLog_27 ?_
        refine Rn.topI (y := nI (60 * q + i)) (nI_add (60 * q) i) ?_
        refine Rn.ialdN (k0 := (60 * q + i)) dX12_copiesLog_28 (rc183 hR) (by omega) (by decide) ?_
        refine Rn.topI (y := sh (60 * q) (M.1 183) i) (show blk (60 * p) i (sh (60 * q) (M.1 183)) (M.1 183) (60 * q + i) = sh (60 * q) (M.1 183) i from blk_out (by omega)) ?_
        refine Rn.iastN (k0 := (60 * p + i)) dX12_copiesLog_29 (rc183 hR) (by omega) (by decide) ?_
        refine Rn.meq (M2 := sI M 183 (upd (blk (60 * p) i (sh (60 * q) (M.1 183)) (M.1 183)) (60 * p + i) (sh (60 * q) (M.1 183) i))) (sI_sI _ _ _ _) ?_
        refine Rn.meq (M2 := sI M 183 (blk (60 * p) (i + 1) (sh (60 * q) (M.1 183)) (M.1 183))) (congrArg (fun r9 => sI M 183 r9) (blk_up (60 * p) i (sh (60 * q) (M.1 183)) (M.1 183))) ?_
        refine Rn.iincN (lv' := [some (.ref 149), some (.int (nI p)), some (.int (nI q)), some (.int (nI (i + 1)))]) dX12_copiesLog_30 rfl (by decide) rfl ?_
        refine Rn.goto dX12_copiesLog_33 ?_
        exact ih (i + 1) (by omega)
  exact loop 60 0 (by omega)
