def iScene (ly : Ly) (M : Mm) (a : Nat) : Prop := ly[a]? = some (.inr 9) ∧ ly[a + 1]? = some (.inr 10) ∧ ly[a + 2]? = some (.inl (0, 12)) ∧ ly[a + 3]? = some (.inl (0, 12)) ∧ ly[a + 4]? = some (.inl (0, 12)) ∧ ly[a + 5]? = some (.inr 10) ∧ ly[a + 6]? = some (.inl (0, 12)) ∧ ly[a + 7]? = some (.inl (0, 12)) ∧ ly[a + 8]? = some (.inl (0, 12)) ∧ ly[a + 9]? = some (.inl (0, 6)) ∧ ly[a + 10]? = some (.inl (0, 6)) ∧ ly[a + 11]? = some (.inl (0, 6)) ∧ ly[a + 12]? = some (.inr 2) ∧ ly[a + 13]? = some (.inl (0, 8)) ∧ ly[a + 14]? = some (.inl (0, 8)) ∧ ly[a + 15]? = some (.inl (0, 12)) ∧ ly[a + 16]? = some (.inl (0, 6)) ∧ M.2.2 a 5 = some (a + 1) ∧ M.2.2 a 6 = some (a + 5) ∧ M.2.2 a 8 = some (a + 9) ∧ M.2.2 a 9 = some (a + 10) ∧ M.2.2 a 10 = some (a + 11) ∧ M.2.2 a 11 = some (a + 12) ∧ M.2.2 a 12 = some (a + 15) ∧ M.2.2 a 13 = some (a + 16) ∧ M.2.2 (a + 1) 0 = some (a + 2) ∧ M.2.2 (a + 1) 1 = some (a + 3) ∧ M.2.2 (a + 1) 2 = some (a + 4) ∧ M.2.2 (a + 5) 0 = some (a + 6) ∧ M.2.2 (a + 5) 1 = some (a + 7) ∧ M.2.2 (a + 5) 2 = some (a + 8) ∧ M.2.2 (a + 12) 1 = some (a + 13) ∧ M.2.2 (a + 12) 2 = some (a + 14)
def frc (v : Int64) (wo : Int32) : Int32 := if v = erL then wo else (mxL (-99) (mnL 99 v)).toInt32
def nmv (a b c d e f : Int32) : Nat → Int32 := fun j => if j = 0 then a else if j = 1 then b else if j = 2 then c else if j = 3 then d else if j = 4 then e else f
theorem tX9_force {G : Gx} {l : Launch} {ly : Ly} {M : Mm} {v : Int64} {wo : Int32} : Mt G l mX9_force (1, 0, 0, false) [.long v, .int wo] ly M (Is (some (.int (frc v wo))) ly M) := by
  refine Mt.is (fun Q hQ => ?_)
  refine Mt.of (lv := [some (.long v), none, some (.int wo)]) rfl ?_
  refine Rn.lload_n dX9_force_0 rfl ?_
  refine Rn.ldc2 dX9_force_1 kX9_209 ?_
  refine Rn.lcmp dX9_force_4 ?_
  refine Rn.if_ne dX9_force_5 (fun h5 => ?_) (fun h5 => ?_)
  · rw [lg_cmp_eq] at h5
    refine Rn.ldc2 dX9_force_10 kX9_211 ?_
    refine Rn.ldc2 dX9_force_13 kX9_213 ?_
    refine Rn.lload_n dX9_force_16 rfl ?_
    refine Rn.mminL dX9_force_17 jX9_215 jw_mminL ⟨(Nat.le_of_ble_eq_true rfl), (Nat.le_of_ble_eq_true rfl)⟩ ?_
    refine Rn.mmaxL dX9_force_20 jX9_218 jw_mmaxL ⟨(Nat.le_of_ble_eq_true rfl), (Nat.le_of_ble_eq_true rfl)⟩ ?_
    refine Rn.l2i dX9_force_23 ?_
    have hv : frc v wo = Int64.toInt32 (mxL (-99) (mnL 99 v)) := if_neg h5
    rw [hv] at hQ
    exact Rn.iret (ty := .int) dX9_force_24 rfl rfl hQ
  · rw [lg_cmp_eq] at h5
    refine Rn.iload_n dX9_force_8 rfl ?_
    have hv : frc v wo = wo := if_pos h5
    rw [hv] at hQ
    exact Rn.iret (ty := .int) dX9_force_9 rfl rfl hQ
theorem tX9_nameValues {G : Gx} {l : Launch} {ly : Ly} {M : Mm} {a c : Nat} {x z : Int32} (hS : iScene ly M a) (hc : c < 12) : Mt G l mX9_nameValues (1, 0, 0, false) [.ref a, .int x, .int (nI c), .int z] ly M (Is none ly (sI M (a + 16) (upd (upd (upd (upd (upd (upd (M.1 (a + 16)) 0 x) 1 (M.1 a 14)) 2 (nI c)) 3 (M.1 (a + 2) c)) 4 z) 5 (M.1 a 4)))) := by
  obtain ⟨s0, s1, s2, s3, s4, s5, s6, s7, s8, s9, s10, s11, s12, s13, s14, s15, s16, e0_5, e0_6, e0_8, e0_9, e0_10, e0_11, e0_12, e0_13, e1_0, e1_1, e1_2, e5_0, e5_1, e5_2, e12_1, e12_2⟩ := hS
  refine Mt.is (fun Q hQ => ?_)
  refine Mt.of (lv := [some (.ref a), some (.int x), some (.int (nI c)), some (.int z)]) rfl ?_
  refine Rn.aload_n dX9_nameValues_0 rfl ?_
  refine Rn.getR dX9_nameValues_1 fX9_41 rfl s0 e0_13 ?_
  refine Rn.iconstv (v := 0) dX9_nameValues_4 ic_0 ?_
  refine Rn.iload_n dX9_nameValues_5 rfl ?_
  refine Rn.iast dX9_nameValues_6 s16 (by unfold vp_in; decide) ?_
  refine Rn.aload_n dX9_nameValues_7 rfl ?_
  refine Rn.getR dX9_nameValues_8 fX9_41 rfl s0 e0_13 ?_
  refine Rn.iconstv (v := 1) dX9_nameValues_11 ic_1 ?_
  refine Rn.aload_n dX9_nameValues_12 rfl ?_
  refine Rn.getI dX9_nameValues_13 fX9_107 rfl s0 ?_
  refine Rn.topI (y := M.1 a 14) ((congrFun (sI_ne (show a ≠ a + 16 by omega)) 14)) ?_
  refine Rn.iast dX9_nameValues_16 s16 (by unfold vp_in; decide) ?_
  refine Rn.meq (M2 := sI M (a + 16) (upd (upd (M.1 (a + 16)) 0 x) 1 (M.1 a 14))) ((congrArg (fun r9 => sI (sI M (a + 16) (upd (M.1 (a + 16)) 0 x)) (a + 16) (upd r9 1 (M.1 a 14))) (sI_at _ _ _)).trans (sI_sI _ _ _ _)) ?_
  refine Rn.aload_n dX9_nameValues_17 rfl ?_
  refine Rn.getR dX9_nameValues_18 fX9_41 rfl s0 e0_13 ?_
  refine Rn.iconstv (v := 2) dX9_nameValues_21 ic_2 ?_
  refine Rn.iload_n dX9_nameValues_22 rfl ?_
  refine Rn.iast dX9_nameValues_23 s16 (by unfold vp_in; decide) ?_
  refine Rn.meq (M2 := sI M (a + 16) (upd (upd (upd (M.1 (a + 16)) 0 x) 1 (M.1 a 14)) 2 (nI c))) ((congrArg (fun r9 => sI (sI M (a + 16) (upd (upd (M.1 (a + 16)) 0 x) 1 (M.1 a 14))) (a + 16) (upd r9 2 (nI c))) (sI_at _ _ _)).trans (sI_sI _ _ _ _)) ?_
  refine Rn.aload_n dX9_nameValues_24 rfl ?_
  refine Rn.getR dX9_nameValues_25 fX9_41 rfl s0 e0_13 ?_
  refine Rn.iconstv (v := 3) dX9_nameValues_28 ic_3 ?_
  refine Rn.aload_n dX9_nameValues_29 rfl ?_
  refine Rn.getR dX9_nameValues_30 fX9_12 rfl s0 e0_5 ?_
  refine Rn.getR dX9_nameValues_33 fX9_220 rfl s1 e1_0 ?_
  refine Rn.iload_n dX9_nameValues_36 rfl ?_
  refine Rn.ialdN (k0 := c) dX9_nameValues_37 s2 (by omega) (by decide) ?_
  refine Rn.topI (y := M.1 (a + 2) c) ((congrFun (sI_ne (show a + 2 ≠ a + 16 by omega)) c)) ?_
  refine Rn.iast dX9_nameValues_38 s16 (by unfold vp_in; decide) ?_
  refine Rn.meq (M2 := sI M (a + 16) (upd (upd (upd (upd (M.1 (a + 16)) 0 x) 1 (M.1 a 14)) 2 (nI c)) 3 (M.1 (a + 2) c))) ((congrArg (fun r9 => sI (sI M (a + 16) (upd (upd (upd (M.1 (a + 16)) 0 x) 1 (M.1 a 14)) 2 (nI c))) (a + 16) (upd r9 3 (M.1 (a + 2) c))) (sI_at _ _ _)).trans (sI_sI _ _ _ _)) ?_
  refine Rn.aload_n dX9_nameValues_39 rfl ?_
  refine Rn.getR dX9_nameValues_40 fX9_41 rfl s0 e0_13 ?_
  refine Rn.iconstv (v := 4) dX9_nameValues_43 ic_4 ?_
  refine Rn.iload_n dX9_nameValues_44 rfl ?_
  refine Rn.iast dX9_nameValues_45 s16 (by unfold vp_in; decide) ?_
  refine Rn.meq (M2 := sI M (a + 16) (upd (upd (upd (upd (upd (M.1 (a + 16)) 0 x) 1 (M.1 a 14)) 2 (nI c)) 3 (M.1 (a + 2) c)) 4 z)) ((congrArg (fun r9 => sI (sI M (a + 16) (upd (upd (upd (upd (M.1 (a + 16)) 0 x) 1 (M.1 a 14)) 2 (nI c)) 3 (M.1 (a + 2) c))) (a + 16) (upd r9 4 z)) (sI_at _ _ _)).trans (sI_sI _ _ _ _)) ?_
  refine Rn.aload_n dX9_nameValues_46 rfl ?_
  refine Rn.getR dX9_nameValues_47 fX9_41 rfl s0 e0_13 ?_
  refine Rn.iconstv (v := 5) dX9_nameValues_50 ic_5 ?_
  refine Rn.aload_n dX9_nameValues_51 rfl ?_
  refine Rn.getI dX9_nameValues_52 fX9_72 rfl s0 ?_
  refine Rn.topI (y := M.1 a 4) ((congrFun (sI_ne (show a ≠ a + 16 by omega)) 4)) ?_
  refine Rn.iast dX9_nameValues_55 s16 (by unfold vp_in; decide) ?_
  refine Rn.meq (M2 := sI M (a + 16) (upd (upd (upd (upd (upd (upd (M.1 (a + 16)) 0 x) 1 (M.1 a 14)) 2 (nI c)) 3 (M.1 (a + 2) c)) 4 z) 5 (M.1 a 4))) ((congrArg (fun r9 => sI (sI M (a + 16) (upd (upd (upd (upd (upd (M.1 (a + 16)) 0 x) 1 (M.1 a 14)) 2 (nI c)) 3 (M.1 (a + 2) c)) 4 z)) (a + 16) (upd r9 5 (M.1 a 4))) (sI_at _ _ _)).trans (sI_sI _ _ _ _)) ?_
  exact Rn.vret dX9_nameValues_56 rfl hQ
/-- who is not in the set is gone -/
def lvO (s : Int32) (g : Nat → Int32) : Nat → Nat → Int32
  | 0 => g
  | i + 1 => if (s >>> (nI i &&& 31)) &&& 1 = 0 then upd (lvO s g i) i 2 else lvO s g i
theorem tX9_leaveOnly {G : Gx} {l : Launch} {ly : Ly} {M : Mm} {a : Nat} {s : Int32} (hS : iScene ly M a) : Mt G l mX9_leaveOnly (1, 0, 0, false) [.ref a, .int s] ly M (Is none ly (sI M (a + 11) (lvO s (M.1 (a + 11)) 6))) := by
  obtain ⟨s0, s1, s2, s3, s4, s5, s6, s7, s8, s9, s10, s11, s12, s13, s14, s15, s16, e0_5, e0_6, e0_8, e0_9, e0_10, e0_11, e0_12, e0_13, e1_0, e1_1, e1_2, e5_0, e5_1, e5_2, e12_1, e12_2⟩ := hS
  refine Mt.is (fun Q hQ => ?_)
  refine Mt.of (lv := [some (.ref a), some (.int s), none]) rfl ?_
  refine Rn.iconstv (v := 0) dX9_leaveOnly_0 ic_0 ?_
  refine Rn.istore_n (lv' := [some (.ref a), some (.int s), some (.int 0)]) dX9_leaveOnly_1 (by decide) rfl ?_
  have loop : ∀ (k i : Nat) , i + k = 6 → Rn G l mX9_leaveOnly (1, 0, 0, false) 2 [some (.ref a), some (.int s), some (.int (nI i))] [] ly (sI M (a + 11) (lvO s (M.1 (a + 11)) i)) Q := by
    intro k
    induction k with
    | zero =>
      intro i  hi 
      refine Rn.iload_n dX9_leaveOnly_2 rfl ?_
      refine Rn.bipushv (v := 6) dX9_leaveOnly_3 bp_6 ?_
      refine Rn.icmp_ge dX9_leaveOnly_5 (fun hc => ?_) (fun hc => ?_)
      · skip
        have hi : i = 6 := by omega
        subst hi
        exact Rn.vret dX9_leaveOnly_29 rfl hQ
      · exact absurd (nI_le (a := 6) (b := i) (by omega) (by omega)) hc
    | succ k ih =>
      intro i  hi 
      refine Rn.iload_n dX9_leaveOnly_2 rfl ?_
      refine Rn.bipushv (v := 6) dX9_leaveOnly_3 bp_6 ?_
      refine Rn.icmp_ge dX9_leaveOnly_5 (fun hc => ?_) (fun hc => ?_)
      · exact absurd hc (nI_ge (a := i) (b := 6) (by omega) (by omega))
      · skip
        refine Rn.iload_n dX9_leaveOnly_8 rfl ?_
        refine Rn.iload_n dX9_leaveOnly_9 rfl ?_
        refine Rn.ishr dX9_leaveOnly_10 ?_
        refine Rn.iconstv (v := 1) dX9_leaveOnly_11 ic_1 ?_
        refine Rn.iand dX9_leaveOnly_12 ?_
        refine Rn.if_ne dX9_leaveOnly_13 (fun hb => ?_) (fun hb => ?_)
        · skip
          refine Rn.meq (M2 := sI M (a + 11) (lvO s (M.1 (a + 11)) (i + 1))) (congrArg (fun r9 => sI M (a + 11) r9) ((if_neg hb).symm)) ?_
          refine Rn.iincN (lv' := [some (.ref a), some (.int s), some (.int (nI (i + 1)))]) dX9_leaveOnly_23 rfl (by decide) rfl ?_
          refine Rn.goto dX9_leaveOnly_26 ?_
          exact ih (i + 1) (by omega)
        · skip
          refine Rn.aload_n dX9_leaveOnly_16 rfl ?_
          refine Rn.getR dX9_leaveOnly_17 fX9_28 rfl s0 e0_10 ?_
          refine Rn.iload_n dX9_leaveOnly_20 rfl ?_
          refine Rn.iconstv (v := 2) dX9_leaveOnly_21 ic_2 ?_
          refine Rn.iastN (k0 := i) dX9_leaveOnly_22 s11 (by omega) (by decide) ?_
          refine Rn.meq (M2 := sI M (a + 11) (upd (lvO s (M.1 (a + 11)) i) i 2)) ((congrArg (fun r9 => sI (sI M (a + 11) (lvO s (M.1 (a + 11)) i)) (a + 11) (upd r9 i 2)) (sI_at _ _ _)).trans (sI_sI _ _ _ _)) ?_
          refine Rn.meq (M2 := sI M (a + 11) (lvO s (M.1 (a + 11)) (i + 1))) (congrArg (fun r9 => sI M (a + 11) r9) ((if_pos hb).symm)) ?_
          refine Rn.iincN (lv' := [some (.ref a), some (.int s), some (.int (nI (i + 1)))]) dX9_leaveOnly_23 rfl (by decide) rfl ?_
          refine Rn.goto dX9_leaveOnly_26 ?_
          exact ih (i + 1) (by omega)
  refine Rn.meq (M2 := sI M (a + 11) (lvO s (M.1 (a + 11)) 0)) (sI_self M (a + 11)).symm ?_
  exact loop 6 0 (by omega)
/-- the planks lost then -/
def lsP (ou : Nat → Int32) (h : Int32) (l0 : Int32) : Nat → Int32
  | 0 => l0
  | i + 1 => if h < ab (ou i) then lsP ou h l0 i ||| ((1 : Int32) <<< (nI i &&& 31)) else lsP ou h l0 i
theorem tX9_losePlanks {G : Gx} {l : Launch} {ly : Ly} {M : Mm} {a p n : Nat} (hS : iScene ly M a) (h0 : M.2.2 a 0 = some p) (hp : ly[p]? = some (.inr 7)) (hpa : p < a ∨ a + 16 < p) (hn : M.1 p 0 = nI n) (hn12 : n ≤ 12) : Mt G l mX9_losePlanks (1, 0, 0, false) [.ref a] ly M (Is none ly (sI M a (upd (M.1 a) 7 (lsP (M.1 (a + 2)) (M.1 p 5) (M.1 a 7) n)))) := by
  obtain ⟨s0, s1, s2, s3, s4, s5, s6, s7, s8, s9, s10, s11, s12, s13, s14, s15, s16, e0_5, e0_6, e0_8, e0_9, e0_10, e0_11, e0_12, e0_13, e1_0, e1_1, e1_2, e5_0, e5_1, e5_2, e12_1, e12_2⟩ := hS
  refine Mt.is (fun Q hQ => ?_)
  refine Mt.of (lv := [some (.ref a), none]) rfl ?_
  refine Rn.iconstv (v := 0) dX9_losePlanks_0 ic_0 ?_
  refine Rn.istore_n (lv' := [some (.ref a), some (.int 0)]) dX9_losePlanks_1 (by decide) rfl ?_
  have loop : ∀ (k i : Nat) , i + k = n → Rn G l mX9_losePlanks (1, 0, 0, false) 2 [some (.ref a), some (.int (nI i))] [] ly (sI M a (upd (M.1 a) 7 (lsP (M.1 (a + 2)) (M.1 p 5) (M.1 a 7) i))) Q := by
    intro k
    induction k with
    | zero =>
      intro i  hi 
      refine Rn.iload_n dX9_losePlanks_2 rfl ?_
      refine Rn.aload_n dX9_losePlanks_3 rfl ?_
      refine Rn.getR dX9_losePlanks_4 fX9_48 rfl s0 h0 ?_
      refine Rn.getI dX9_losePlanks_7 fX9_144 rfl hp ?_
      refine Rn.topI (y := M.1 p 0) ((congrFun (sI_ne (show p ≠ a by omega)) 0)) ?_
      refine Rn.topI (y := nI n) (hn) ?_
      refine Rn.icmp_ge dX9_losePlanks_10 (fun hc => ?_) (fun hc => ?_)
      · skip
        have hi : i = n := by omega
        subst hi
        exact Rn.vret dX9_losePlanks_53 rfl hQ
      · exact absurd (nI_le (a := n) (b := i) (by omega) (by omega)) hc
    | succ k ih =>
      intro i  hi 
      refine Rn.iload_n dX9_losePlanks_2 rfl ?_
      refine Rn.aload_n dX9_losePlanks_3 rfl ?_
      refine Rn.getR dX9_losePlanks_4 fX9_48 rfl s0 h0 ?_
      refine Rn.getI dX9_losePlanks_7 fX9_144 rfl hp ?_
      refine Rn.topI (y := M.1 p 0) ((congrFun (sI_ne (show p ≠ a by omega)) 0)) ?_
      refine Rn.topI (y := nI n) (hn) ?_
      refine Rn.icmp_ge dX9_losePlanks_10 (fun hc => ?_) (fun hc => ?_)
      · exact absurd hc (nI_ge (a := i) (b := n) (by omega) (by omega))
      · skip
        refine Rn.aload_n dX9_losePlanks_13 rfl ?_
        refine Rn.getR dX9_losePlanks_14 fX9_12 rfl s0 e0_5 ?_
        refine Rn.getR dX9_losePlanks_17 fX9_220 rfl s1 e1_0 ?_
        refine Rn.iload_n dX9_losePlanks_20 rfl ?_
        refine Rn.ialdN (k0 := i) dX9_losePlanks_21 s2 (by omega) (by decide) ?_
        refine Rn.topI (y := M.1 (a + 2) i) ((congrFun (sI_ne (show a + 2 ≠ a by omega)) i)) ?_
        refine Rn.mabs dX9_losePlanks_22 jX9_230 jw_mabs ⟨(Nat.le_of_ble_eq_true rfl), (Nat.le_of_ble_eq_true rfl)⟩ ?_
        refine Rn.aload_n dX9_losePlanks_25 rfl ?_
        refine Rn.getR dX9_losePlanks_26 fX9_48 rfl s0 h0 ?_
        refine Rn.getI dX9_losePlanks_29 fX9_178 rfl hp ?_
        refine Rn.topI (y := M.1 p 5) ((congrFun (sI_ne (show p ≠ a by omega)) 5)) ?_
        refine Rn.icmp_le dX9_losePlanks_32 (fun hb => ?_) (fun hb => ?_)
        · skip
          refine Rn.meq (M2 := sI M a (upd (M.1 a) 7 (lsP (M.1 (a + 2)) (M.1 p 5) (M.1 a 7) (i + 1)))) (by rw [show lsP (M.1 (a + 2)) (M.1 p 5) (M.1 a 7) (i + 1) = lsP (M.1 (a + 2)) (M.1 p 5) (M.1 a 7) i from if_neg (Int32.not_lt.mpr hb)]) ?_
          refine Rn.iincN (lv' := [some (.ref a), some (.int (nI (i + 1)))]) dX9_losePlanks_47 rfl (by decide) rfl ?_
          refine Rn.goto dX9_losePlanks_50 ?_
          exact ih (i + 1) (by omega)
        · skip
          refine Rn.aload_n dX9_losePlanks_35 rfl ?_
          refine Rn.dup dX9_losePlanks_36 rfl ?_
          refine Rn.getI dX9_losePlanks_37 fX9_98 rfl s0 ?_
          refine Rn.topI (y := lsP (M.1 (a + 2)) (M.1 p 5) (M.1 a 7) i) ((congrFun (sI_at _ _ _) 7).trans (pk_us)) ?_
          refine Rn.iconstv (v := 1) dX9_losePlanks_40 ic_1 ?_
          refine Rn.iload_n dX9_losePlanks_41 rfl ?_
          refine Rn.ishl dX9_losePlanks_42 ?_
          refine Rn.ior dX9_losePlanks_43 ?_
          refine Rn.putI dX9_losePlanks_44 fX9_98 rfl rfl rfl s0 ?_
          refine Rn.meq (M2 := sI M a (upd (upd (M.1 a) 7 (lsP (M.1 (a + 2)) (M.1 p 5) (M.1 a 7) i)) 7 ((lsP (M.1 (a + 2)) (M.1 p 5) (M.1 a 7) i) ||| (1 <<< ((nI i) &&& 31))))) ((congrArg (fun r9 => sI (sI M a (upd (M.1 a) 7 (lsP (M.1 (a + 2)) (M.1 p 5) (M.1 a 7) i))) a (upd r9 7 ((lsP (M.1 (a + 2)) (M.1 p 5) (M.1 a 7) i) ||| (1 <<< ((nI i) &&& 31))))) (sI_at _ _ _)).trans (sI_sI _ _ _ _)) ?_
          refine Rn.meq (M2 := sI M a (upd (M.1 a) 7 (lsP (M.1 (a + 2)) (M.1 p 5) (M.1 a 7) (i + 1)))) (by rw [upd_upd, show lsP (M.1 (a + 2)) (M.1 p 5) (M.1 a 7) (i + 1) = lsP (M.1 (a + 2)) (M.1 p 5) (M.1 a 7) i ||| ((1 : Int32) <<< (nI i &&& 31)) from if_pos (Int32.not_le.mp hb)]) ?_
          refine Rn.iincN (lv' := [some (.ref a), some (.int (nI (i + 1)))]) dX9_losePlanks_47 rfl (by decide) rfl ?_
          refine Rn.goto dX9_losePlanks_50 ?_
          exact ih (i + 1) (by omega)
  refine Rn.meq (M2 := sI M a (upd (M.1 a) 7 (lsP (M.1 (a + 2)) (M.1 p 5) (M.1 a 7) 0))) (by rw [show lsP (M.1 (a + 2)) (M.1 p 5) (M.1 a 7) 0 = M.1 a 7 from rfl, upd_self, sI_self]) ?_
  exact loop n 0 (by omega)
def wkA (sg at_ : Nat → Int32) (x : Int32) : Nat → Int32
  | 0 => 0
  | i + 1 => wkA sg at_ x i + (if sg i = 1 then (if at_ i = x then 1 else 0) else 0)
theorem tX9_walkersAt {G : Gx} {l : Launch} {ly : Ly} {M : Mm} {a c n : Nat} {x : Int32} (hS : iScene ly M a) (h1 : M.2.2 a 1 = some c) (hc : ly[c]? = some (.inr 0)) (hn : M.1 c 0 = nI n) (hn6 : n ≤ 6) : Mt G l mX9_walkersAt (1, 0, 0, false) [.ref a, .int x] ly M (Is (some (.int (wkA (M.1 (a + 11)) (M.1 (a + 9)) x n))) ly M) := by
  obtain ⟨s0, s1, s2, s3, s4, s5, s6, s7, s8, s9, s10, s11, s12, s13, s14, s15, s16, e0_5, e0_6, e0_8, e0_9, e0_10, e0_11, e0_12, e0_13, e1_0, e1_1, e1_2, e5_0, e5_1, e5_2, e12_1, e12_2⟩ := hS
  refine Mt.is (fun Q hQ => ?_)
  refine Mt.of (lv := [some (.ref a), some (.int x), none, none]) rfl ?_
  refine Rn.iconstv (v := 0) dX9_walkersAt_0 ic_0 ?_
  refine Rn.istore_n (lv' := [some (.ref a), some (.int x), some (.int 0), none]) dX9_walkersAt_1 (by decide) rfl ?_
  refine Rn.iconstv (v := 0) dX9_walkersAt_2 ic_0 ?_
  refine Rn.istore_n (lv' := [some (.ref a), some (.int x), some (.int 0), some (.int 0)]) dX9_walkersAt_3 (by decide) rfl ?_
  have loop : ∀ (k i : Nat) , i + k = n → Rn G l mX9_walkersAt (1, 0, 0, false) 4 [some (.ref a), some (.int x), some (.int (wkA (M.1 (a + 11)) (M.1 (a + 9)) x i)), some (.int (nI i))] [] ly M Q := by
    intro k
    induction k with
    | zero =>
      intro i  hi 
      refine Rn.iload_n dX9_walkersAt_4 rfl ?_
      refine Rn.aload_n dX9_walkersAt_5 rfl ?_
      refine Rn.getR dX9_walkersAt_6 fX9_58 rfl s0 h1 ?_
      refine Rn.getI dX9_walkersAt_9 fX9_151 rfl hc ?_
      refine Rn.topI (y := nI n) (hn) ?_
      refine Rn.icmp_ge dX9_walkersAt_12 (fun hc => ?_) (fun hc => ?_)
      · skip
        have hi : i = n := by omega
        subst hi
        refine Rn.iload_n dX9_walkersAt_49 rfl ?_
        exact Rn.iret (ty := .int) dX9_walkersAt_50 rfl rfl hQ
      · exact absurd (nI_le (a := n) (b := i) (by omega) (by omega)) hc
    | succ k ih =>
      intro i  hi 
      refine Rn.iload_n dX9_walkersAt_4 rfl ?_
      refine Rn.aload_n dX9_walkersAt_5 rfl ?_
      refine Rn.getR dX9_walkersAt_6 fX9_58 rfl s0 h1 ?_
      refine Rn.getI dX9_walkersAt_9 fX9_151 rfl hc ?_
      refine Rn.topI (y := nI n) (hn) ?_
      refine Rn.icmp_ge dX9_walkersAt_12 (fun hc => ?_) (fun hc => ?_)
      · exact absurd hc (nI_ge (a := i) (b := n) (by omega) (by omega))
      · skip
        refine Rn.iload_n dX9_walkersAt_15 rfl ?_
        refine Rn.aload_n dX9_walkersAt_16 rfl ?_
        refine Rn.getR dX9_walkersAt_17 fX9_28 rfl s0 e0_10 ?_
        refine Rn.iload_n dX9_walkersAt_20 rfl ?_
        refine Rn.ialdN (k0 := i) dX9_walkersAt_21 s11 (by omega) (by decide) ?_
        refine Rn.iconstv (v := 1) dX9_walkersAt_22 ic_1 ?_
        have join : ∀ y : Int32, y = (if M.1 (a + 11) i = 1 then (if M.1 (a + 9) i = x then 1 else 0) else 0) → Rn G l mX9_walkersAt (1, 0, 0, false) 41 [some (.ref a), some (.int x), some (.int (wkA (M.1 (a + 11)) (M.1 (a + 9)) x i)), some (.int (nI i))] [.int y, .int (wkA (M.1 (a + 11)) (M.1 (a + 9)) x i)] ly M Q := by
          intro y hy
          refine Rn.iadd dX9_walkersAt_41 ?_
          refine Rn.topI (y := wkA (M.1 (a + 11)) (M.1 (a + 9)) x (i + 1)) (by rw [hy]; rfl) ?_
          refine Rn.istore_n (lv' := [some (.ref a), some (.int x), some (.int (wkA (M.1 (a + 11)) (M.1 (a + 9)) x (i + 1))), some (.int (nI i))]) dX9_walkersAt_42 (by decide) rfl ?_
          refine Rn.iincN (lv' := [some (.ref a), some (.int x), some (.int (wkA (M.1 (a + 11)) (M.1 (a + 9)) x (i + 1))), some (.int (nI (i + 1)))]) dX9_walkersAt_43 rfl (by decide) rfl ?_
          refine Rn.goto dX9_walkersAt_46 ?_
          exact ih (i + 1) (by omega)
        refine Rn.icmp_ne dX9_walkersAt_23 (fun g1 => ?_) (fun g1 => ?_)
        · skip
          refine Rn.iconstv (v := 0) dX9_walkersAt_40 ic_0 ?_
          exact join 0 (by rw [if_neg g1])
        · skip
          refine Rn.aload_n dX9_walkersAt_26 rfl ?_
          refine Rn.getR dX9_walkersAt_27 fX9_21 rfl s0 e0_8 ?_
          refine Rn.iload_n dX9_walkersAt_30 rfl ?_
          refine Rn.ialdN (k0 := i) dX9_walkersAt_31 s9 (by omega) (by decide) ?_
          refine Rn.iload_n dX9_walkersAt_32 rfl ?_
          refine Rn.icmp_ne dX9_walkersAt_33 (fun g2 => ?_) (fun g2 => ?_)
          · skip
            refine Rn.iconstv (v := 0) dX9_walkersAt_40 ic_0 ?_
            exact join 0 (by rw [if_pos g1, if_neg g2])
          · skip
            refine Rn.iconstv (v := 1) dX9_walkersAt_36 ic_1 ?_
            refine Rn.goto dX9_walkersAt_37 ?_
            exact join 1 (by rw [if_pos g1, if_pos g2])
  exact loop n 0 (by omega)
/-- the number that comes next -/
def nxt (c : Int32) : Int32 := ((c.toInt64 * 1103515245 + 12345) &&& 2147483647).toInt32
def nxts (c : Int32) : Nat → Int32
  | 0 => c
  | i + 1 => nxt (nxts c i)
/-- what a gale pushes by the number x -/
def gus (x g : Int32) : Int32 := x / 65536 - x / 65536 / (2 * g + 1) * (2 * g + 1) - g
theorem tX9_gust {G : Gx} {l : Launch} {ly : Ly} {M : Mm} {a p n : Nat} (hS : iScene ly M a) (h0 : M.2.2 a 0 = some p) (hp : ly[p]? = some (.inr 7)) (hpa : p < a ∨ a + 16 < p) (hn : M.1 p 0 = nI n) (hn12 : n ≤ 12) (hg : ¬ 2 * M.1 p 6 + 1 = 0) : Mt G l mX9_gust (1, 0, 0, false) [.ref a] ly M (Is none ly (sI (sI M a (upd (M.1 a) 15 (nxts (M.1 a 15) n))) (a + 8) (pre n (fun j => M.1 (a + 8) j + gus (nxts (M.1 a 15) (j + 1)) (M.1 p 6)) (M.1 (a + 8))))) := by
  obtain ⟨s0, s1, s2, s3, s4, s5, s6, s7, s8, s9, s10, s11, s12, s13, s14, s15, s16, e0_5, e0_6, e0_8, e0_9, e0_10, e0_11, e0_12, e0_13, e1_0, e1_1, e1_2, e5_0, e5_1, e5_2, e12_1, e12_2⟩ := hS
  refine Mt.is (fun Q hQ => ?_)
  refine Mt.of (lv := [some (.ref a), none]) rfl ?_
  refine Rn.iconstv (v := 0) dX9_gust_0 ic_0 ?_
  refine Rn.istore_n (lv' := [some (.ref a), some (.int 0)]) dX9_gust_1 (by decide) rfl ?_
  have loop : ∀ (k i : Nat) , i + k = n → Rn G l mX9_gust (1, 0, 0, false) 2 [some (.ref a), some (.int (nI i))] [] ly (sI (sI M a (upd (M.1 a) 15 (nxts (M.1 a 15) i))) (a + 8) (pre i (fun j => M.1 (a + 8) j + gus (nxts (M.1 a 15) (j + 1)) (M.1 p 6)) (M.1 (a + 8)))) Q := by
    intro k
    induction k with
    | zero =>
      intro i  hi 
      refine Rn.iload_n dX9_gust_2 rfl ?_
      refine Rn.aload_n dX9_gust_3 rfl ?_
      refine Rn.getR dX9_gust_4 fX9_48 rfl s0 h0 ?_
      refine Rn.getI dX9_gust_7 fX9_144 rfl hp ?_
      refine Rn.topI (y := M.1 p 0) ((congrFun ((sI_ne (show p ≠ a + 8 by omega)).trans (sI_ne (show p ≠ a by omega))) 0)) ?_
      refine Rn.topI (y := nI n) (hn) ?_
      refine Rn.icmp_ge dX9_gust_10 (fun hc => ?_) (fun hc => ?_)
      · skip
        have hi : i = n := by omega
        subst hi
        exact Rn.vret dX9_gust_80 rfl hQ
      · exact absurd (nI_le (a := n) (b := i) (by omega) (by omega)) hc
    | succ k ih =>
      intro i  hi 
      refine Rn.iload_n dX9_gust_2 rfl ?_
      refine Rn.aload_n dX9_gust_3 rfl ?_
      refine Rn.getR dX9_gust_4 fX9_48 rfl s0 h0 ?_
      refine Rn.getI dX9_gust_7 fX9_144 rfl hp ?_
      refine Rn.topI (y := M.1 p 0) ((congrFun ((sI_ne (show p ≠ a + 8 by omega)).trans (sI_ne (show p ≠ a by omega))) 0)) ?_
      refine Rn.topI (y := nI n) (hn) ?_
      refine Rn.icmp_ge dX9_gust_10 (fun hc => ?_) (fun hc => ?_)
      · exact absurd hc (nI_ge (a := i) (b := n) (by omega) (by omega))
      · skip
        refine Rn.aload_n dX9_gust_13 rfl ?_
        refine Rn.aload_n dX9_gust_14 rfl ?_
        refine Rn.getI dX9_gust_15 fX9_76 rfl s0 ?_
        refine Rn.topI (y := nxts (M.1 a 15) i) ((congrFun ((sI_ne (show a ≠ a + 8 by omega)).trans (sI_at _ _ _)) 15).trans (pk_us)) ?_
        refine Rn.i2l dX9_gust_18 ?_
        refine Rn.ldc2 dX9_gust_19 kX9_223 ?_
        refine Rn.lmul dX9_gust_22 ?_
        refine Rn.ldc2 dX9_gust_23 kX9_225 ?_
        refine Rn.ladd dX9_gust_26 ?_
        refine Rn.ldc2 dX9_gust_27 kX9_227 ?_
        refine Rn.land dX9_gust_30 ?_
        refine Rn.l2i dX9_gust_31 ?_
        refine Rn.topI (y := nxts (M.1 a 15) (i + 1)) (rfl) ?_
        refine Rn.putI dX9_gust_32 fX9_76 rfl rfl rfl s0 ?_
        refine Rn.meq (M2 := sI (sI M a (upd (upd (M.1 a) 15 (nxts (M.1 a 15) i)) 15 (nxts (M.1 a 15) (i + 1)))) (a + 8) (pre i (fun j => M.1 (a + 8) j + gus (nxts (M.1 a 15) (j + 1)) (M.1 p 6)) (M.1 (a + 8)))) ((congrArg (fun r9 => sI (sI (sI M a (upd (M.1 a) 15 (nxts (M.1 a 15) i))) (a + 8) (pre i (fun j => M.1 (a + 8) j + gus (nxts (M.1 a 15) (j + 1)) (M.1 p 6)) (M.1 (a + 8)))) a (upd r9 15 (nxts (M.1 a 15) (i + 1)))) ((sI_ne (show a ≠ a + 8 by omega)).trans (sI_at _ _ _))).trans ((sI_comm (show a + 8 ≠ a by omega)).trans (congrArg (fun m9 => sI m9 (a + 8) (pre i (fun j => M.1 (a + 8) j + gus (nxts (M.1 a 15) (j + 1)) (M.1 p 6)) (M.1 (a + 8)))) (sI_sI _ _ _ _)))) ?_
        refine Rn.meq (M2 := sI (sI M a (upd (M.1 a) 15 (nxts (M.1 a 15) (i + 1)))) (a + 8) (pre i (fun j => M.1 (a + 8) j + gus (nxts (M.1 a 15) (j + 1)) (M.1 p 6)) (M.1 (a + 8)))) (by rw [upd_upd]) ?_
        refine Rn.aload_n dX9_gust_35 rfl ?_
        refine Rn.getR dX9_gust_36 fX9_18 rfl s0 e0_6 ?_
        refine Rn.getR dX9_gust_39 fX9_197 rfl s5 e5_2 ?_
        refine Rn.iload_n dX9_gust_42 rfl ?_
        refine Rn.dup2 dX9_gust_43 rfl rfl ?_
        refine Rn.ialdN (k0 := i) dX9_gust_44 s8 (by omega) (by decide) ?_
        refine Rn.topI (y := pre i (fun j => M.1 (a + 8) j + gus (nxts (M.1 a 15) (j + 1)) (M.1 p 6)) (M.1 (a + 8)) i) ((congrFun (sI_at _ _ _) i)) ?_
        refine Rn.topI (y := M.1 (a + 8) i) (pre_ge (Nat.le_refl i)) ?_
        refine Rn.aload_n dX9_gust_45 rfl ?_
        refine Rn.getI dX9_gust_46 fX9_76 rfl s0 ?_
        refine Rn.topI (y := nxts (M.1 a 15) (i + 1)) ((congrFun ((sI_ne (show a ≠ a + 8 by omega)).trans (sI_at _ _ _)) 15).trans (pk_us)) ?_
        refine Rn.ldc dX9_gust_49 kX9_229 ?_
        refine Rn.idiv dX9_gust_51 (by decide) ?_
        refine Rn.iconstv (v := 2) dX9_gust_52 ic_2 ?_
        refine Rn.aload_n dX9_gust_53 rfl ?_
        refine Rn.getR dX9_gust_54 fX9_48 rfl s0 h0 ?_
        refine Rn.getI dX9_gust_57 fX9_162 rfl hp ?_
        refine Rn.topI (y := M.1 p 6) ((congrFun ((sI_ne (show p ≠ a + 8 by omega)).trans (sI_ne (show p ≠ a by omega))) 6)) ?_
        refine Rn.imul dX9_gust_60 ?_
        refine Rn.iconstv (v := 1) dX9_gust_61 ic_1 ?_
        refine Rn.iadd dX9_gust_62 ?_
        refine Rn.irem dX9_gust_63 hg ?_
        refine Rn.aload_n dX9_gust_64 rfl ?_
        refine Rn.getR dX9_gust_65 fX9_48 rfl s0 h0 ?_
        refine Rn.getI dX9_gust_68 fX9_162 rfl hp ?_
        refine Rn.topI (y := M.1 p 6) ((congrFun ((sI_ne (show p ≠ a + 8 by omega)).trans (sI_ne (show p ≠ a by omega))) 6)) ?_
        refine Rn.isub dX9_gust_71 ?_
        refine Rn.iadd dX9_gust_72 ?_
        refine Rn.topI (y := (fun j => M.1 (a + 8) j + gus (nxts (M.1 a 15) (j + 1)) (M.1 p 6)) i) (rfl) ?_
        refine Rn.iastN (k0 := i) dX9_gust_73 s8 (by omega) (by decide) ?_
        refine Rn.meq (M2 := sI (sI M a (upd (M.1 a) 15 (nxts (M.1 a 15) (i + 1)))) (a + 8) (upd (pre i (fun j => M.1 (a + 8) j + gus (nxts (M.1 a 15) (j + 1)) (M.1 p 6)) (M.1 (a + 8))) i ((fun j => M.1 (a + 8) j + gus (nxts (M.1 a 15) (j + 1)) (M.1 p 6)) i))) ((congrArg (fun r9 => sI (sI (sI M a (upd (M.1 a) 15 (nxts (M.1 a 15) (i + 1)))) (a + 8) (pre i (fun j => M.1 (a + 8) j + gus (nxts (M.1 a 15) (j + 1)) (M.1 p 6)) (M.1 (a + 8)))) (a + 8) (upd r9 i ((fun j => M.1 (a + 8) j + gus (nxts (M.1 a 15) (j + 1)) (M.1 p 6)) i))) (sI_at _ _ _)).trans (sI_sI _ _ _ _)) ?_
        refine Rn.meq (M2 := sI (sI M a (upd (M.1 a) 15 (nxts (M.1 a 15) (i + 1)))) (a + 8) (pre (i + 1) (fun j => M.1 (a + 8) j + gus (nxts (M.1 a 15) (j + 1)) (M.1 p 6)) (M.1 (a + 8)))) (congrArg (fun r9 => sI (sI M a (upd (M.1 a) 15 (nxts (M.1 a 15) (i + 1)))) (a + 8) r9) (pre_up i (fun j => M.1 (a + 8) j + gus (nxts (M.1 a 15) (j + 1)) (M.1 p 6)) (M.1 (a + 8)))) ?_
        refine Rn.iincN (lv' := [some (.ref a), some (.int (nI (i + 1)))]) dX9_gust_74 rfl (by decide) rfl ?_
        refine Rn.goto dX9_gust_77 ?_
        exact ih (i + 1) (by omega)
  refine Rn.meq (M2 := sI (sI M a (upd (M.1 a) 15 (nxts (M.1 a 15) 0))) (a + 8) (pre 0 (fun j => M.1 (a + 8) j + gus (nxts (M.1 a 15) (j + 1)) (M.1 p 6)) (M.1 (a + 8)))) (by rw [show nxts (M.1 a 15) 0 = M.1 a 15 from rfl, upd_self, sI_self, pre_0, sI_self]) ?_
  exact loop n 0 (by omega)
