def inR (x lo hi : Int32) : Int32 := if x < lo then 0 else if hi < x then 0 else 1
def inN (x n : Int32) : Int32 := if x < 0 then 0 else if n ≤ x then 0 else 1
theorem tX11_isIn {G : Gx} {l : Launch} {ly : Ly} {M : Mm} {x lo hi : Int32} : Mt G l mX11_isIn (1, 0, 0, false) [.int x, .int lo, .int hi] ly M (Is (some (.int (inR x lo hi))) ly M) := by
  refine Mt.is (fun Q hQ => ?_)
  refine Mt.of (lv := [some (.int x), some (.int lo), some (.int hi)]) rfl ?_
  refine Rn.iload_n dX11_isIn_0 rfl ?_
  refine Rn.iload_n dX11_isIn_1 rfl ?_
  refine Rn.icmp_lt dX11_isIn_2 (fun h2 => ?_) (fun h2 => ?_)
  · skip
    refine Rn.iconstv (v := 0) dX11_isIn_14 ic_0 ?_
    have hv : inR x lo hi = 0 := by first | (simp only [inR, h2, ↓reduceIte]; done) | (unfold inR; split <;> simp_all)
    rw [hv] at hQ
    exact Rn.iret (ty := .boolean) dX11_isIn_15 rfl rfl hQ
  · skip
    refine Rn.iload_n dX11_isIn_5 rfl ?_
    refine Rn.iload_n dX11_isIn_6 rfl ?_
    refine Rn.icmp_gt dX11_isIn_7 (fun h7 => ?_) (fun h7 => ?_)
    · skip
      refine Rn.iconstv (v := 0) dX11_isIn_14 ic_0 ?_
      have hv : inR x lo hi = 0 := by first | (simp only [inR, h2, h7, ↓reduceIte]; done) | (unfold inR; split <;> simp_all)
      rw [hv] at hQ
      exact Rn.iret (ty := .boolean) dX11_isIn_15 rfl rfl hQ
    · skip
      refine Rn.iconstv (v := 1) dX11_isIn_10 ic_1 ?_
      refine Rn.goto dX11_isIn_11 ?_
      have hv : inR x lo hi = 1 := by first | (simp only [inR, h2, h7, ↓reduceIte]; done) | (unfold inR; split <;> simp_all)
      rw [hv] at hQ
      exact Rn.iret (ty := .boolean) dX11_isIn_15 rfl rfl hQ
theorem inR_b {x lo hi : Int32} : narrow .boolean (.int (inR x lo hi)) = .int (inR x lo hi) := by unfold inR; split; rfl; split <;> rfl
theorem tX11_isCalm {G : Gx} {l : Launch} {ly : Ly} {M : Mm} {x : Int32} : Mt G l mX11_isCalm (2, 0, 0, false) [.int x] ly M (Is (some (.int (inR x 1 99))) ly M) := by
  refine Mt.is (fun Q hQ => ?_)
  refine Mt.of (lv := [some (.int x)]) rfl ?_
  refine Rn.iload_n dX11_isCalm_0 rfl ?_
  refine Rn.iconstv (v := 1) dX11_isCalm_1 ic_1 ?_
  refine Rn.bipushv (v := 99) dX11_isCalm_2 bp_99 ?_
  refine Rn.callS3 dX11_isCalm_4 vX11_295 (tX11_isIn) (by decide) ⟨(Nat.le_of_ble_eq_true rfl), (Nat.le_of_ble_eq_true rfl), (Nat.le_of_ble_eq_true rfl)⟩ (fun h => by cases h) (fun v1 ly1 M1 ⟨q1, q2, q3⟩ => ?_)
  rw [q1, q2, q3]
  exact Rn.iret (ty := .boolean) dX11_isCalm_7 rfl inR_b hQ
theorem tX11_isCell {G : Gx} {l : Launch} {ly : Ly} {M : Mm} {pl : Nat} {x : Int32} (hX : XW ly M.2.2) (hpl : M.2.2 0 3 = some pl) (hp7 : pl = 7 ∨ pl = 41) : Mt G l mX11_isCell (1, 0, 0, false) [.ref 0, .int x] ly M (Is (some (.int (inN x (M.1 pl 0)))) ly M) := by
  refine Mt.is (fun Q hQ => ?_)
  refine Mt.of (lv := [some (.ref 0), some (.int x)]) rfl ?_
  refine Rn.iload_n dX11_isCell_0 rfl ?_
  refine Rn.if_lt dX11_isCell_1 (fun h1 => ?_) (fun h1 => ?_)
  · skip
    refine Rn.iconstv (v := 0) dX11_isCell_19 ic_0 ?_
    have hv : inN x (M.1 pl 0) = 0 := by first | (simp only [inN, h1, ↓reduceIte]; done) | (unfold inN; split <;> simp_all)
    rw [hv] at hQ
    exact Rn.iret (ty := .boolean) dX11_isCell_20 rfl rfl hQ
  · skip
    refine Rn.iload_n dX11_isCell_4 rfl ?_
    refine Rn.aload_n dX11_isCell_5 rfl ?_
    refine Rn.getR dX11_isCell_6 fX11_27 rfl (xc0 hX) (show M.2.2 0 3 = some pl from hpl) ?_
    refine Rn.getI dX11_isCell_9 fX11_209 rfl (pc0 hX hp7) ?_
    refine Rn.icmp_ge dX11_isCell_12 (fun h12 => ?_) (fun h12 => ?_)
    · skip
      refine Rn.iconstv (v := 0) dX11_isCell_19 ic_0 ?_
      have hv : inN x (M.1 pl 0) = 0 := by first | (simp only [inN, h1, h12, ↓reduceIte]; done) | (unfold inN; split <;> simp_all)
      rw [hv] at hQ
      exact Rn.iret (ty := .boolean) dX11_isCell_20 rfl rfl hQ
    · skip
      refine Rn.iconstv (v := 1) dX11_isCell_15 ic_1 ?_
      refine Rn.goto dX11_isCell_16 ?_
      have hv : inN x (M.1 pl 0) = 1 := by first | (simp only [inN, h1, h12, ↓reduceIte]; done) | (unfold inN; split <;> simp_all)
      rw [hv] at hQ
      exact Rn.iret (ty := .boolean) dX11_isCell_20 rfl rfl hQ
theorem tX11_isWalker {G : Gx} {l : Launch} {ly : Ly} {M : Mm} {pl : Nat} {x : Int32} (hX : XW ly M.2.2) (hpl : M.2.2 0 3 = some pl) (hp7 : pl = 7 ∨ pl = 41) : Mt G l mX11_isWalker (1, 0, 0, false) [.ref 0, .int x] ly M (Is (some (.int (inN x (M.1 (pl + 1) 0)))) ly M) := by
  refine Mt.is (fun Q hQ => ?_)
  refine Mt.of (lv := [some (.ref 0), some (.int x)]) rfl ?_
  refine Rn.iload_n dX11_isWalker_0 rfl ?_
  refine Rn.if_lt dX11_isWalker_1 (fun h1 => ?_) (fun h1 => ?_)
  · skip
    refine Rn.iconstv (v := 0) dX11_isWalker_21 ic_0 ?_
    have hv : inN x (M.1 (pl + 1) 0) = 0 := by first | (simp only [inN, h1, ↓reduceIte]; done) | (unfold inN; split <;> simp_all)
    rw [hv] at hQ
    exact Rn.iret (ty := .boolean) dX11_isWalker_22 rfl rfl hQ
  · skip
    refine Rn.iload_n dX11_isWalker_4 rfl ?_
    refine Rn.aload_n dX11_isWalker_5 rfl ?_
    refine Rn.getR dX11_isWalker_6 fX11_27 rfl (xc0 hX) (show M.2.2 0 3 = some pl from hpl) ?_
    refine Rn.getR dX11_isWalker_9 fX11_212 rfl (pc0 hX hp7) (show M.2.2 pl 9 = some (pl + 1) from (pp0_9 hX hp7)) ?_
    refine Rn.iconstv (v := 0) dX11_isWalker_12 ic_0 ?_
    refine Rn.iald dX11_isWalker_13 (pc1 hX hp7) (by unfold vp_in; decide) ?_
    refine Rn.topI (y := M.1 (pl + 1) 0) (rfl) ?_
    refine Rn.icmp_ge dX11_isWalker_14 (fun h14 => ?_) (fun h14 => ?_)
    · skip
      refine Rn.iconstv (v := 0) dX11_isWalker_21 ic_0 ?_
      have hv : inN x (M.1 (pl + 1) 0) = 0 := by first | (simp only [inN, h1, h14, ↓reduceIte]; done) | (unfold inN; split <;> simp_all)
      rw [hv] at hQ
      exact Rn.iret (ty := .boolean) dX11_isWalker_22 rfl rfl hQ
    · skip
      refine Rn.iconstv (v := 1) dX11_isWalker_17 ic_1 ?_
      refine Rn.goto dX11_isWalker_18 ?_
      have hv : inN x (M.1 (pl + 1) 0) = 1 := by first | (simp only [inN, h1, h14, ↓reduceIte]; done) | (unfold inN; split <;> simp_all)
      rw [hv] at hQ
      exact Rn.iret (ty := .boolean) dX11_isWalker_22 rfl rfl hQ
def fltX (x f p : Int32) : Int32 := if x = 0 then f else if x = 1 then p else -1
theorem tX11_fault {G : Gx} {l : Launch} {ly : Ly} {M : Mm} {pl : Nat} {x : Int32} (hX : XW ly M.2.2) (hpl : M.2.2 0 3 = some pl) (hp7 : pl = 7 ∨ pl = 41) : Mt G l mX11_fault (1, 0, 0, false) [.ref 0, .int x] ly M (Is (some (.int (fltX x (M.1 2 0) (M.1 2 1)))) ly M) := by
  refine Mt.is (fun Q hQ => ?_)
  refine Mt.of (lv := [some (.ref 0), some (.int x)]) rfl ?_
  refine Rn.iload_n dX11_fault_0 rfl ?_
  refine Rn.if_ne dX11_fault_1 (fun h1 => ?_) (fun h1 => ?_)
  · skip
    refine Rn.iload_n dX11_fault_12 rfl ?_
    refine Rn.iconstv (v := 1) dX11_fault_13 ic_1 ?_
    refine Rn.icmp_ne dX11_fault_14 (fun h14 => ?_) (fun h14 => ?_)
    · skip
      refine Rn.iconstv (v := -1) dX11_fault_27 ic_m1 ?_
      have hv : fltX x (M.1 2 0) (M.1 2 1) = (-1) := by first | (simp only [fltX, h1, h14, ↓reduceIte]; done) | (unfold fltX; split <;> simp_all)
      rw [hv] at hQ
      exact Rn.iret (ty := .int) dX11_fault_28 rfl rfl hQ
    · skip
      refine Rn.aload_n dX11_fault_17 rfl ?_
      refine Rn.getR dX11_fault_18 fX11_20 rfl (xc0 hX) (show M.2.2 0 2 = some 2 from (xp0_2 hX)) ?_
      refine Rn.getI dX11_fault_21 fX11_118 rfl (xc2 hX) ?_
      refine Rn.goto dX11_fault_24 ?_
      have hv : fltX x (M.1 2 0) (M.1 2 1) = M.1 2 1 := by first | (simp only [fltX, h1, h14, ↓reduceIte]; done) | (unfold fltX; split <;> simp_all)
      rw [hv] at hQ
      exact Rn.iret (ty := .int) dX11_fault_28 rfl rfl hQ
  · skip
    refine Rn.aload_n dX11_fault_4 rfl ?_
    refine Rn.getR dX11_fault_5 fX11_20 rfl (xc0 hX) (show M.2.2 0 2 = some 2 from (xp0_2 hX)) ?_
    refine Rn.getI dX11_fault_8 fX11_115 rfl (xc2 hX) ?_
    have hv : fltX x (M.1 2 0) (M.1 2 1) = M.1 2 0 := by first | (simp only [fltX, h1, ↓reduceIte]; done) | (unfold fltX; split <;> simp_all)
    rw [hv] at hQ
    exact Rn.iret (ty := .int) dX11_fault_11 rfl rfl hQ
/-- the k-th byte from the highest -/
def byt (x : Int32) (k : Nat) : Int32 := ((x.toUInt32 >>> ((nI (24 - 8 * k)).toUInt32 &&& Int32.toUInt32 31)).toInt32).toInt8.toInt32
theorem narB {z : Int32} : vp_nar .byte z.toInt8.toInt32 = z.toInt8.toInt32 := pk_vb z
def apB (f : Nat → Int32) (t : Nat) (x : Int32) : Nat → Nat → Int32
  | 0 => f
  | k + 1 => upd (apB f t x k) (t + k) (byt x k)
theorem tX11_append {G : Gx} {l : Launch} {ly : Ly} {M : Mm} {pl : Nat} {t : Nat} {x : Int32} (ht : M.1 0 1 = nI t) (ht2 : t + 4 ≤ 700) (hX : XW ly M.2.2) (hpl : M.2.2 0 3 = some pl) (hp7 : pl = 7 ∨ pl = 41) : Mt G l mX11_append (1, 0, 0, false) [.ref 0, .int x] ly M (Is none ly (sI (sI M 1 (apB (M.1 1) t x 4)) 0 (upd (M.1 0) 1 (nI (t + 4))))) := by
  refine Mt.is (fun Q hQ => ?_)
  refine Mt.of (lv := [some (.ref 0), some (.int x), none]) rfl ?_
  refine Rn.bipushv (v := 24) dX11_append_0 bp_24 ?_
  refine Rn.istore_n (lv' := [some (.ref 0), some (.int x), some (.int 24)]) dX11_append_2 (by decide) rfl ?_
  refine Rn.iload_n dX11_append_3 rfl ?_
  refine Rn.if_lt dX11_append_4 (fun g0 => ?_) (fun g0 => ?_)
  · exact absurd g0 (by decide)
  · skip
    refine Rn.aload_n dX11_append_7 rfl ?_
    refine Rn.getI dX11_append_8 fX11_90 rfl (xc0 hX) ?_
    refine Rn.topI (y := nI t) (ht) ?_
    refine Rn.sipushv (v := 700) dX11_append_11 sp_700 ?_
    refine Rn.icmp_ge dX11_append_14 (fun h0 => ?_) (fun h0 => ?_)
    · exact absurd h0 (nI_ge (a := t + 0) (b := 700) (by omega) (by omega))
    · skip
      refine Rn.aload_n dX11_append_17 rfl ?_
      refine Rn.getR dX11_append_18 fX11_11 rfl (xc0 hX) (show M.2.2 0 0 = some 1 from (xp0_0 hX)) ?_
      refine Rn.aload_n dX11_append_21 rfl ?_
      refine Rn.getI dX11_append_22 fX11_90 rfl (xc0 hX) ?_
      refine Rn.topI (y := nI t) (ht) ?_
      refine Rn.iload_n dX11_append_25 rfl ?_
      refine Rn.iload_n dX11_append_26 rfl ?_
      refine Rn.iushr dX11_append_27 ?_
      refine Rn.i2b dX11_append_28 ?_
      refine Rn.topI (y := byt x 0) (rfl) ?_
      refine Rn.bastN (k0 := t) dX11_append_29 (xc1 hX) (by omega) (by decide) ?_
      refine Rn.meq (M2 := sI M 1 (apB (M.1 1) t x 1)) (by rw [show vp_nar .byte (byt x 0) = byt x 0 from narB]; rfl) ?_
      refine Rn.aload_n dX11_append_30 rfl ?_
      refine Rn.dup dX11_append_31 rfl ?_
      refine Rn.getI dX11_append_32 fX11_90 rfl (xc0 hX) ?_
      refine Rn.topI (y := nI t) (ht) ?_
      refine Rn.iconstv (v := 1) dX11_append_35 ic_1 ?_
      refine Rn.iadd dX11_append_36 ?_
      refine Rn.topI (y := nI (t + 1)) ((nI_succ (t + 0)).symm) ?_
      refine Rn.putI dX11_append_37 fX11_90 rfl rfl rfl (xc0 hX) ?_
      refine Rn.iincv (j' := -8) (lv' := [some (.ref 0), some (.int x), some (.int (24 + (-8)))]) dX11_append_40 rfl rfl (by decide) rfl ?_
      refine Rn.goto dX11_append_43 ?_
      refine Rn.iload_n dX11_append_3 rfl ?_
      refine Rn.if_lt dX11_append_4 (fun g1 => ?_) (fun g1 => ?_)
      · exact absurd g1 (by decide)
      · skip
        refine Rn.aload_n dX11_append_7 rfl ?_
        refine Rn.getI dX11_append_8 fX11_90 rfl (xc0 hX) ?_
        refine Rn.topI (y := nI (t + 1)) (rfl) ?_
        refine Rn.sipushv (v := 700) dX11_append_11 sp_700 ?_
        refine Rn.icmp_ge dX11_append_14 (fun h1 => ?_) (fun h1 => ?_)
        · exact absurd h1 (nI_ge (a := t + 1) (b := 700) (by omega) (by omega))
        · skip
          refine Rn.aload_n dX11_append_17 rfl ?_
          refine Rn.getR dX11_append_18 fX11_11 rfl (xc0 hX) (show M.2.2 0 0 = some 1 from (xp0_0 hX)) ?_
          refine Rn.aload_n dX11_append_21 rfl ?_
          refine Rn.getI dX11_append_22 fX11_90 rfl (xc0 hX) ?_
          refine Rn.topI (y := nI (t + 1)) (rfl) ?_
          refine Rn.iload_n dX11_append_25 rfl ?_
          refine Rn.iload_n dX11_append_26 rfl ?_
          refine Rn.iushr dX11_append_27 ?_
          refine Rn.i2b dX11_append_28 ?_
          refine Rn.topI (y := byt x 1) (rfl) ?_
          refine Rn.bastN (k0 := (t + 1)) dX11_append_29 (xc1 hX) (by omega) (by decide) ?_
          refine Rn.meq (M2 := sI (sI M 1 (upd (apB (M.1 1) t x 1) (t + 1) (vp_nar .byte (byt x 1)))) 0 (upd (M.1 0) 1 (nI (t + 1)))) ((sI_comm (show 0 ≠ 1 by decide)).trans (congrArg (fun m9 => sI m9 0 (upd (M.1 0) 1 (nI (t + 1)))) (sI_sI _ _ _ _))) ?_
          refine Rn.meq (M2 := sI (sI M 1 (apB (M.1 1) t x 2)) 0 (upd (M.1 0) 1 (nI (t + 1)))) (by rw [show vp_nar .byte (byt x 1) = byt x 1 from narB]; rfl) ?_
          refine Rn.aload_n dX11_append_30 rfl ?_
          refine Rn.dup dX11_append_31 rfl ?_
          refine Rn.getI dX11_append_32 fX11_90 rfl (xc0 hX) ?_
          refine Rn.topI (y := nI (t + 1)) (rfl) ?_
          refine Rn.iconstv (v := 1) dX11_append_35 ic_1 ?_
          refine Rn.iadd dX11_append_36 ?_
          refine Rn.topI (y := nI (t + 2)) ((nI_succ (t + 1)).symm) ?_
          refine Rn.putI dX11_append_37 fX11_90 rfl rfl rfl (xc0 hX) ?_
          refine Rn.meq (M2 := sI (sI M 1 (apB (M.1 1) t x 2)) 0 (upd (upd (M.1 0) 1 (nI (t + 1))) 1 (nI (t + 2)))) (sI_sI _ _ _ _) ?_
          refine Rn.meq (M2 := sI (sI M 1 (apB (M.1 1) t x 2)) 0 (upd (M.1 0) 1 (nI (t + 2)))) (by rw [upd_upd]) ?_
          refine Rn.iincv (j' := -8) (lv' := [some (.ref 0), some (.int x), some (.int (24 + (-8) + (-8)))]) dX11_append_40 rfl rfl (by decide) rfl ?_
          refine Rn.goto dX11_append_43 ?_
          refine Rn.iload_n dX11_append_3 rfl ?_
          refine Rn.if_lt dX11_append_4 (fun g2 => ?_) (fun g2 => ?_)
          · exact absurd g2 (by decide)
          · skip
            refine Rn.aload_n dX11_append_7 rfl ?_
            refine Rn.getI dX11_append_8 fX11_90 rfl (xc0 hX) ?_
            refine Rn.topI (y := nI (t + 2)) (rfl) ?_
            refine Rn.sipushv (v := 700) dX11_append_11 sp_700 ?_
            refine Rn.icmp_ge dX11_append_14 (fun h2 => ?_) (fun h2 => ?_)
            · exact absurd h2 (nI_ge (a := t + 2) (b := 700) (by omega) (by omega))
            · skip
              refine Rn.aload_n dX11_append_17 rfl ?_
              refine Rn.getR dX11_append_18 fX11_11 rfl (xc0 hX) (show M.2.2 0 0 = some 1 from (xp0_0 hX)) ?_
              refine Rn.aload_n dX11_append_21 rfl ?_
              refine Rn.getI dX11_append_22 fX11_90 rfl (xc0 hX) ?_
              refine Rn.topI (y := nI (t + 2)) (rfl) ?_
              refine Rn.iload_n dX11_append_25 rfl ?_
              refine Rn.iload_n dX11_append_26 rfl ?_
              refine Rn.iushr dX11_append_27 ?_
              refine Rn.i2b dX11_append_28 ?_
              refine Rn.topI (y := byt x 2) (rfl) ?_
              refine Rn.bastN (k0 := (t + 2)) dX11_append_29 (xc1 hX) (by omega) (by decide) ?_
              refine Rn.meq (M2 := sI (sI M 1 (upd (apB (M.1 1) t x 2) (t + 2) (vp_nar .byte (byt x 2)))) 0 (upd (M.1 0) 1 (nI (t + 2)))) ((sI_comm (show 0 ≠ 1 by decide)).trans (congrArg (fun m9 => sI m9 0 (upd (M.1 0) 1 (nI (t + 2)))) (sI_sI _ _ _ _))) ?_
              refine Rn.meq (M2 := sI (sI M 1 (apB (M.1 1) t x 3)) 0 (upd (M.1 0) 1 (nI (t + 2)))) (by rw [show vp_nar .byte (byt x 2) = byt x 2 from narB]; rfl) ?_
              refine Rn.aload_n dX11_append_30 rfl ?_
              refine Rn.dup dX11_append_31 rfl ?_
              refine Rn.getI dX11_append_32 fX11_90 rfl (xc0 hX) ?_
              refine Rn.topI (y := nI (t + 2)) (rfl) ?_
              refine Rn.iconstv (v := 1) dX11_append_35 ic_1 ?_
              refine Rn.iadd dX11_append_36 ?_
              refine Rn.topI (y := nI (t + 3)) ((nI_succ (t + 2)).symm) ?_
              refine Rn.putI dX11_append_37 fX11_90 rfl rfl rfl (xc0 hX) ?_
              refine Rn.meq (M2 := sI (sI M 1 (apB (M.1 1) t x 3)) 0 (upd (upd (M.1 0) 1 (nI (t + 2))) 1 (nI (t + 3)))) (sI_sI _ _ _ _) ?_
              refine Rn.meq (M2 := sI (sI M 1 (apB (M.1 1) t x 3)) 0 (upd (M.1 0) 1 (nI (t + 3)))) (by rw [upd_upd]) ?_
              refine Rn.iincv (j' := -8) (lv' := [some (.ref 0), some (.int x), some (.int (24 + (-8) + (-8) + (-8)))]) dX11_append_40 rfl rfl (by decide) rfl ?_
              refine Rn.goto dX11_append_43 ?_
              refine Rn.iload_n dX11_append_3 rfl ?_
              refine Rn.if_lt dX11_append_4 (fun g3 => ?_) (fun g3 => ?_)
              · exact absurd g3 (by decide)
              · skip
                refine Rn.aload_n dX11_append_7 rfl ?_
                refine Rn.getI dX11_append_8 fX11_90 rfl (xc0 hX) ?_
                refine Rn.topI (y := nI (t + 3)) (rfl) ?_
                refine Rn.sipushv (v := 700) dX11_append_11 sp_700 ?_
                refine Rn.icmp_ge dX11_append_14 (fun h3 => ?_) (fun h3 => ?_)
                · exact absurd h3 (nI_ge (a := t + 3) (b := 700) (by omega) (by omega))
                · skip
                  refine Rn.aload_n dX11_append_17 rfl ?_
                  refine Rn.getR dX11_append_18 fX11_11 rfl (xc0 hX) (show M.2.2 0 0 = some 1 from (xp0_0 hX)) ?_
                  refine Rn.aload_n dX11_append_21 rfl ?_
                  refine Rn.getI dX11_append_22 fX11_90 rfl (xc0 hX) ?_
                  refine Rn.topI (y := nI (t + 3)) (rfl) ?_
                  refine Rn.iload_n dX11_append_25 rfl ?_
                  refine Rn.iload_n dX11_append_26 rfl ?_
                  refine Rn.iushr dX11_append_27 ?_
                  refine Rn.i2b dX11_append_28 ?_
                  refine Rn.topI (y := byt x 3) (rfl) ?_
                  refine Rn.bastN (k0 := (t + 3)) dX11_append_29 (xc1 hX) (by omega) (by decide) ?_
                  refine Rn.meq (M2 := sI (sI M 1 (upd (apB (M.1 1) t x 3) (t + 3) (vp_nar .byte (byt x 3)))) 0 (upd (M.1 0) 1 (nI (t + 3)))) ((sI_comm (show 0 ≠ 1 by decide)).trans (congrArg (fun m9 => sI m9 0 (upd (M.1 0) 1 (nI (t + 3)))) (sI_sI _ _ _ _))) ?_
                  refine Rn.meq (M2 := sI (sI M 1 (apB (M.1 1) t x 4)) 0 (upd (M.1 0) 1 (nI (t + 3)))) (by rw [show vp_nar .byte (byt x 3) = byt x 3 from narB]; rfl) ?_
                  refine Rn.aload_n dX11_append_30 rfl ?_
                  refine Rn.dup dX11_append_31 rfl ?_
                  refine Rn.getI dX11_append_32 fX11_90 rfl (xc0 hX) ?_
                  refine Rn.topI (y := nI (t + 3)) (rfl) ?_
                  refine Rn.iconstv (v := 1) dX11_append_35 ic_1 ?_
                  refine Rn.iadd dX11_append_36 ?_
                  refine Rn.topI (y := nI (t + 4)) ((nI_succ (t + 3)).symm) ?_
                  refine Rn.putI dX11_append_37 fX11_90 rfl rfl rfl (xc0 hX) ?_
                  refine Rn.meq (M2 := sI (sI M 1 (apB (M.1 1) t x 4)) 0 (upd (upd (M.1 0) 1 (nI (t + 3))) 1 (nI (t + 4)))) (sI_sI _ _ _ _) ?_
                  refine Rn.meq (M2 := sI (sI M 1 (apB (M.1 1) t x 4)) 0 (upd (M.1 0) 1 (nI (t + 4)))) (by rw [upd_upd]) ?_
                  refine Rn.iincv (j' := -8) (lv' := [some (.ref 0), some (.int x), some (.int (24 + (-8) + (-8) + (-8) + (-8)))]) dX11_append_40 rfl rfl (by decide) rfl ?_
                  refine Rn.goto dX11_append_43 ?_
                  refine Rn.iload_n dX11_append_3 rfl ?_
                  refine Rn.if_lt dX11_append_4 (fun g4 => ?_) (fun g4 => ?_)
                  · skip
                    exact Rn.vret dX11_append_46 rfl hQ
                  · exact absurd (by decide) g4
theorem feedE {M : Mm} {f g : Nat → Int32} {x y : Int32} : sI (sI (sI (sI M 1 f) 0 (upd (M.1 0) 1 x)) 1 g) 0 (upd (upd (M.1 0) 1 x) 1 y) = sI (sI M 1 g) 0 (upd (M.1 0) 1 y) := by
  rw [sI_comm (M := sI M 1 f) (show (0 : Nat) ≠ 1 by decide), sI_sI, sI_sI, upd_upd]
theorem tX11_feed {G : Gx} {l : Launch} {ly : Ly} {M : Mm} {pl : Nat} {t : Nat} {x1 x2 x3 x4 x5 : Int32} (ht : M.1 0 1 = nI t) (ht7 : t ≤ 700) (hX : XW ly M.2.2) (hpl : M.2.2 0 3 = some pl) (hp7 : pl = 7 ∨ pl = 41) {Q : Qt} (hQ : (680 < t → Q (some (.int (-1))) ly M) ∧ (t ≤ 680 → Q (some (.int (nI (t + 20)))) ly (sI (sI M 1 (apB (apB (apB (apB (apB (M.1 1) (t) x1 4) (t + 4) x2 4) (t + 8) x3 4) (t + 12) x4 4) (t + 16) x5 4)) 0 (upd (M.1 0) 1 (nI (t + 20)))))) : Mt G l mX11_feed (2, 0, 0, false) [.ref 0, .int x1, .int x2, .int x3, .int x4, .int x5] ly M Q := by
  refine Mt.of (lv := [some (.ref 0), some (.int x1), some (.int x2), some (.int x3), some (.int x4), some (.int x5)]) rfl ?_
  refine Rn.aload_n dX11_feed_0 rfl ?_
  refine Rn.getI dX11_feed_1 fX11_90 rfl (xc0 hX) ?_
  refine Rn.topI (y := nI t) (ht) ?_
  refine Rn.bipushv (v := 20) dX11_feed_4 bp_20 ?_
  refine Rn.iadd dX11_feed_6 ?_
  refine Rn.topI (y := nI (t + 20)) (nI_add t 20) ?_
  refine Rn.sipushv (v := 700) dX11_feed_7 sp_700 ?_
  refine Rn.icmp_le dX11_feed_10 (fun g => ?_) (fun g => ?_)
  · have g1 : t ≤ 680 := by rcases Nat.lt_or_ge 680 t with h | h; exact absurd g (nI_ge (a := 700) (b := t + 20) (by omega) (by omega)); exact h
    refine Rn.aload_n dX11_feed_15 rfl ?_
    refine Rn.iload_n dX11_feed_16 rfl ?_
    refine Rn.callV1 dX11_feed_17 vX11_94 (xc0 hX) (by decide) rfl (tX11_append (pl := pl) (t := t) ht (by omega) hX hpl hp7) (by decide) ⟨(Nat.le_of_ble_eq_true rfl), (Nat.le_of_ble_eq_true rfl), (Nat.le_of_ble_eq_true rfl)⟩ (fun h => by cases h) (fun v1 ly1 M1 ⟨q1, q2, q3⟩ => ?_)
    rw [q1, q2, q3]
    show Rn G l mX11_feed (2, 0, 0, false) 20 [some (.ref 0), some (.int x1), some (.int x2), some (.int x3), some (.int x4), some (.int x5)] [] ly (sI (sI M 1 (apB (M.1 1) (t) x1 4)) 0 (upd (M.1 0) 1 (nI (t + 4)))) Q
    refine Rn.aload_n dX11_feed_20 rfl ?_
    refine Rn.iload_n dX11_feed_21 rfl ?_
    refine Rn.callV1 dX11_feed_22 vX11_94 (xc0 hX) (by decide) rfl (tX11_append (pl := pl) (t := t + 4) rfl (by omega) hX hpl hp7) (by decide) ⟨(Nat.le_of_ble_eq_true rfl), (Nat.le_of_ble_eq_true rfl), (Nat.le_of_ble_eq_true rfl)⟩ (fun h => by cases h) (fun v1 ly1 M1 ⟨q1, q2, q3⟩ => ?_)
    rw [q1, q2, q3]
    refine Rn.meq (M2 := sI (sI M 1 (apB (apB (M.1 1) (t) x1 4) (t + 4) x2 4)) 0 (upd (M.1 0) 1 (nI (t + 8)))) ?_ ?_
    · exact feedE
    refine Rn.aload_n dX11_feed_25 rfl ?_
    refine Rn.iload_n dX11_feed_26 rfl ?_
    refine Rn.callV1 dX11_feed_27 vX11_94 (xc0 hX) (by decide) rfl (tX11_append (pl := pl) (t := t + 8) rfl (by omega) hX hpl hp7) (by decide) ⟨(Nat.le_of_ble_eq_true rfl), (Nat.le_of_ble_eq_true rfl), (Nat.le_of_ble_eq_true rfl)⟩ (fun h => by cases h) (fun v1 ly1 M1 ⟨q1, q2, q3⟩ => ?_)
    rw [q1, q2, q3]
    refine Rn.meq (M2 := sI (sI M 1 (apB (apB (apB (M.1 1) (t) x1 4) (t + 4) x2 4) (t + 8) x3 4)) 0 (upd (M.1 0) 1 (nI (t + 12)))) ?_ ?_
    · exact feedE
    refine Rn.aload_n dX11_feed_30 rfl ?_
    refine Rn.iload dX11_feed_31 rfl ?_
    refine Rn.callV1 dX11_feed_33 vX11_94 (xc0 hX) (by decide) rfl (tX11_append (pl := pl) (t := t + 12) rfl (by omega) hX hpl hp7) (by decide) ⟨(Nat.le_of_ble_eq_true rfl), (Nat.le_of_ble_eq_true rfl), (Nat.le_of_ble_eq_true rfl)⟩ (fun h => by cases h) (fun v1 ly1 M1 ⟨q1, q2, q3⟩ => ?_)
    rw [q1, q2, q3]
    refine Rn.meq (M2 := sI (sI M 1 (apB (apB (apB (apB (M.1 1) (t) x1 4) (t + 4) x2 4) (t + 8) x3 4) (t + 12) x4 4)) 0 (upd (M.1 0) 1 (nI (t + 16)))) ?_ ?_
    · exact feedE
    refine Rn.aload_n dX11_feed_36 rfl ?_
    refine Rn.iload dX11_feed_37 rfl ?_
    refine Rn.callV1 dX11_feed_39 vX11_94 (xc0 hX) (by decide) rfl (tX11_append (pl := pl) (t := t + 16) rfl (by omega) hX hpl hp7) (by decide) ⟨(Nat.le_of_ble_eq_true rfl), (Nat.le_of_ble_eq_true rfl), (Nat.le_of_ble_eq_true rfl)⟩ (fun h => by cases h) (fun v1 ly1 M1 ⟨q1, q2, q3⟩ => ?_)
    rw [q1, q2, q3]
    refine Rn.meq (M2 := sI (sI M 1 (apB (apB (apB (apB (apB (M.1 1) (t) x1 4) (t + 4) x2 4) (t + 8) x3 4) (t + 12) x4 4) (t + 16) x5 4)) 0 (upd (M.1 0) 1 (nI (t + 20)))) ?_ ?_
    · exact feedE
    refine Rn.aload_n dX11_feed_42 rfl ?_
    refine Rn.getI dX11_feed_43 fX11_90 rfl (xc0 hX) ?_
    exact Rn.iret (ty := .int) dX11_feed_46 rfl rfl (hQ.2 g1)
  · have g1 : 680 < t := by rcases Nat.lt_or_ge 680 t with h | h; exact h; exact absurd (nI_le (a := t + 20) (b := 700) (by omega) (by omega)) g
    refine Rn.iconstv (v := -1) dX11_feed_13 ic_m1 ?_
    exact Rn.iret (ty := .int) dX11_feed_14 rfl rfl (hQ.1 g1)
