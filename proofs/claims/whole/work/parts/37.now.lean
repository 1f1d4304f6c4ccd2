theorem tX11_undo {G : Gx} {l : Launch} {ly : Ly} {M : Mm} {pl n nw nu nv nf : Nat} {nd : Nat} (hD : M.1 134 0 = nI nd ∧ nd ≤ 20) (hdd : ∀ k, k < nd → M.1 135 k = 0 ∨ (M.1 135 k = 1 ∧ ∃ w : Nat, w < 6 ∧ M.1 136 k = nI w) ∨ M.1 135 k = 2 ∨ (M.1 135 k = 3 ∧ ∃ c : Nat, c < 12 ∧ M.1 136 k = nI c)) (hXS : XS ly M pl n nw nu nv) (hF : M.1 87 0 = nI nf ∧ nf ≤ 8 ∧ ∀ i, i < nf → vp_in (M.1 88 i) 12) {Q : Qt} (hQ : (nd = 0 → Q (some (.int (-1))) ly M) ∧ (∀ k : Nat, nd = k + 1 → (M.1 135 k = 0 → Q (some (.int (nI k))) ly (sI (sI (sI M 134 (upd (M.1 134) 0 (nI k))) 87 (upd (M.1 87) 0 (nI (nf - 1)))) 90 (rfC (M.1 pl 3) (M.1 88) (M.1 89) (M.1 90) (nf - 1)))) ∧ (∀ w : Nat, M.1 135 k = 1 → w < 6 → M.1 136 k = nI w → Q (some (.int (nI k))) ly (sI (sI M 134 (upd (M.1 134) 0 (nI k))) 86 (upd (M.1 86) w (M.1 137 k)))) ∧ (M.1 135 k = 2 → Q (some (.int (nI k))) ly (sI (sI M 134 (upd (M.1 134) 0 (nI k))) 75 (upd (M.1 75) 16 (if M.1 75 16 = 0 then 1 else 0)))) ∧ (∀ c : Nat, M.1 135 k = 3 → c < 12 → M.1 136 k = nI c → Q (some (.int (nI k))) ly (sI (sI M 134 (upd (M.1 134) 0 (nI k))) 78 (upd (M.1 78) c (M.1 137 k)))))) : Mt G l mX11_undo (4, 0, 0, false) [.ref 0] ly M Q := by
  have hXS0 := hXS
  obtain ⟨hX, hpl, hp7, ⟨n0, n1, n2, n3⟩, ⟨hn, hn2, hn12⟩, ⟨hw1, hw2, hw6⟩, ⟨hu1, hu2, hv1, hv2⟩, hgl, hbb⟩ := hXS
  refine Mt.of (lv := [some (.ref 0), none, none]) rfl ?_
  refine Rn.aload_n dX11_undo_0 rfl ?_
  refine Rn.getR dX11_undo_1 fX11_66 rfl (xc0 hX) (show M.2.2 0 12 = some 134 from (xp0_12 hX)) ?_
  refine Rn.getI dX11_undo_4 fX11_235 rfl (xc134 hX) ?_
  refine Rn.topI (y := nI nd) (hD.1) ?_
  refine Rn.if_ne dX11_undo_7 (fun g0 => ?_) (fun g0 => ?_)
  · skip
    obtain ⟨k, rfl⟩ : ∃ k, nd = k + 1 := ⟨nd - 1, by have : nd ≠ 0 := fun e => g0 (by rw [e]; rfl); omega⟩
    obtain ⟨hR0, hR1, hR2, hR3⟩ := hQ.2 k rfl
    clear hQ
    refine Rn.aload_n dX11_undo_12 rfl ?_
    refine Rn.getR dX11_undo_13 fX11_66 rfl (xc0 hX) (show M.2.2 0 12 = some 134 from (xp0_12 hX)) ?_
    refine Rn.dup dX11_undo_16 rfl ?_
    refine Rn.getI dX11_undo_17 fX11_235 rfl (xc134 hX) ?_
    refine Rn.topI (y := nI (k + 1)) (hD.1) ?_
    refine Rn.iconstv (v := 1) dX11_undo_20 ic_1 ?_
    refine Rn.isub dX11_undo_21 ?_
    refine Rn.topI (y := nI k) (nI_pred k) ?_
    refine Rn.putI dX11_undo_22 fX11_235 rfl rfl rfl (xc134 hX) ?_
    refine Rn.aload_n dX11_undo_25 rfl ?_
    refine Rn.getR dX11_undo_26 fX11_66 rfl (xc0 hX) (show M.2.2 0 12 = some 134 from (xp0_12 hX)) ?_
    refine Rn.getR dX11_undo_29 fX11_273 rfl (xc134 hX) (show M.2.2 134 2 = some 136 from (xp134_2 hX)) ?_
    refine Rn.aload_n dX11_undo_32 rfl ?_
    refine Rn.getR dX11_undo_33 fX11_66 rfl (xc0 hX) (show M.2.2 0 12 = some 134 from (xp0_12 hX)) ?_
    refine Rn.getI dX11_undo_36 fX11_235 rfl (xc134 hX) ?_
    refine Rn.ialdN (k0 := k) dX11_undo_39 (xc136 hX) (by omega) (by decide) ?_
    refine Rn.istore_n (lv' := [some (.ref 0), some (.int (M.1 136 k)), none]) dX11_undo_40 (by decide) rfl ?_
    refine Rn.aload_n dX11_undo_41 rfl ?_
    refine Rn.getR dX11_undo_42 fX11_66 rfl (xc0 hX) (show M.2.2 0 12 = some 134 from (xp0_12 hX)) ?_
    refine Rn.getR dX11_undo_45 fX11_276 rfl (xc134 hX) (show M.2.2 134 3 = some 137 from (xp134_3 hX)) ?_
    refine Rn.aload_n dX11_undo_48 rfl ?_
    refine Rn.getR dX11_undo_49 fX11_66 rfl (xc0 hX) (show M.2.2 0 12 = some 134 from (xp0_12 hX)) ?_
    refine Rn.getI dX11_undo_52 fX11_235 rfl (xc134 hX) ?_
    refine Rn.ialdN (k0 := k) dX11_undo_55 (xc137 hX) (by omega) (by decide) ?_
    refine Rn.istore_n (lv' := [some (.ref 0), some (.int (M.1 136 k)), some (.int (M.1 137 k))]) dX11_undo_56 (by decide) rfl ?_
    refine Rn.aload_n dX11_undo_57 rfl ?_
    refine Rn.getR dX11_undo_58 fX11_66 rfl (xc0 hX) (show M.2.2 0 12 = some 134 from (xp0_12 hX)) ?_
    refine Rn.getR dX11_undo_61 fX11_279 rfl (xc134 hX) (show M.2.2 134 1 = some 135 from (xp134_1 hX)) ?_
    refine Rn.aload_n dX11_undo_64 rfl ?_
    refine Rn.getR dX11_undo_65 fX11_66 rfl (xc0 hX) (show M.2.2 0 12 = some 134 from (xp0_12 hX)) ?_
    refine Rn.getI dX11_undo_68 fX11_235 rfl (xc134 hX) ?_
    refine Rn.ialdN (k0 := k) dX11_undo_71 (xc135 hX) (by omega) (by decide) ?_
    show Rn G l mX11_undo (4, 0, 0, false) 72 [some (.ref 0), some (.int (M.1 136 k)), some (.int (M.1 137 k))] [.int (M.1 135 k)] ly (sI M 134 (upd (M.1 134) 0 (nI k))) Q
    rcases hdd k (by omega) with h0 | ⟨h1, w, hw, h2⟩ | h0 | ⟨h1, c, hc, h2⟩
    · skip
      rw [h0]
      refine Rn.tableIn (off := 28) (tgt := 100) dX11_undo_72 (by decide) (by decide) (by decide) (by decide) ?_
      refine Rn.aload_n dX11_undo_100 rfl ?_
      refine Rn.getR dX11_undo_101 fX11_39 rfl (xc0 hX) (show M.2.2 0 5 = some 75 from (xp0_5 hX)) ?_
      refine Rn.callV0 dX11_undo_104 vX11_282 (xc75 hX) (by decide) rfl (tX9_dropLastFat (M := sI M 134 (upd (M.1 134) 0 (nI k))) (a := 75) (p := pl) (n := nf) (xScene75 (M := sI M 134 (upd (M.1 134) 0 (nI k))) hX) n0 (pc0 hX hp7) (by omega) hF.1 hF.2.1 hF.2.2) (by decide) ⟨(Nat.le_of_ble_eq_true rfl), (Nat.le_of_ble_eq_true rfl), (Nat.le_of_ble_eq_true rfl)⟩ (fun h => by cases h) (fun v1 ly1 M1 ⟨q1, q2, q3⟩ => ?_)
      rw [q1, q2, q3]
      have hpl0 : (sI M 134 (upd (M.1 134) 0 (nI k))).1 pl 3 = M.1 pl 3 := congrFun (sI_ne (show pl ≠ 134 by omega)) 3
      rw [hpl0]
      show Rn G l mX11_undo (4, 0, 0, false) 107 [some (.ref 0), some (.int (M.1 136 k)), some (.int (M.1 137 k))] [] ly (sI (sI (sI M 134 (upd (M.1 134) 0 (nI k))) 87 (upd (M.1 87) 0 (nI (nf - 1)))) 90 (rfC (M.1 pl 3) (M.1 88) (M.1 89) (M.1 90) (nf - 1))) Q
      refine Rn.goto dX11_undo_107 ?_
      refine Rn.aload_n dX11_undo_161 rfl ?_
      refine Rn.getR dX11_undo_162 fX11_66 rfl (xc0 hX) (show M.2.2 0 12 = some 134 from (xp0_12 hX)) ?_
      refine Rn.getI dX11_undo_165 fX11_235 rfl (xc134 hX) ?_
      exact Rn.iret (ty := .int) dX11_undo_168 rfl rfl (hR0 h0)
    · skip
      rw [h1]
      refine Rn.tableIn (off := 38) (tgt := 110) dX11_undo_72 (by decide) (by decide) (by decide) (by decide) ?_
      rw [h2]
      refine Rn.aload_n dX11_undo_110 rfl ?_
      refine Rn.getR dX11_undo_111 fX11_39 rfl (xc0 hX) (show M.2.2 0 5 = some 75 from (xp0_5 hX)) ?_
      refine Rn.getR dX11_undo_114 fX11_136 rfl (xc75 hX) (show M.2.2 75 10 = some 86 from (xp75_10 hX)) ?_
      refine Rn.iload_n dX11_undo_117 rfl ?_
      refine Rn.iload_n dX11_undo_118 rfl ?_
      refine Rn.iastN (k0 := w) dX11_undo_119 (xc86 hX) (by omega) (by decide) ?_
      refine Rn.goto dX11_undo_120 ?_
      refine Rn.aload_n dX11_undo_161 rfl ?_
      refine Rn.getR dX11_undo_162 fX11_66 rfl (xc0 hX) (show M.2.2 0 12 = some 134 from (xp0_12 hX)) ?_
      refine Rn.getI dX11_undo_165 fX11_235 rfl (xc134 hX) ?_
      exact Rn.iret (ty := .int) dX11_undo_168 rfl rfl (hR1 w h1 hw h2)
    · skip
      rw [h0]
      refine Rn.tableIn (off := 51) (tgt := 123) dX11_undo_72 (by decide) (by decide) (by decide) (by decide) ?_
      refine Rn.aload_n dX11_undo_123 rfl ?_
      refine Rn.getR dX11_undo_124 fX11_39 rfl (xc0 hX) (show M.2.2 0 5 = some 75 from (xp0_5 hX)) ?_
      refine Rn.aload_n dX11_undo_127 rfl ?_
      refine Rn.getR dX11_undo_128 fX11_39 rfl (xc0 hX) (show M.2.2 0 5 = some 75 from (xp0_5 hX)) ?_
      refine Rn.getI dX11_undo_131 fX11_242 rfl (xc75 hX) ?_
      show Rn G l mX11_undo (4, 0, 0, false) 134 [some (.ref 0), some (.int (M.1 136 k)), some (.int (M.1 137 k))] [.int (M.1 75 16), .ref 75] ly (sI M 134 (upd (M.1 134) 0 (nI k))) Q
      refine Rn.if_ne dX11_undo_134 (fun hb => ?_) (fun hb => ?_)
      · skip
        rw [if_neg hb] at hR2
        refine Rn.iconstv (v := 0) dX11_undo_141 ic_0 ?_
        refine Rn.putZ dX11_undo_142 fX11_242 rfl rfl rfl (by decide) (xc75 hX) ?_
        refine Rn.goto dX11_undo_145 ?_
        refine Rn.aload_n dX11_undo_161 rfl ?_
        refine Rn.getR dX11_undo_162 fX11_66 rfl (xc0 hX) (show M.2.2 0 12 = some 134 from (xp0_12 hX)) ?_
        refine Rn.getI dX11_undo_165 fX11_235 rfl (xc134 hX) ?_
        exact Rn.iret (ty := .int) dX11_undo_168 rfl rfl (hR2 h0)
      · skip
        rw [if_pos hb] at hR2
        refine Rn.iconstv (v := 1) dX11_undo_137 ic_1 ?_
        refine Rn.goto dX11_undo_138 ?_
        refine Rn.putZ dX11_undo_142 fX11_242 rfl rfl rfl (by decide) (xc75 hX) ?_
        refine Rn.goto dX11_undo_145 ?_
        refine Rn.aload_n dX11_undo_161 rfl ?_
        refine Rn.getR dX11_undo_162 fX11_66 rfl (xc0 hX) (show M.2.2 0 12 = some 134 from (xp0_12 hX)) ?_
        refine Rn.getI dX11_undo_165 fX11_235 rfl (xc134 hX) ?_
        exact Rn.iret (ty := .int) dX11_undo_168 rfl rfl (hR2 h0)
    · skip
      rw [h1]
      refine Rn.tableOut (tgt := 148) dX11_undo_72 (by decide) (by decide) ?_
      rw [h2]
      refine Rn.aload_n dX11_undo_148 rfl ?_
      refine Rn.getR dX11_undo_149 fX11_39 rfl (xc0 hX) (show M.2.2 0 5 = some 75 from (xp0_5 hX)) ?_
      refine Rn.getR dX11_undo_152 fX11_165 rfl (xc75 hX) (show M.2.2 75 5 = some 76 from (xp75_5 hX)) ?_
      refine Rn.getR dX11_undo_155 fX11_174 rfl (xc76 hX) (show M.2.2 76 1 = some 78 from (xp76_1 hX)) ?_
      refine Rn.iload_n dX11_undo_158 rfl ?_
      refine Rn.iload_n dX11_undo_159 rfl ?_
      refine Rn.iastN (k0 := c) dX11_undo_160 (xc78 hX) (by omega) (by decide) ?_
      refine Rn.aload_n dX11_undo_161 rfl ?_
      refine Rn.getR dX11_undo_162 fX11_66 rfl (xc0 hX) (show M.2.2 0 12 = some 134 from (xp0_12 hX)) ?_
      refine Rn.getI dX11_undo_165 fX11_235 rfl (xc134 hX) ?_
      exact Rn.iret (ty := .int) dX11_undo_168 rfl rfl (hR3 c h1 hc h2)
  · skip
    refine Rn.iconstv (v := -1) dX11_undo_10 ic_m1 ?_
    exact Rn.iret (ty := .int) dX11_undo_11 rfl rfl (hQ.1 ((nI_eq (b := 0) (by omega) (by decide)).mp g0))
/-- the scene a of N is as the scene c of M -/
def simS (N : Mm) (a : Nat) (M : Mm) (c : Nat) : Prop := scE (vS N.1 a) (vS M.1 c) ∧ eqN 12 (N.1 (a + 15)) (M.1 (c + 15)) ∧ (N.1 a 4 = M.1 c 4 ∧ N.1 a 16 = M.1 c 16 ∧ N.1 a 17 = M.1 c 17) ∧ N.1 (a + 12) 0 = M.1 (c + 12) 0 ∧ eqN 8 (N.1 (a + 13)) (M.1 (c + 13)) ∧ eqN 8 (N.1 (a + 14)) (M.1 (c + 14))
theorem tX11_keep {G : Gx} {l : Launch} {ly : Ly} {M : Mm} {pl n nw nu nv : Nat}  (hXS : XS ly M pl n nw nu nv) {Q : Qt} (hQ : ∀ K : Mm, K.2.2 = rSc M.2.2 109 pl (pl + 7) (pl + 18) (pl + 21) → (∀ a, (a < 109 ∨ 125 < a) → a ≠ 127 → a ≠ 0 → K.1 a = M.1 a) → K.1 0 = upd (M.1 0) 8 1 → eqN 60 (K.1 127) (M.1 126) → simS K 109 M 75 → Q (some (.int (M.1 75 14))) ly K) : Mt G l mX11_keep (4, 0, 0, false) [.ref 0] ly M Q := by
  have hXS0 := hXS
  obtain ⟨hX, hpl, hp7, ⟨n0, n1, n2, n3⟩, ⟨hn, hn2, hn12⟩, ⟨hw1, hw2, hw6⟩, ⟨hu1, hu2, hv1, hv2⟩, hgl, hbb⟩ := hXS
  refine Mt.of (lv := [some (.ref 0)]) rfl ?_
  refine Rn.aload_n dX11_keep_0 rfl ?_
  refine Rn.getR dX11_keep_1 fX11_46 rfl (xc0 hX) (show M.2.2 0 7 = some 109 from (xp0_7 hX)) ?_
  refine Rn.aload_n dX11_keep_4 rfl ?_
  refine Rn.getR dX11_keep_5 fX11_39 rfl (xc0 hX) (show M.2.2 0 5 = some 75 from (xp0_5 hX)) ?_
  refine Rn.callV1 dX11_keep_8 vX11_285 (xc109 hX) (by decide) rfl (tX9_copy109_75 (Q := fun v0 ly0 M0 => v0 = none ∧ ly0 = ly ∧ M0.2.2 = rSc M.2.2 109 pl (pl + 7) (pl + 18) (pl + 21) ∧ (∀ k, (k < 109 ∨ 125 < k) → M0.1 k = M.1 k) ∧ simS M0 109 M 75) hX n0 n1 n2 n3 hbb (fun I f1 f2 r2 r3 r4 r6 r7 r8 r15 r9 r10 r11 r13 r14 r12 => ⟨rfl, rfl, rfl, f1, ⟨⟨fun j hj => (congrFun r2 j).trans (pre_lt hj), fun j hj => (congrFun r3 j).trans (pre_lt hj), fun j hj => (congrFun r6 j).trans (pre_lt hj), fun j hj => (congrFun r7 j).trans (pre_lt hj), ⟨fun j hj => (congrFun r9 j).trans (pre_lt hj), fun j hj => (congrFun r10 j).trans (pre_lt hj), fun j hj => (congrFun r11 j).trans (pre_lt hj), fun j hj => (congrFun r4 j).trans (pre_lt hj), fun j hj => (congrFun r8 j).trans (pre_lt hj)⟩, f2 7 (by decide), f2 14 (by decide), f2 15 (by decide)⟩, fun j hj => (congrFun r15 j).trans (pre_lt hj), ⟨f2 4 (by decide), f2 16 (by decide), f2 17 (by decide)⟩, (congrFun r12 0).trans rfl, fun j hj => (congrFun r13 j).trans (pre_lt hj), fun j hj => (congrFun r14 j).trans (pre_lt hj)⟩⟩)) (by decide) ⟨(Nat.le_of_ble_eq_true rfl), (Nat.le_of_ble_eq_true rfl), (Nat.le_of_ble_eq_true rfl)⟩ (fun h => by cases h) (fun v1 ly1 N1 ⟨q1, q2, rr1, fr1, hs1⟩ => ?_)
  rw [q1, q2]
  have hXN1 : XW ly N1.2.2 := by rw [rr1]; exact XW_rSc hX (by decide)
  have hplN1 : N1.2.2 0 3 = some pl := by rw [rr1]; exact hpl
  refine Rn.aload_n dX11_keep_11 rfl ?_
  refine Rn.getR dX11_keep_12 fX11_49 rfl (xc0 hXN1) (show N1.2.2 0 9 = some 126 from (xp0_9 hXN1)) ?_
  refine Rn.iconstv (v := 0) dX11_keep_15 ic_0 ?_
  refine Rn.aload_n dX11_keep_16 rfl ?_
  refine Rn.getR dX11_keep_17 fX11_53 rfl (xc0 hXN1) (show N1.2.2 0 10 = some 127 from (xp0_10 hXN1)) ?_
  refine Rn.iconstv (v := 0) dX11_keep_20 ic_0 ?_
  refine Rn.bipushv (v := 60) dX11_keep_21 bp_60 ?_
  refine Rn.copy dX11_keep_23 jX11_289 jw_copy (xc126 hXN1) (xc127 hXN1) (by decide) (by decide) (by decide) (by decide) (by decide) ⟨(Nat.le_of_ble_eq_true rfl), (Nat.le_of_ble_eq_true rfl)⟩ ?_
  refine Rn.meq (M2 := sI N1 127 (pre 60 (N1.1 126) (N1.1 127))) (congrArg (fun r9 => sI N1 127 r9) ((congr (congrArg (fun u v => va_cpy u v 0 0 60) (rfl)) (rfl)).trans (cpy_pre 60 (N1.1 126) (N1.1 127)))) ?_
  refine Rn.aload_n dX11_keep_26 rfl ?_
  refine Rn.iconstv (v := 1) dX11_keep_27 ic_1 ?_
  refine Rn.putZ dX11_keep_28 fX11_111 rfl rfl rfl (by decide) (xc0 hXN1) ?_
  refine Rn.aload_n dX11_keep_31 rfl ?_
  refine Rn.getR dX11_keep_32 fX11_39 rfl (xc0 hXN1) (show N1.2.2 0 5 = some 75 from (xp0_5 hXN1)) ?_
  refine Rn.getI dX11_keep_35 fX11_227 rfl (xc75 hXN1) ?_
  refine Rn.topI (y := M.1 75 14) (congrFun (fr1 75 (by omega)) 14) ?_
  exact Rn.iret (ty := .int) dX11_keep_38 rfl rfl (hQ _ rr1 (fun a h1 h2 h3 => (sI_ne h3).trans ((sI_ne h2).trans (fr1 a h1))) (by rw [show M.1 0 = N1.1 0 from (fr1 0 (by omega)).symm]; rfl) (fun j hj => (pre_lt hj).trans (congrFun (fr1 126 (by omega)) j)) hs1)
theorem tX11_back {G : Gx} {l : Launch} {ly : Ly} {M : Mm} {pl n nw nu nv : Nat} (hIm : ¬ M.1 0 8 = 0 → (M.2.2 109 0 = some pl ∧ M.2.2 109 1 = some (pl + 7) ∧ M.2.2 109 2 = some (pl + 18) ∧ M.2.2 109 3 = some (pl + 21)) ∧ ((M.1 109 16 = 0 ∨ M.1 109 16 = 1) ∧ (M.1 109 17 = 0 ∨ M.1 109 17 = 1))) (hXS : XS ly M pl n nw nu nv) {Q : Qt} (hQ : (M.1 0 8 = 0 → Q (some (.int (-1))) ly M) ∧ (¬ M.1 0 8 = 0 → ∀ K : Mm, K.2.2 = rSc M.2.2 75 pl (pl + 7) (pl + 18) (pl + 21) → (∀ a, (a < 75 ∨ 91 < a) → a ≠ 126 → a ≠ 134 → K.1 a = M.1 a) → K.1 134 = upd (M.1 134) 0 0 → eqN 60 (K.1 126) (M.1 127) → simS K 75 M 109 → Q (some (.int (M.1 109 14))) ly K)) : Mt G l mX11_back (4, 0, 0, false) [.ref 0] ly M Q := by
  have hXS0 := hXS
  obtain ⟨hX, hpl, hp7, ⟨n0, n1, n2, n3⟩, ⟨hn, hn2, hn12⟩, ⟨hw1, hw2, hw6⟩, ⟨hu1, hu2, hv1, hv2⟩, hgl, hbb⟩ := hXS
  refine Mt.of (lv := [some (.ref 0)]) rfl ?_
  refine Rn.aload_n dX11_back_0 rfl ?_
  refine Rn.getI dX11_back_1 fX11_111 rfl (xc0 hX) ?_
  refine Rn.if_ne dX11_back_4 (fun g0 => ?_) (fun g0 => ?_)
  · skip
    obtain ⟨⟨m0, m1, m2, m3⟩, mb⟩ := hIm g0
    refine Rn.aload_n dX11_back_9 rfl ?_
    refine Rn.getR dX11_back_10 fX11_39 rfl (xc0 hX) (show M.2.2 0 5 = some 75 from (xp0_5 hX)) ?_
    refine Rn.aload_n dX11_back_13 rfl ?_
    refine Rn.getR dX11_back_14 fX11_46 rfl (xc0 hX) (show M.2.2 0 7 = some 109 from (xp0_7 hX)) ?_
    refine Rn.callV1 dX11_back_17 vX11_285 (xc75 hX) (by decide) rfl (tX9_copy75_109 (Q := fun v0 ly0 M0 => v0 = none ∧ ly0 = ly ∧ M0.2.2 = rSc M.2.2 75 pl (pl + 7) (pl + 18) (pl + 21) ∧ (∀ k, (k < 75 ∨ 91 < k) → M0.1 k = M.1 k) ∧ simS M0 75 M 109) hX m0 m1 m2 m3 mb (fun I f1 f2 r2 r3 r4 r6 r7 r8 r15 r9 r10 r11 r13 r14 r12 => ⟨rfl, rfl, rfl, f1, ⟨⟨fun j hj => (congrFun r2 j).trans (pre_lt hj), fun j hj => (congrFun r3 j).trans (pre_lt hj), fun j hj => (congrFun r6 j).trans (pre_lt hj), fun j hj => (congrFun r7 j).trans (pre_lt hj), ⟨fun j hj => (congrFun r9 j).trans (pre_lt hj), fun j hj => (congrFun r10 j).trans (pre_lt hj), fun j hj => (congrFun r11 j).trans (pre_lt hj), fun j hj => (congrFun r4 j).trans (pre_lt hj), fun j hj => (congrFun r8 j).trans (pre_lt hj)⟩, f2 7 (by decide), f2 14 (by decide), f2 15 (by decide)⟩, fun j hj => (congrFun r15 j).trans (pre_lt hj), ⟨f2 4 (by decide), f2 16 (by decide), f2 17 (by decide)⟩, (congrFun r12 0).trans rfl, fun j hj => (congrFun r13 j).trans (pre_lt hj), fun j hj => (congrFun r14 j).trans (pre_lt hj)⟩⟩)) (by decide) ⟨(Nat.le_of_ble_eq_true rfl), (Nat.le_of_ble_eq_true rfl), (Nat.le_of_ble_eq_true rfl)⟩ (fun h => by cases h) (fun v1 ly1 N1 ⟨q1, q2, rr1, fr1, hs1⟩ => ?_)
    rw [q1, q2]
    have hXN1 : XW ly N1.2.2 := by rw [rr1]; exact XW_rSc hX (by decide)
    have hplN1 : N1.2.2 0 3 = some pl := by rw [rr1]; exact hpl
    refine Rn.aload_n dX11_back_20 rfl ?_
    refine Rn.getR dX11_back_21 fX11_53 rfl (xc0 hXN1) (show N1.2.2 0 10 = some 127 from (xp0_10 hXN1)) ?_
    refine Rn.iconstv (v := 0) dX11_back_24 ic_0 ?_
    refine Rn.aload_n dX11_back_25 rfl ?_
    refine Rn.getR dX11_back_26 fX11_49 rfl (xc0 hXN1) (show N1.2.2 0 9 = some 126 from (xp0_9 hXN1)) ?_
    refine Rn.iconstv (v := 0) dX11_back_29 ic_0 ?_
    refine Rn.bipushv (v := 60) dX11_back_30 bp_60 ?_
    refine Rn.copy dX11_back_32 jX11_289 jw_copy (xc127 hXN1) (xc126 hXN1) (by decide) (by decide) (by decide) (by decide) (by decide) ⟨(Nat.le_of_ble_eq_true rfl), (Nat.le_of_ble_eq_true rfl)⟩ ?_
    refine Rn.meq (M2 := sI N1 126 (pre 60 (N1.1 127) (N1.1 126))) (congrArg (fun r9 => sI N1 126 r9) ((congr (congrArg (fun u v => va_cpy u v 0 0 60) (rfl)) (rfl)).trans (cpy_pre 60 (N1.1 127) (N1.1 126)))) ?_
    refine Rn.aload_n dX11_back_35 rfl ?_
    refine Rn.getR dX11_back_36 fX11_66 rfl (xc0 hXN1) (show N1.2.2 0 12 = some 134 from (xp0_12 hXN1)) ?_
    refine Rn.callV0 dX11_back_39 vX11_110 (xc134 hXN1) (by decide) rfl (tX1_clear (M := sI N1 126 (pre 60 (N1.1 127) (N1.1 126))) (a := 134) (xDeeds (M := sI N1 126 (pre 60 (N1.1 127) (N1.1 126))) hXN1)) (by decide) ⟨(Nat.le_of_ble_eq_true rfl), (Nat.le_of_ble_eq_true rfl), (Nat.le_of_ble_eq_true rfl)⟩ (fun h => by cases h) (fun v1 ly1 M1 ⟨q1, q2, q3⟩ => ?_)
    rw [q1, q2, q3]
    show Rn G l mX11_back (4, 0, 0, false) 42 [some (.ref 0)] [] ly (sI (sI N1 126 (pre 60 (N1.1 127) (N1.1 126))) 134 (upd (N1.1 134) 0 0)) Q
    refine Rn.aload_n dX11_back_42 rfl ?_
    refine Rn.getR dX11_back_43 fX11_39 rfl (xc0 hXN1) (show N1.2.2 0 5 = some 75 from (xp0_5 hXN1)) ?_
    refine Rn.getI dX11_back_46 fX11_227 rfl (xc75 hXN1) ?_
    refine Rn.topI (y := M.1 109 14) (hs1.1.2.2.2.2.2.2.1) ?_
    exact Rn.iret (ty := .int) dX11_back_49 rfl rfl (hQ.2 g0 _ rr1 (fun a h1 h2 h3 => (sI_ne h3).trans ((sI_ne h2).trans (fr1 a h1))) (by rw [show M.1 134 = N1.1 134 from (fr1 134 (by omega)).symm]; rfl) (fun j hj => (pre_lt hj).trans (congrFun (fr1 127 (by omega)) j)) hs1)
  · skip
    refine Rn.iconstv (v := -1) dX11_back_7 ic_m1 ?_
    exact Rn.iret (ty := .int) dX11_back_8 rfl rfl (hQ.1 g0)
def celF (M : Mm) (nw c : Nat) (y : Int32) : Int32 := if y = 0 then M.1 77 c else if y = 1 then M.1 78 c else if y = 2 then M.1 81 c else if y = 3 then M.1 82 c else if y = 4 then M.1 90 c else if y = 5 then (M.1 75 7 >>> (nI c &&& 31)) &&& 1 else if y = 6 then wkA (M.1 86) (M.1 84) (nI c) nw else -2147483648
theorem tX11_cell {G : Gx} {l : Launch} {ly : Ly} {M : Mm} {pl n nw nu nv : Nat} {x y : Int32} (hXS : XS ly M pl n nw nu nv) {Q : Qt} (hQ : (¬ (∃ j : Nat, j < n ∧ x = nI j) → Q (some (.int (-2147483648))) ly M) ∧ (∀ c : Nat, c < n → x = nI c → Q (some (.int (celF M nw c y))) ly M)) : Mt G l mX11_cell (2, 0, 0, false) [.ref 0, .int x, .int y] ly M Q := by
  have hXS0 := hXS
  obtain ⟨hX, hpl, hp7, ⟨n0, n1, n2, n3⟩, ⟨hn, hn2, hn12⟩, ⟨hw1, hw2, hw6⟩, ⟨hu1, hu2, hv1, hv2⟩, hgl, hbb⟩ := hXS
  refine Mt.of (lv := [some (.ref 0), some (.int x), some (.int y)]) rfl ?_
  refine Rn.aload_n dX11_cell_0 rfl ?_
  refine Rn.iload_n dX11_cell_1 rfl ?_
  refine Rn.callV1 dX11_cell_2 vX11_159 (xc0 hX) (by decide) rfl (tX11_isCell hX hpl hp7) (by decide) ⟨(Nat.le_of_ble_eq_true rfl), (Nat.le_of_ble_eq_true rfl), (Nat.le_of_ble_eq_true rfl)⟩ (fun h => by cases h) (fun v1 ly1 M1 ⟨q1, q2, q3⟩ => ?_)
  rw [q1, q2, q3]
  refine Rn.topI (y := inN x (nI n)) (by rw [hn]) ?_
  refine Rn.if_ne dX11_cell_5 (fun g1 => ?_) (fun g1 => ?_)
  · skip
    obtain ⟨c, hc, rfl⟩ : ∃ j : Nat, j < n ∧ x = nI j := (inN_1 (x := x) (k := n) (lt31c hn12)).elim (fun k => absurd k.1 g1) (fun k => k.2)
    have hR := hQ.2 c hc rfl
    clear hQ
    refine Rn.iload_n dX11_cell_11 rfl ?_
    by_cases c0 : y = 0
    · subst c0
      refine Rn.tableIn (off := 44) (tgt := 56) dX11_cell_12 (by decide) (by decide) (by decide) (by decide) ?_
      refine Rn.aload_n dX11_cell_56 rfl ?_
      refine Rn.getR dX11_cell_57 fX11_39 rfl (xc0 hX) (show M.2.2 0 5 = some 75 from (xp0_5 hX)) ?_
      refine Rn.getR dX11_cell_60 fX11_165 rfl (xc75 hX) (show M.2.2 75 5 = some 76 from (xp75_5 hX)) ?_
      refine Rn.getR dX11_cell_63 fX11_169 rfl (xc76 hX) (show M.2.2 76 0 = some 77 from (xp76_0 hX)) ?_
      refine Rn.iload_n dX11_cell_66 rfl ?_
      refine Rn.ialdN (k0 := c) dX11_cell_67 (xc77 hX) (by omega) (by decide) ?_
      exact Rn.iret (ty := .int) dX11_cell_68 rfl rfl hR
    · skip
      by_cases c1 : y = 1
      · subst c1
        refine Rn.tableIn (off := 57) (tgt := 69) dX11_cell_12 (by decide) (by decide) (by decide) (by decide) ?_
        refine Rn.aload_n dX11_cell_69 rfl ?_
        refine Rn.getR dX11_cell_70 fX11_39 rfl (xc0 hX) (show M.2.2 0 5 = some 75 from (xp0_5 hX)) ?_
        refine Rn.getR dX11_cell_73 fX11_165 rfl (xc75 hX) (show M.2.2 75 5 = some 76 from (xp75_5 hX)) ?_
        refine Rn.getR dX11_cell_76 fX11_174 rfl (xc76 hX) (show M.2.2 76 1 = some 78 from (xp76_1 hX)) ?_
        refine Rn.iload_n dX11_cell_79 rfl ?_
        refine Rn.ialdN (k0 := c) dX11_cell_80 (xc78 hX) (by omega) (by decide) ?_
        exact Rn.iret (ty := .int) dX11_cell_81 rfl rfl hR
      · skip
        by_cases c2 : y = 2
        · subst c2
          refine Rn.tableIn (off := 70) (tgt := 82) dX11_cell_12 (by decide) (by decide) (by decide) (by decide) ?_
          refine Rn.aload_n dX11_cell_82 rfl ?_
          refine Rn.getR dX11_cell_83 fX11_39 rfl (xc0 hX) (show M.2.2 0 5 = some 75 from (xp0_5 hX)) ?_
          refine Rn.getR dX11_cell_86 fX11_177 rfl (xc75 hX) (show M.2.2 75 6 = some 80 from (xp75_6 hX)) ?_
          refine Rn.getR dX11_cell_89 fX11_169 rfl (xc80 hX) (show M.2.2 80 0 = some 81 from (xp80_0 hX)) ?_
          refine Rn.iload_n dX11_cell_92 rfl ?_
          refine Rn.ialdN (k0 := c) dX11_cell_93 (xc81 hX) (by omega) (by decide) ?_
          exact Rn.iret (ty := .int) dX11_cell_94 rfl rfl hR
        · skip
          by_cases c3 : y = 3
          · subst c3
            refine Rn.tableIn (off := 83) (tgt := 95) dX11_cell_12 (by decide) (by decide) (by decide) (by decide) ?_
            refine Rn.aload_n dX11_cell_95 rfl ?_
            refine Rn.getR dX11_cell_96 fX11_39 rfl (xc0 hX) (show M.2.2 0 5 = some 75 from (xp0_5 hX)) ?_
            refine Rn.getR dX11_cell_99 fX11_177 rfl (xc75 hX) (show M.2.2 75 6 = some 80 from (xp75_6 hX)) ?_
            refine Rn.getR dX11_cell_102 fX11_174 rfl (xc80 hX) (show M.2.2 80 1 = some 82 from (xp80_1 hX)) ?_
            refine Rn.iload_n dX11_cell_105 rfl ?_
            refine Rn.ialdN (k0 := c) dX11_cell_106 (xc82 hX) (by omega) (by decide) ?_
            exact Rn.iret (ty := .int) dX11_cell_107 rfl rfl hR
          · skip
            by_cases c4 : y = 4
            · subst c4
              refine Rn.tableIn (off := 96) (tgt := 108) dX11_cell_12 (by decide) (by decide) (by decide) (by decide) ?_
              refine Rn.aload_n dX11_cell_108 rfl ?_
              refine Rn.getR dX11_cell_109 fX11_39 rfl (xc0 hX) (show M.2.2 0 5 = some 75 from (xp0_5 hX)) ?_
              refine Rn.getR dX11_cell_112 fX11_180 rfl (xc75 hX) (show M.2.2 75 12 = some 90 from (xp75_12 hX)) ?_
              refine Rn.iload_n dX11_cell_115 rfl ?_
              refine Rn.ialdN (k0 := c) dX11_cell_116 (xc90 hX) (by omega) (by decide) ?_
              exact Rn.iret (ty := .int) dX11_cell_117 rfl rfl hR
            · skip
              by_cases c5 : y = 5
              · subst c5
                refine Rn.tableIn (off := 106) (tgt := 118) dX11_cell_12 (by decide) (by decide) (by decide) (by decide) ?_
                refine Rn.aload_n dX11_cell_118 rfl ?_
                refine Rn.getR dX11_cell_119 fX11_39 rfl (xc0 hX) (show M.2.2 0 5 = some 75 from (xp0_5 hX)) ?_
                refine Rn.getI dX11_cell_122 fX11_183 rfl (xc75 hX) ?_
                refine Rn.iload_n dX11_cell_125 rfl ?_
                refine Rn.ishr dX11_cell_126 ?_
                refine Rn.iconstv (v := 1) dX11_cell_127 ic_1 ?_
                refine Rn.iand dX11_cell_128 ?_
                exact Rn.iret (ty := .int) dX11_cell_129 rfl rfl hR
              · skip
                by_cases c6 : y = 6
                · subst c6
                  refine Rn.tableIn (off := 118) (tgt := 130) dX11_cell_12 (by decide) (by decide) (by decide) (by decide) ?_
                  refine Rn.aload_n dX11_cell_130 rfl ?_
                  refine Rn.getR dX11_cell_131 fX11_39 rfl (xc0 hX) (show M.2.2 0 5 = some 75 from (xp0_5 hX)) ?_
                  refine Rn.iload_n dX11_cell_134 rfl ?_
                  refine Rn.callV1 dX11_cell_135 vX11_186 (xc75 hX) (by decide) rfl (tX9_walkersAt (a := 75) (xScene75 hX) n1 (pc7 hX hp7) hw2 hw6) (by decide) ⟨(Nat.le_of_ble_eq_true rfl), (Nat.le_of_ble_eq_true rfl), (Nat.le_of_ble_eq_true rfl)⟩ (fun h => by cases h) (fun v1 ly1 M1 ⟨q1, q2, q3⟩ => ?_)
                  rw [q1, q2, q3]
                  exact Rn.iret (ty := .int) dX11_cell_138 rfl rfl hR
                · skip
                  have n0 : Int32.toInt y ≠ 0 := fun h => c0 (Int32.toInt_inj.mp (h.trans (by decide)))
                  have n1 : Int32.toInt y ≠ 1 := fun h => c1 (Int32.toInt_inj.mp (h.trans (by decide)))
                  have n2 : Int32.toInt y ≠ 2 := fun h => c2 (Int32.toInt_inj.mp (h.trans (by decide)))
                  have n3 : Int32.toInt y ≠ 3 := fun h => c3 (Int32.toInt_inj.mp (h.trans (by decide)))
                  have n4 : Int32.toInt y ≠ 4 := fun h => c4 (Int32.toInt_inj.mp (h.trans (by decide)))
                  have n5 : Int32.toInt y ≠ 5 := fun h => c5 (Int32.toInt_inj.mp (h.trans (by decide)))
                  have n6 : Int32.toInt y ≠ 6 := fun h => c6 (Int32.toInt_inj.mp (h.trans (by decide)))
                  refine Rn.tableOut (tgt := 139) dX11_cell_12 (by omega) (by decide) ?_
                  refine Rn.ldc dX11_cell_139 kX11_164 ?_
                  exact Rn.iret (ty := .int) dX11_cell_141 rfl rfl (by unfold celF at hR; rw [if_neg c0, if_neg c1, if_neg c2, if_neg c3, if_neg c4, if_neg c5, if_neg c6] at hR; exact hR)
  · skip
    refine Rn.ldc dX11_cell_8 kX11_164 ?_
    exact Rn.iret (ty := .int) dX11_cell_10 rfl rfl (hQ.1 (fun h => (inN_1 (x := x) (k := n) (lt31c hn12)).elim (fun k => k.2 h) (fun k => absurd (k.1.symm.trans g1) (by decide))))
def wasF (x t : Int32) (h : Nat → Int32) : Int32 := if x < 0 then -1 else if t ≤ x then -1 else if x < t - 60 then -1 else h (fmd x 60).toNatClampNeg
theorem fmd60 {k : Nat} (h : k < 2 ^ 31) : fmd (nI k) 60 = nI (k % 60) := by
  have e60 : (60 : Int32).toInt = 60 := by decide
  have e1 : nI k - nI k / 60 * 60 = nI (k % 60) := by
    have hd : nI k / 60 = nI (k / 60) := by
      apply Int32.toInt_inj.mp
      have ht : ((k : Int).tdiv 60) = ((k / 60 : Nat) : Int) := by rw [Int.tdiv_eq_ediv_of_nonneg (by omega)]; omega
      rw [Int32.toInt_div, nI_toInt h, nI_toInt (by omega), e60, ht, Int.bmod_eq_of_le (by omega) (by omega)]
    rw [hd]
    apply Int32.toInt_inj.mp
    rw [Int32.toInt_sub, Int32.toInt_mul, nI_toInt h, nI_toInt (by omega), nI_toInt (by omega), e60]
    have : (((k / 60 : Nat) : Int) * 60).bmod (2 ^ 32) = ((k / 60 : Nat) : Int) * 60 := Int.bmod_eq_of_le (by omega) (by omega)
    rw [this, Int.bmod_eq_of_le (by omega) (by omega)]
    omega
  unfold fmd
  rw [e1]
  by_cases hx : 0 ≤ nI k ^^^ 60
  · rw [if_pos hx]
  · exfalso
    apply hx
    rw [show (60 : Int32) = nI 60 from rfl]
    have : (nI k ^^^ nI 60) = nI (k ^^^ 60) := by
      apply Int32.toBitVec_inj.mp
      rw [Int32.toBitVec_xor]
      show BitVec.ofNat 32 k ^^^ BitVec.ofNat 32 60 = BitVec.ofNat 32 (k ^^^ 60)
      exact (BitVec.ofNat_xor).symm
    rw [this]
    exact nI_pos' (Nat.xor_lt_two_pow h (by decide))
theorem tX11_was {G : Gx} {l : Launch} {ly : Ly} {M : Mm} {pl n nw nu nv : Nat} {x : Int32} (hXS : XS ly M pl n nw nu nv) {Q : Qt} (hQ : Q (some (.int (wasF x (M.1 75 14) (M.1 126)))) ly M) : Mt G l mX11_was (3, 0, 0, false) [.ref 0, .int x] ly M Q := by
  have hXS0 := hXS
  obtain ⟨hX, hpl, hp7, ⟨n0, n1, n2, n3⟩, ⟨hn, hn2, hn12⟩, ⟨hw1, hw2, hw6⟩, ⟨hu1, hu2, hv1, hv2⟩, hgl, hbb⟩ := hXS
  refine Mt.of (lv := [some (.ref 0), some (.int x)]) rfl ?_
  unfold wasF at hQ
  refine Rn.iload_n dX11_was_0 rfl ?_
  refine Rn.if_lt dX11_was_1 (fun h1 => ?_) (fun h1 => ?_)
  · skip
    rw [if_pos h1] at hQ
    refine Rn.iconstv (v := -1) dX11_was_29 ic_m1 ?_
    exact Rn.iret (ty := .int) dX11_was_30 rfl rfl hQ
  · skip
    rw [if_neg h1] at hQ
    refine Rn.iload_n dX11_was_4 rfl ?_
    refine Rn.aload_n dX11_was_5 rfl ?_
    refine Rn.getR dX11_was_6 fX11_39 rfl (xc0 hX) (show M.2.2 0 5 = some 75 from (xp0_5 hX)) ?_
    refine Rn.getI dX11_was_9 fX11_227 rfl (xc75 hX) ?_
    refine Rn.icmp_ge dX11_was_12 (fun h2 => ?_) (fun h2 => ?_)
    · skip
      rw [if_pos h2] at hQ
      refine Rn.iconstv (v := -1) dX11_was_29 ic_m1 ?_
      exact Rn.iret (ty := .int) dX11_was_30 rfl rfl hQ
    · skip
      rw [if_neg h2] at hQ
      refine Rn.iload_n dX11_was_15 rfl ?_
      refine Rn.aload_n dX11_was_16 rfl ?_
      refine Rn.getR dX11_was_17 fX11_39 rfl (xc0 hX) (show M.2.2 0 5 = some 75 from (xp0_5 hX)) ?_
      refine Rn.getI dX11_was_20 fX11_227 rfl (xc75 hX) ?_
      refine Rn.bipushv (v := 60) dX11_was_23 bp_60 ?_
      refine Rn.isub dX11_was_25 ?_
      refine Rn.icmp_ge dX11_was_26 (fun h3 => ?_) (fun h3 => ?_)
      · skip
        rw [if_neg (Int32.not_lt.mpr h3)] at hQ
        obtain ⟨k, hk, rfl⟩ := nI_of h1
        rw [fmd60 hk, nI_clamp (by omega)] at hQ
        refine Rn.aload_n dX11_was_31 rfl ?_
        refine Rn.getR dX11_was_32 fX11_49 rfl (xc0 hX) (show M.2.2 0 9 = some 126 from (xp0_9 hX)) ?_
        refine Rn.iload_n dX11_was_35 rfl ?_
        refine Rn.callS1 dX11_was_36 vX11_248 (tX11_slotOf) (by decide) ⟨(Nat.le_of_ble_eq_true rfl), (Nat.le_of_ble_eq_true rfl), (Nat.le_of_ble_eq_true rfl)⟩ (fun h => by cases h) (fun v1 ly1 M1 ⟨q1, q2, q3⟩ => ?_)
        rw [q1, q2, q3]
        refine Rn.topI (y := nI (k % 60)) (fmd60 hk) ?_
        refine Rn.ialdN (k0 := (k % 60)) dX11_was_39 (xc126 hX) (by omega) (by decide) ?_
        exact Rn.iret (ty := .int) dX11_was_40 rfl rfl hQ
      · skip
        rw [if_pos (Int32.not_le.mp h3)] at hQ
        refine Rn.iconstv (v := -1) dX11_was_29 ic_m1 ?_
        exact Rn.iret (ty := .int) dX11_was_30 rfl rfl hQ
