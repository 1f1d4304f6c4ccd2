def plLy : Ly := [.inr 7, .inl (0, 4), .inl (4, 4), .inl (0, 6), .inl (0, 6), .inl (0, 6), .inl (0, 6), .inr 0, .inl (0, 6), .inl (0, 6), .inl (0, 6), .inl (0, 6), .inl (0, 6), .inr 2, .inl (0, 8), .inl (0, 8), .inl (0, 4), .inl (0, 4), .inr 5, .inl (0, 64), .inl (3, 64), .inr 5, .inl (0, 64), .inl (3, 64), .inl (5, 3), .inr 5, .inl (0, 64), .inl (3, 64), .inr 5, .inl (0, 64), .inl (3, 64), .inr 5, .inl (0, 64), .inl (3, 64)]
def plFin : List (Nat × Nat × Nat) := [(2, 0, 3), (2, 1, 4), (2, 2, 5), (2, 3, 6), (7, 1, 8), (7, 2, 9), (7, 3, 10), (7, 4, 11), (7, 5, 12), (13, 1, 14), (13, 2, 15), (18, 1, 19), (18, 2, 20), (21, 1, 22), (21, 2, 23), (25, 1, 26), (25, 2, 27), (24, 0, 25), (28, 1, 29), (28, 2, 30), (24, 1, 28), (31, 1, 32), (31, 2, 33), (24, 2, 31), (0, 9, 1), (0, 10, 2), (0, 11, 7), (0, 12, 13), (0, 13, 16), (0, 14, 17), (0, 15, 18), (0, 16, 21), (0, 17, 24)]
def PWd (ly : Ly) (R : Nat → Nat → Option Nat) (pl : Nat) : Prop := (∀ k, k < 34 → ly[pl + k]? = plLy[k]?) ∧ ∀ q ∈ plFin, R (pl + q.1) q.2.1 = some (pl + q.2.2)
theorem pcg0 {ly : Ly} {R : Nat → Nat → Option Nat} {pl : Nat} (h : PWd ly R pl) : ly[pl + 0]? = some (.inr 7) := h.1 0 (by decide)
theorem pcg1 {ly : Ly} {R : Nat → Nat → Option Nat} {pl : Nat} (h : PWd ly R pl) : ly[pl + 1]? = some (.inl (0, 4)) := h.1 1 (by decide)
theorem pcg2 {ly : Ly} {R : Nat → Nat → Option Nat} {pl : Nat} (h : PWd ly R pl) : ly[pl + 2]? = some (.inl (4, 4)) := h.1 2 (by decide)
theorem pcg3 {ly : Ly} {R : Nat → Nat → Option Nat} {pl : Nat} (h : PWd ly R pl) : ly[pl + 3]? = some (.inl (0, 6)) := h.1 3 (by decide)
theorem pcg4 {ly : Ly} {R : Nat → Nat → Option Nat} {pl : Nat} (h : PWd ly R pl) : ly[pl + 4]? = some (.inl (0, 6)) := h.1 4 (by decide)
theorem pcg5 {ly : Ly} {R : Nat → Nat → Option Nat} {pl : Nat} (h : PWd ly R pl) : ly[pl + 5]? = some (.inl (0, 6)) := h.1 5 (by decide)
theorem pcg6 {ly : Ly} {R : Nat → Nat → Option Nat} {pl : Nat} (h : PWd ly R pl) : ly[pl + 6]? = some (.inl (0, 6)) := h.1 6 (by decide)
theorem pcg7 {ly : Ly} {R : Nat → Nat → Option Nat} {pl : Nat} (h : PWd ly R pl) : ly[pl + 7]? = some (.inr 0) := h.1 7 (by decide)
theorem pcg8 {ly : Ly} {R : Nat → Nat → Option Nat} {pl : Nat} (h : PWd ly R pl) : ly[pl + 8]? = some (.inl (0, 6)) := h.1 8 (by decide)
theorem pcg9 {ly : Ly} {R : Nat → Nat → Option Nat} {pl : Nat} (h : PWd ly R pl) : ly[pl + 9]? = some (.inl (0, 6)) := h.1 9 (by decide)
theorem pcg10 {ly : Ly} {R : Nat → Nat → Option Nat} {pl : Nat} (h : PWd ly R pl) : ly[pl + 10]? = some (.inl (0, 6)) := h.1 10 (by decide)
theorem pcg11 {ly : Ly} {R : Nat → Nat → Option Nat} {pl : Nat} (h : PWd ly R pl) : ly[pl + 11]? = some (.inl (0, 6)) := h.1 11 (by decide)
theorem pcg12 {ly : Ly} {R : Nat → Nat → Option Nat} {pl : Nat} (h : PWd ly R pl) : ly[pl + 12]? = some (.inl (0, 6)) := h.1 12 (by decide)
theorem pcg13 {ly : Ly} {R : Nat → Nat → Option Nat} {pl : Nat} (h : PWd ly R pl) : ly[pl + 13]? = some (.inr 2) := h.1 13 (by decide)
theorem pcg14 {ly : Ly} {R : Nat → Nat → Option Nat} {pl : Nat} (h : PWd ly R pl) : ly[pl + 14]? = some (.inl (0, 8)) := h.1 14 (by decide)
theorem pcg15 {ly : Ly} {R : Nat → Nat → Option Nat} {pl : Nat} (h : PWd ly R pl) : ly[pl + 15]? = some (.inl (0, 8)) := h.1 15 (by decide)
theorem pcg16 {ly : Ly} {R : Nat → Nat → Option Nat} {pl : Nat} (h : PWd ly R pl) : ly[pl + 16]? = some (.inl (0, 4)) := h.1 16 (by decide)
theorem pcg17 {ly : Ly} {R : Nat → Nat → Option Nat} {pl : Nat} (h : PWd ly R pl) : ly[pl + 17]? = some (.inl (0, 4)) := h.1 17 (by decide)
theorem pcg18 {ly : Ly} {R : Nat → Nat → Option Nat} {pl : Nat} (h : PWd ly R pl) : ly[pl + 18]? = some (.inr 5) := h.1 18 (by decide)
theorem pcg19 {ly : Ly} {R : Nat → Nat → Option Nat} {pl : Nat} (h : PWd ly R pl) : ly[pl + 19]? = some (.inl (0, 64)) := h.1 19 (by decide)
theorem pcg20 {ly : Ly} {R : Nat → Nat → Option Nat} {pl : Nat} (h : PWd ly R pl) : ly[pl + 20]? = some (.inl (3, 64)) := h.1 20 (by decide)
theorem pcg21 {ly : Ly} {R : Nat → Nat → Option Nat} {pl : Nat} (h : PWd ly R pl) : ly[pl + 21]? = some (.inr 5) := h.1 21 (by decide)
theorem pcg22 {ly : Ly} {R : Nat → Nat → Option Nat} {pl : Nat} (h : PWd ly R pl) : ly[pl + 22]? = some (.inl (0, 64)) := h.1 22 (by decide)
theorem pcg23 {ly : Ly} {R : Nat → Nat → Option Nat} {pl : Nat} (h : PWd ly R pl) : ly[pl + 23]? = some (.inl (3, 64)) := h.1 23 (by decide)
theorem pcg24 {ly : Ly} {R : Nat → Nat → Option Nat} {pl : Nat} (h : PWd ly R pl) : ly[pl + 24]? = some (.inl (5, 3)) := h.1 24 (by decide)
theorem pcg25 {ly : Ly} {R : Nat → Nat → Option Nat} {pl : Nat} (h : PWd ly R pl) : ly[pl + 25]? = some (.inr 5) := h.1 25 (by decide)
theorem pcg26 {ly : Ly} {R : Nat → Nat → Option Nat} {pl : Nat} (h : PWd ly R pl) : ly[pl + 26]? = some (.inl (0, 64)) := h.1 26 (by decide)
theorem pcg27 {ly : Ly} {R : Nat → Nat → Option Nat} {pl : Nat} (h : PWd ly R pl) : ly[pl + 27]? = some (.inl (3, 64)) := h.1 27 (by decide)
theorem pcg28 {ly : Ly} {R : Nat → Nat → Option Nat} {pl : Nat} (h : PWd ly R pl) : ly[pl + 28]? = some (.inr 5) := h.1 28 (by decide)
theorem pcg29 {ly : Ly} {R : Nat → Nat → Option Nat} {pl : Nat} (h : PWd ly R pl) : ly[pl + 29]? = some (.inl (0, 64)) := h.1 29 (by decide)
theorem pcg30 {ly : Ly} {R : Nat → Nat → Option Nat} {pl : Nat} (h : PWd ly R pl) : ly[pl + 30]? = some (.inl (3, 64)) := h.1 30 (by decide)
theorem pcg31 {ly : Ly} {R : Nat → Nat → Option Nat} {pl : Nat} (h : PWd ly R pl) : ly[pl + 31]? = some (.inr 5) := h.1 31 (by decide)
theorem pcg32 {ly : Ly} {R : Nat → Nat → Option Nat} {pl : Nat} (h : PWd ly R pl) : ly[pl + 32]? = some (.inl (0, 64)) := h.1 32 (by decide)
theorem pcg33 {ly : Ly} {R : Nat → Nat → Option Nat} {pl : Nat} (h : PWd ly R pl) : ly[pl + 33]? = some (.inl (3, 64)) := h.1 33 (by decide)
theorem ppg2_0 {ly : Ly} {R : Nat → Nat → Option Nat} {pl : Nat} (h : PWd ly R pl) : R (pl + 2) 0 = some (pl + 3) := h.2 (2, 0, 3) (by decide)
theorem ppg2_1 {ly : Ly} {R : Nat → Nat → Option Nat} {pl : Nat} (h : PWd ly R pl) : R (pl + 2) 1 = some (pl + 4) := h.2 (2, 1, 4) (by decide)
theorem ppg2_2 {ly : Ly} {R : Nat → Nat → Option Nat} {pl : Nat} (h : PWd ly R pl) : R (pl + 2) 2 = some (pl + 5) := h.2 (2, 2, 5) (by decide)
theorem ppg2_3 {ly : Ly} {R : Nat → Nat → Option Nat} {pl : Nat} (h : PWd ly R pl) : R (pl + 2) 3 = some (pl + 6) := h.2 (2, 3, 6) (by decide)
theorem ppg7_1 {ly : Ly} {R : Nat → Nat → Option Nat} {pl : Nat} (h : PWd ly R pl) : R (pl + 7) 1 = some (pl + 8) := h.2 (7, 1, 8) (by decide)
theorem ppg7_2 {ly : Ly} {R : Nat → Nat → Option Nat} {pl : Nat} (h : PWd ly R pl) : R (pl + 7) 2 = some (pl + 9) := h.2 (7, 2, 9) (by decide)
theorem ppg7_3 {ly : Ly} {R : Nat → Nat → Option Nat} {pl : Nat} (h : PWd ly R pl) : R (pl + 7) 3 = some (pl + 10) := h.2 (7, 3, 10) (by decide)
theorem ppg7_4 {ly : Ly} {R : Nat → Nat → Option Nat} {pl : Nat} (h : PWd ly R pl) : R (pl + 7) 4 = some (pl + 11) := h.2 (7, 4, 11) (by decide)
theorem ppg7_5 {ly : Ly} {R : Nat → Nat → Option Nat} {pl : Nat} (h : PWd ly R pl) : R (pl + 7) 5 = some (pl + 12) := h.2 (7, 5, 12) (by decide)
theorem ppg13_1 {ly : Ly} {R : Nat → Nat → Option Nat} {pl : Nat} (h : PWd ly R pl) : R (pl + 13) 1 = some (pl + 14) := h.2 (13, 1, 14) (by decide)
theorem ppg13_2 {ly : Ly} {R : Nat → Nat → Option Nat} {pl : Nat} (h : PWd ly R pl) : R (pl + 13) 2 = some (pl + 15) := h.2 (13, 2, 15) (by decide)
theorem ppg18_1 {ly : Ly} {R : Nat → Nat → Option Nat} {pl : Nat} (h : PWd ly R pl) : R (pl + 18) 1 = some (pl + 19) := h.2 (18, 1, 19) (by decide)
theorem ppg18_2 {ly : Ly} {R : Nat → Nat → Option Nat} {pl : Nat} (h : PWd ly R pl) : R (pl + 18) 2 = some (pl + 20) := h.2 (18, 2, 20) (by decide)
theorem ppg21_1 {ly : Ly} {R : Nat → Nat → Option Nat} {pl : Nat} (h : PWd ly R pl) : R (pl + 21) 1 = some (pl + 22) := h.2 (21, 1, 22) (by decide)
theorem ppg21_2 {ly : Ly} {R : Nat → Nat → Option Nat} {pl : Nat} (h : PWd ly R pl) : R (pl + 21) 2 = some (pl + 23) := h.2 (21, 2, 23) (by decide)
theorem ppg25_1 {ly : Ly} {R : Nat → Nat → Option Nat} {pl : Nat} (h : PWd ly R pl) : R (pl + 25) 1 = some (pl + 26) := h.2 (25, 1, 26) (by decide)
theorem ppg25_2 {ly : Ly} {R : Nat → Nat → Option Nat} {pl : Nat} (h : PWd ly R pl) : R (pl + 25) 2 = some (pl + 27) := h.2 (25, 2, 27) (by decide)
theorem ppg24_0 {ly : Ly} {R : Nat → Nat → Option Nat} {pl : Nat} (h : PWd ly R pl) : R (pl + 24) 0 = some (pl + 25) := h.2 (24, 0, 25) (by decide)
theorem ppg28_1 {ly : Ly} {R : Nat → Nat → Option Nat} {pl : Nat} (h : PWd ly R pl) : R (pl + 28) 1 = some (pl + 29) := h.2 (28, 1, 29) (by decide)
theorem ppg28_2 {ly : Ly} {R : Nat → Nat → Option Nat} {pl : Nat} (h : PWd ly R pl) : R (pl + 28) 2 = some (pl + 30) := h.2 (28, 2, 30) (by decide)
theorem ppg24_1 {ly : Ly} {R : Nat → Nat → Option Nat} {pl : Nat} (h : PWd ly R pl) : R (pl + 24) 1 = some (pl + 28) := h.2 (24, 1, 28) (by decide)
theorem ppg31_1 {ly : Ly} {R : Nat → Nat → Option Nat} {pl : Nat} (h : PWd ly R pl) : R (pl + 31) 1 = some (pl + 32) := h.2 (31, 1, 32) (by decide)
theorem ppg31_2 {ly : Ly} {R : Nat → Nat → Option Nat} {pl : Nat} (h : PWd ly R pl) : R (pl + 31) 2 = some (pl + 33) := h.2 (31, 2, 33) (by decide)
theorem ppg24_2 {ly : Ly} {R : Nat → Nat → Option Nat} {pl : Nat} (h : PWd ly R pl) : R (pl + 24) 2 = some (pl + 31) := h.2 (24, 2, 31) (by decide)
theorem ppg0_9 {ly : Ly} {R : Nat → Nat → Option Nat} {pl : Nat} (h : PWd ly R pl) : R (pl + 0) 9 = some (pl + 1) := h.2 (0, 9, 1) (by decide)
theorem ppg0_10 {ly : Ly} {R : Nat → Nat → Option Nat} {pl : Nat} (h : PWd ly R pl) : R (pl + 0) 10 = some (pl + 2) := h.2 (0, 10, 2) (by decide)
theorem ppg0_11 {ly : Ly} {R : Nat → Nat → Option Nat} {pl : Nat} (h : PWd ly R pl) : R (pl + 0) 11 = some (pl + 7) := h.2 (0, 11, 7) (by decide)
theorem ppg0_12 {ly : Ly} {R : Nat → Nat → Option Nat} {pl : Nat} (h : PWd ly R pl) : R (pl + 0) 12 = some (pl + 13) := h.2 (0, 12, 13) (by decide)
theorem ppg0_13 {ly : Ly} {R : Nat → Nat → Option Nat} {pl : Nat} (h : PWd ly R pl) : R (pl + 0) 13 = some (pl + 16) := h.2 (0, 13, 16) (by decide)
theorem ppg0_14 {ly : Ly} {R : Nat → Nat → Option Nat} {pl : Nat} (h : PWd ly R pl) : R (pl + 0) 14 = some (pl + 17) := h.2 (0, 14, 17) (by decide)
theorem ppg0_15 {ly : Ly} {R : Nat → Nat → Option Nat} {pl : Nat} (h : PWd ly R pl) : R (pl + 0) 15 = some (pl + 18) := h.2 (0, 15, 18) (by decide)
theorem ppg0_16 {ly : Ly} {R : Nat → Nat → Option Nat} {pl : Nat} (h : PWd ly R pl) : R (pl + 0) 16 = some (pl + 21) := h.2 (0, 16, 21) (by decide)
theorem ppg0_17 {ly : Ly} {R : Nat → Nat → Option Nat} {pl : Nat} (h : PWd ly R pl) : R (pl + 0) 17 = some (pl + 24) := h.2 (0, 17, 24) (by decide)
theorem tX7_clearG {G : Gx} {l : Launch} {ly : Ly} {M : Mm} {pl : Nat} (hX : PWd ly M.2.2 pl) : Mt G l mX7_clear (2, 0, 0, false) [.ref pl] ly M (fun v ly2 K => v = none ∧ ly2 = ly ∧ K.2.2 = M.2.2 ∧ (∀ a, ¬ (pl ≤ a ∧ a ≤ pl + 33) → K.1 a = M.1 a) ∧ CPl K pl p0) := by
  refine Mt.of (lv := [some (.ref pl), none]) rfl ?_
  refine Rn.aload_n dX7_clear_0 rfl ?_
  refine Rn.bipushv (v := 8) dX7_clear_1 bp_8 ?_
  refine Rn.putI dX7_clear_3 fX7_57 rfl rfl rfl (pcg0 hX) ?_
  refine Rn.aload_n dX7_clear_6 rfl ?_
  refine Rn.iconstv (v := 4) dX7_clear_7 ic_4 ?_
  refine Rn.putI dX7_clear_8 fX7_61 rfl rfl rfl (pcg0 hX) ?_
  refine Rn.meq (M2 := sI M pl (upd (upd (M.1 pl) 0 8) 1 4)) ((congrArg (fun r9 => sI (sI M pl (upd (M.1 pl) 0 8)) pl (upd r9 1 4)) (sI_at _ _ _)).trans (sI_sI _ _ _ _)) ?_
  refine Rn.aload_n dX7_clear_11 rfl ?_
  refine Rn.iconstv (v := 4) dX7_clear_12 ic_4 ?_
  refine Rn.putI dX7_clear_13 fX7_64 rfl rfl rfl (pcg0 hX) ?_
  refine Rn.meq (M2 := sI M pl (upd (upd (upd (M.1 pl) 0 8) 1 4) 2 4)) ((congrArg (fun r9 => sI (sI M pl (upd (upd (M.1 pl) 0 8) 1 4)) pl (upd r9 2 4)) (sI_at _ _ _)).trans (sI_sI _ _ _ _)) ?_
  refine Rn.aload_n dX7_clear_16 rfl ?_
  refine Rn.iconstv (v := 5) dX7_clear_17 ic_5 ?_
  refine Rn.putI dX7_clear_18 fX7_67 rfl rfl rfl (pcg0 hX) ?_
  refine Rn.meq (M2 := sI M pl (upd (upd (upd (upd (M.1 pl) 0 8) 1 4) 2 4) 3 5)) ((congrArg (fun r9 => sI (sI M pl (upd (upd (upd (M.1 pl) 0 8) 1 4) 2 4)) pl (upd r9 3 5)) (sI_at _ _ _)).trans (sI_sI _ _ _ _)) ?_
  refine Rn.aload_n dX7_clear_21 rfl ?_
  refine Rn.iconstv (v := 0) dX7_clear_22 ic_0 ?_
  refine Rn.putI dX7_clear_23 fX7_70 rfl rfl rfl (pcg0 hX) ?_
  refine Rn.meq (M2 := sI M pl (upd (upd (upd (upd (upd (M.1 pl) 0 8) 1 4) 2 4) 3 5) 4 0)) ((congrArg (fun r9 => sI (sI M pl (upd (upd (upd (upd (M.1 pl) 0 8) 1 4) 2 4) 3 5)) pl (upd r9 4 0)) (sI_at _ _ _)).trans (sI_sI _ _ _ _)) ?_
  refine Rn.aload_n dX7_clear_26 rfl ?_
  refine Rn.iconstv (v := 0) dX7_clear_27 ic_0 ?_
  refine Rn.putI dX7_clear_28 fX7_73 rfl rfl rfl (pcg0 hX) ?_
  refine Rn.meq (M2 := sI M pl (upd (upd (upd (upd (upd (upd (M.1 pl) 0 8) 1 4) 2 4) 3 5) 4 0) 5 0)) ((congrArg (fun r9 => sI (sI M pl (upd (upd (upd (upd (upd (M.1 pl) 0 8) 1 4) 2 4) 3 5) 4 0)) pl (upd r9 5 0)) (sI_at _ _ _)).trans (sI_sI _ _ _ _)) ?_
  refine Rn.aload_n dX7_clear_31 rfl ?_
  refine Rn.iconstv (v := 0) dX7_clear_32 ic_0 ?_
  refine Rn.putI dX7_clear_33 fX7_76 rfl rfl rfl (pcg0 hX) ?_
  refine Rn.meq (M2 := sI M pl (upd (upd (upd (upd (upd (upd (upd (M.1 pl) 0 8) 1 4) 2 4) 3 5) 4 0) 5 0) 6 0)) ((congrArg (fun r9 => sI (sI M pl (upd (upd (upd (upd (upd (upd (M.1 pl) 0 8) 1 4) 2 4) 3 5) 4 0) 5 0)) pl (upd r9 6 0)) (sI_at _ _ _)).trans (sI_sI _ _ _ _)) ?_
  refine Rn.aload_n dX7_clear_36 rfl ?_
  refine Rn.iconstv (v := 0) dX7_clear_37 ic_0 ?_
  refine Rn.putI dX7_clear_38 fX7_79 rfl rfl rfl (pcg0 hX) ?_
  refine Rn.meq (M2 := sI M pl (upd (upd (upd (upd (upd (upd (upd (upd (M.1 pl) 0 8) 1 4) 2 4) 3 5) 4 0) 5 0) 6 0) 7 0)) ((congrArg (fun r9 => sI (sI M pl (upd (upd (upd (upd (upd (upd (upd (M.1 pl) 0 8) 1 4) 2 4) 3 5) 4 0) 5 0) 6 0)) pl (upd r9 7 0)) (sI_at _ _ _)).trans (sI_sI _ _ _ _)) ?_
  refine Rn.aload_n dX7_clear_41 rfl ?_
  refine Rn.iconstv (v := 0) dX7_clear_42 ic_0 ?_
  refine Rn.putI dX7_clear_43 fX7_82 rfl rfl rfl (pcg0 hX) ?_
  refine Rn.meq (M2 := sI M pl (upd (upd (upd (upd (upd (upd (upd (upd (upd (M.1 pl) 0 8) 1 4) 2 4) 3 5) 4 0) 5 0) 6 0) 7 0) 8 0)) ((congrArg (fun r9 => sI (sI M pl (upd (upd (upd (upd (upd (upd (upd (upd (M.1 pl) 0 8) 1 4) 2 4) 3 5) 4 0) 5 0) 6 0) 7 0)) pl (upd r9 8 0)) (sI_at _ _ _)).trans (sI_sI _ _ _ _)) ?_
  refine Rn.aload_n dX7_clear_46 rfl ?_
  refine Rn.getR dX7_clear_47 fX7_9 rfl (pcg0 hX) (show M.2.2 pl 9 = some (pl + 1) from (ppg0_9 hX)) ?_
  refine Rn.iconstv (v := 0) dX7_clear_50 ic_0 ?_
  refine Rn.callS2 dX7_clear_51 vX7_85 (tJ7_fill (M := sI M pl (upd (upd (upd (upd (upd (upd (upd (upd (upd (M.1 pl) 0 8) 1 4) 2 4) 3 5) 4 0) 5 0) 6 0) 7 0) 8 0)) (a := pl + 1) (N := 4) (v := 0) (pcg1 hX) (by decide)) (by decide) ⟨(Nat.le_of_ble_eq_true rfl), (Nat.le_of_ble_eq_true rfl), (Nat.le_of_ble_eq_true rfl)⟩ (fun h => by cases h) (fun v1 ly1 M1 ⟨q1, q2, q3⟩ => ?_)
  rw [q1, q2, q3]
  refine Rn.meq (M2 := sI (sI M pl (upd (upd (upd (upd (upd (upd (upd (upd (upd (M.1 pl) 0 8) 1 4) 2 4) 3 5) 4 0) 5 0) 6 0) 7 0) 8 0)) (pl + 1) (pre 4 (fun _ => 0) (M.1 (pl + 1)))) (congrArg (fun r9 => sI (sI M pl (upd (upd (upd (upd (upd (upd (upd (upd (upd (M.1 pl) 0 8) 1 4) 2 4) 3 5) 4 0) 5 0) 6 0) 7 0) 8 0)) (pl + 1) (pre 4 (fun _ => 0) r9)) (sI_ne (by omega))) ?_
  refine Rn.aload_n dX7_clear_54 rfl ?_
  refine Rn.getR dX7_clear_55 fX7_23 rfl (pcg0 hX) (show M.2.2 pl 11 = some (pl + 7) from (ppg0_11 hX)) ?_
  refine Rn.iconstv (v := 0) dX7_clear_58 ic_0 ?_
  refine Rn.putI dX7_clear_59 fX7_91 rfl rfl rfl (pcg7 hX) ?_
  refine Rn.meq (M2 := sI (sI (sI M pl (upd (upd (upd (upd (upd (upd (upd (upd (upd (M.1 pl) 0 8) 1 4) 2 4) 3 5) 4 0) 5 0) 6 0) 7 0) 8 0)) (pl + 1) (pre 4 (fun _ => 0) (M.1 (pl + 1)))) (pl + 7) (upd (M.1 (pl + 7)) 0 0)) (congrArg (fun r9 => sI (sI (sI M pl (upd (upd (upd (upd (upd (upd (upd (upd (upd (M.1 pl) 0 8) 1 4) 2 4) 3 5) 4 0) 5 0) 6 0) 7 0) 8 0)) (pl + 1) (pre 4 (fun _ => 0) (M.1 (pl + 1)))) (pl + 7) (upd r9 0 0)) ((sI_ne (show pl + 7 ≠ pl + 1 by omega)).trans (sI_ne (show pl + 7 ≠ pl by omega)))) ?_
  refine Rn.aload_n dX7_clear_62 rfl ?_
  refine Rn.getR dX7_clear_63 fX7_30 rfl (pcg0 hX) (show M.2.2 pl 12 = some (pl + 13) from (ppg0_12 hX)) ?_
  refine Rn.iconstv (v := 0) dX7_clear_66 ic_0 ?_
  refine Rn.putI dX7_clear_67 fX7_94 rfl rfl rfl (pcg13 hX) ?_
  refine Rn.meq (M2 := sI (sI (sI (sI M pl (upd (upd (upd (upd (upd (upd (upd (upd (upd (M.1 pl) 0 8) 1 4) 2 4) 3 5) 4 0) 5 0) 6 0) 7 0) 8 0)) (pl + 1) (pre 4 (fun _ => 0) (M.1 (pl + 1)))) (pl + 7) (upd (M.1 (pl + 7)) 0 0)) (pl + 13) (upd (M.1 (pl + 13)) 0 0)) (congrArg (fun r9 => sI (sI (sI (sI M pl (upd (upd (upd (upd (upd (upd (upd (upd (upd (M.1 pl) 0 8) 1 4) 2 4) 3 5) 4 0) 5 0) 6 0) 7 0) 8 0)) (pl + 1) (pre 4 (fun _ => 0) (M.1 (pl + 1)))) (pl + 7) (upd (M.1 (pl + 7)) 0 0)) (pl + 13) (upd r9 0 0)) ((sI_ne (show pl + 13 ≠ pl + 7 by omega)).trans ((sI_ne (show pl + 13 ≠ pl + 1 by omega)).trans (sI_ne (show pl + 13 ≠ pl by omega))))) ?_
  refine Rn.aload_n dX7_clear_70 rfl ?_
  refine Rn.getR dX7_clear_71 fX7_43 rfl (pcg0 hX) (show M.2.2 pl 15 = some (pl + 18) from (ppg0_15 hX)) ?_
  refine Rn.iconstv (v := 0) dX7_clear_74 ic_0 ?_
  refine Rn.putI dX7_clear_75 fX7_95 rfl rfl rfl (pcg18 hX) ?_
  refine Rn.meq (M2 := sI (sI (sI (sI (sI M pl (upd (upd (upd (upd (upd (upd (upd (upd (upd (M.1 pl) 0 8) 1 4) 2 4) 3 5) 4 0) 5 0) 6 0) 7 0) 8 0)) (pl + 1) (pre 4 (fun _ => 0) (M.1 (pl + 1)))) (pl + 7) (upd (M.1 (pl + 7)) 0 0)) (pl + 13) (upd (M.1 (pl + 13)) 0 0)) (pl + 18) (upd (M.1 (pl + 18)) 0 0)) (congrArg (fun r9 => sI (sI (sI (sI (sI M pl (upd (upd (upd (upd (upd (upd (upd (upd (upd (M.1 pl) 0 8) 1 4) 2 4) 3 5) 4 0) 5 0) 6 0) 7 0) 8 0)) (pl + 1) (pre 4 (fun _ => 0) (M.1 (pl + 1)))) (pl + 7) (upd (M.1 (pl + 7)) 0 0)) (pl + 13) (upd (M.1 (pl + 13)) 0 0)) (pl + 18) (upd r9 0 0)) ((sI_ne (show pl + 18 ≠ pl + 13 by omega)).trans ((sI_ne (show pl + 18 ≠ pl + 7 by omega)).trans ((sI_ne (show pl + 18 ≠ pl + 1 by omega)).trans (sI_ne (show pl + 18 ≠ pl by omega)))))) ?_
  refine Rn.aload_n dX7_clear_78 rfl ?_
  refine Rn.getR dX7_clear_79 fX7_47 rfl (pcg0 hX) (show M.2.2 pl 16 = some (pl + 21) from (ppg0_16 hX)) ?_
  refine Rn.iconstv (v := 0) dX7_clear_82 ic_0 ?_
  refine Rn.putI dX7_clear_83 fX7_95 rfl rfl rfl (pcg21 hX) ?_
  refine Rn.meq (M2 := sI (sI (sI (sI (sI (sI M pl (upd (upd (upd (upd (upd (upd (upd (upd (upd (M.1 pl) 0 8) 1 4) 2 4) 3 5) 4 0) 5 0) 6 0) 7 0) 8 0)) (pl + 1) (pre 4 (fun _ => 0) (M.1 (pl + 1)))) (pl + 7) (upd (M.1 (pl + 7)) 0 0)) (pl + 13) (upd (M.1 (pl + 13)) 0 0)) (pl + 18) (upd (M.1 (pl + 18)) 0 0)) (pl + 21) (upd (M.1 (pl + 21)) 0 0)) (congrArg (fun r9 => sI (sI (sI (sI (sI (sI M pl (upd (upd (upd (upd (upd (upd (upd (upd (upd (M.1 pl) 0 8) 1 4) 2 4) 3 5) 4 0) 5 0) 6 0) 7 0) 8 0)) (pl + 1) (pre 4 (fun _ => 0) (M.1 (pl + 1)))) (pl + 7) (upd (M.1 (pl + 7)) 0 0)) (pl + 13) (upd (M.1 (pl + 13)) 0 0)) (pl + 18) (upd (M.1 (pl + 18)) 0 0)) (pl + 21) (upd r9 0 0)) ((sI_ne (show pl + 21 ≠ pl + 18 by omega)).trans ((sI_ne (show pl + 21 ≠ pl + 13 by omega)).trans ((sI_ne (show pl + 21 ≠ pl + 7 by omega)).trans ((sI_ne (show pl + 21 ≠ pl + 1 by omega)).trans (sI_ne (show pl + 21 ≠ pl by omega))))))) ?_
  refine Rn.iconstv (v := 0) dX7_clear_86 ic_0 ?_
  refine Rn.istore_n (lv' := [some (.ref pl), some (.int 0)]) dX7_clear_87 (by decide) rfl ?_
  refine Rn.iload_n dX7_clear_88 rfl ?_
  refine Rn.iconstv (v := 3) dX7_clear_89 ic_3 ?_
  show Rn G l mX7_clear (2, 0, 0, false) 90 [some (.ref pl), some (.int 0)] [.int 3, .int 0] ly (sI (sI (sI (sI (sI (sI M pl (upd (upd (upd (upd (upd (upd (upd (upd (upd (M.1 pl) 0 8) 1 4) 2 4) 3 5) 4 0) 5 0) 6 0) 7 0) 8 0)) (pl + 1) (pre 4 (fun _ => 0) (M.1 (pl + 1)))) (pl + 7) (upd (M.1 (pl + 7)) 0 0)) (pl + 13) (upd (M.1 (pl + 13)) 0 0)) (pl + 18) (upd (M.1 (pl + 18)) 0 0)) (pl + 21) (upd (M.1 (pl + 21)) 0 0)) (fun v ly2 K => v = none ∧ ly2 = ly ∧ K.2.2 = M.2.2 ∧ (∀ a, ¬ (pl ≤ a ∧ a ≤ pl + 33) → K.1 a = M.1 a) ∧ CPl K pl p0)
  refine Rn.icmp_ge dX7_clear_90 (fun h9 => (by first | exact absurd h9 (by decide) | exact absurd (by decide) h9)) (fun h9 => ?_)
  refine Rn.aload_n dX7_clear_93 rfl ?_
  refine Rn.getR dX7_clear_94 fX7_50 rfl (pcg0 hX) (show M.2.2 pl 17 = some (pl + 24) from (ppg0_17 hX)) ?_
  refine Rn.iload_n dX7_clear_97 rfl ?_
  refine Rn.aldq (a2 := pl + 25) dX7_clear_98 (pcg24 hX) (by unfold vp_in; decide) (ppg24_0 hX) ?_
  refine Rn.iconstv (v := 0) dX7_clear_99 ic_0 ?_
  refine Rn.putI dX7_clear_100 fX7_95 rfl rfl rfl (pcg25 hX) ?_
  refine Rn.meq (M2 := sI (sI (sI (sI (sI (sI (sI M pl (upd (upd (upd (upd (upd (upd (upd (upd (upd (M.1 pl) 0 8) 1 4) 2 4) 3 5) 4 0) 5 0) 6 0) 7 0) 8 0)) (pl + 1) (pre 4 (fun _ => 0) (M.1 (pl + 1)))) (pl + 7) (upd (M.1 (pl + 7)) 0 0)) (pl + 13) (upd (M.1 (pl + 13)) 0 0)) (pl + 18) (upd (M.1 (pl + 18)) 0 0)) (pl + 21) (upd (M.1 (pl + 21)) 0 0)) (pl + 25) (upd (M.1 (pl + 25)) 0 0)) (congrArg (fun r9 => sI (sI (sI (sI (sI (sI (sI M pl (upd (upd (upd (upd (upd (upd (upd (upd (upd (M.1 pl) 0 8) 1 4) 2 4) 3 5) 4 0) 5 0) 6 0) 7 0) 8 0)) (pl + 1) (pre 4 (fun _ => 0) (M.1 (pl + 1)))) (pl + 7) (upd (M.1 (pl + 7)) 0 0)) (pl + 13) (upd (M.1 (pl + 13)) 0 0)) (pl + 18) (upd (M.1 (pl + 18)) 0 0)) (pl + 21) (upd (M.1 (pl + 21)) 0 0)) (pl + 25) (upd r9 0 0)) ((sI_ne (show pl + 25 ≠ pl + 21 by omega)).trans ((sI_ne (show pl + 25 ≠ pl + 18 by omega)).trans ((sI_ne (show pl + 25 ≠ pl + 13 by omega)).trans ((sI_ne (show pl + 25 ≠ pl + 7 by omega)).trans ((sI_ne (show pl + 25 ≠ pl + 1 by omega)).trans (sI_ne (show pl + 25 ≠ pl by omega)))))))) ?_
  refine Rn.iincv (j' := 1) (lv' := [some (.ref pl), some (.int (0 + 1))]) dX7_clear_103 rfl rfl (by decide) rfl ?_
  show Rn G l mX7_clear (2, 0, 0, false) 106 [some (.ref pl), some (.int 1)] [] ly (sI (sI (sI (sI (sI (sI (sI M pl (upd (upd (upd (upd (upd (upd (upd (upd (upd (M.1 pl) 0 8) 1 4) 2 4) 3 5) 4 0) 5 0) 6 0) 7 0) 8 0)) (pl + 1) (pre 4 (fun _ => 0) (M.1 (pl + 1)))) (pl + 7) (upd (M.1 (pl + 7)) 0 0)) (pl + 13) (upd (M.1 (pl + 13)) 0 0)) (pl + 18) (upd (M.1 (pl + 18)) 0 0)) (pl + 21) (upd (M.1 (pl + 21)) 0 0)) (pl + 25) (upd (M.1 (pl + 25)) 0 0)) (fun v ly2 K => v = none ∧ ly2 = ly ∧ K.2.2 = M.2.2 ∧ (∀ a, ¬ (pl ≤ a ∧ a ≤ pl + 33) → K.1 a = M.1 a) ∧ CPl K pl p0)
  refine Rn.goto dX7_clear_106 ?_
  refine Rn.iload_n dX7_clear_88 rfl ?_
  refine Rn.iconstv (v := 3) dX7_clear_89 ic_3 ?_
  show Rn G l mX7_clear (2, 0, 0, false) 90 [some (.ref pl), some (.int 1)] [.int 3, .int 1] ly (sI (sI (sI (sI (sI (sI (sI M pl (upd (upd (upd (upd (upd (upd (upd (upd (upd (M.1 pl) 0 8) 1 4) 2 4) 3 5) 4 0) 5 0) 6 0) 7 0) 8 0)) (pl + 1) (pre 4 (fun _ => 0) (M.1 (pl + 1)))) (pl + 7) (upd (M.1 (pl + 7)) 0 0)) (pl + 13) (upd (M.1 (pl + 13)) 0 0)) (pl + 18) (upd (M.1 (pl + 18)) 0 0)) (pl + 21) (upd (M.1 (pl + 21)) 0 0)) (pl + 25) (upd (M.1 (pl + 25)) 0 0)) (fun v ly2 K => v = none ∧ ly2 = ly ∧ K.2.2 = M.2.2 ∧ (∀ a, ¬ (pl ≤ a ∧ a ≤ pl + 33) → K.1 a = M.1 a) ∧ CPl K pl p0)
  refine Rn.icmp_ge dX7_clear_90 (fun h9 => (by first | exact absurd h9 (by decide) | exact absurd (by decide) h9)) (fun h9 => ?_)
  refine Rn.aload_n dX7_clear_93 rfl ?_
  refine Rn.getR dX7_clear_94 fX7_50 rfl (pcg0 hX) (show M.2.2 pl 17 = some (pl + 24) from (ppg0_17 hX)) ?_
  refine Rn.iload_n dX7_clear_97 rfl ?_
  refine Rn.aldq (a2 := pl + 28) dX7_clear_98 (pcg24 hX) (by unfold vp_in; decide) (ppg24_1 hX) ?_
  refine Rn.iconstv (v := 0) dX7_clear_99 ic_0 ?_
  refine Rn.putI dX7_clear_100 fX7_95 rfl rfl rfl (pcg28 hX) ?_
  refine Rn.meq (M2 := sI (sI (sI (sI (sI (sI (sI (sI M pl (upd (upd (upd (upd (upd (upd (upd (upd (upd (M.1 pl) 0 8) 1 4) 2 4) 3 5) 4 0) 5 0) 6 0) 7 0) 8 0)) (pl + 1) (pre 4 (fun _ => 0) (M.1 (pl + 1)))) (pl + 7) (upd (M.1 (pl + 7)) 0 0)) (pl + 13) (upd (M.1 (pl + 13)) 0 0)) (pl + 18) (upd (M.1 (pl + 18)) 0 0)) (pl + 21) (upd (M.1 (pl + 21)) 0 0)) (pl + 25) (upd (M.1 (pl + 25)) 0 0)) (pl + 28) (upd (M.1 (pl + 28)) 0 0)) (congrArg (fun r9 => sI (sI (sI (sI (sI (sI (sI (sI M pl (upd (upd (upd (upd (upd (upd (upd (upd (upd (M.1 pl) 0 8) 1 4) 2 4) 3 5) 4 0) 5 0) 6 0) 7 0) 8 0)) (pl + 1) (pre 4 (fun _ => 0) (M.1 (pl + 1)))) (pl + 7) (upd (M.1 (pl + 7)) 0 0)) (pl + 13) (upd (M.1 (pl + 13)) 0 0)) (pl + 18) (upd (M.1 (pl + 18)) 0 0)) (pl + 21) (upd (M.1 (pl + 21)) 0 0)) (pl + 25) (upd (M.1 (pl + 25)) 0 0)) (pl + 28) (upd r9 0 0)) ((sI_ne (show pl + 28 ≠ pl + 25 by omega)).trans ((sI_ne (show pl + 28 ≠ pl + 21 by omega)).trans ((sI_ne (show pl + 28 ≠ pl + 18 by omega)).trans ((sI_ne (show pl + 28 ≠ pl + 13 by omega)).trans ((sI_ne (show pl + 28 ≠ pl + 7 by omega)).trans ((sI_ne (show pl + 28 ≠ pl + 1 by omega)).trans (sI_ne (show pl + 28 ≠ pl by omega))))))))) ?_
  refine Rn.iincv (j' := 1) (lv' := [some (.ref pl), some (.int (1 + 1))]) dX7_clear_103 rfl rfl (by decide) rfl ?_
  show Rn G l mX7_clear (2, 0, 0, false) 106 [some (.ref pl), some (.int 2)] [] ly (sI (sI (sI (sI (sI (sI (sI (sI M pl (upd (upd (upd (upd (upd (upd (upd (upd (upd (M.1 pl) 0 8) 1 4) 2 4) 3 5) 4 0) 5 0) 6 0) 7 0) 8 0)) (pl + 1) (pre 4 (fun _ => 0) (M.1 (pl + 1)))) (pl + 7) (upd (M.1 (pl + 7)) 0 0)) (pl + 13) (upd (M.1 (pl + 13)) 0 0)) (pl + 18) (upd (M.1 (pl + 18)) 0 0)) (pl + 21) (upd (M.1 (pl + 21)) 0 0)) (pl + 25) (upd (M.1 (pl + 25)) 0 0)) (pl + 28) (upd (M.1 (pl + 28)) 0 0)) (fun v ly2 K => v = none ∧ ly2 = ly ∧ K.2.2 = M.2.2 ∧ (∀ a, ¬ (pl ≤ a ∧ a ≤ pl + 33) → K.1 a = M.1 a) ∧ CPl K pl p0)
  refine Rn.goto dX7_clear_106 ?_
  refine Rn.iload_n dX7_clear_88 rfl ?_
  refine Rn.iconstv (v := 3) dX7_clear_89 ic_3 ?_
  show Rn G l mX7_clear (2, 0, 0, false) 90 [some (.ref pl), some (.int 2)] [.int 3, .int 2] ly (sI (sI (sI (sI (sI (sI (sI (sI M pl (upd (upd (upd (upd (upd (upd (upd (upd (upd (M.1 pl) 0 8) 1 4) 2 4) 3 5) 4 0) 5 0) 6 0) 7 0) 8 0)) (pl + 1) (pre 4 (fun _ => 0) (M.1 (pl + 1)))) (pl + 7) (upd (M.1 (pl + 7)) 0 0)) (pl + 13) (upd (M.1 (pl + 13)) 0 0)) (pl + 18) (upd (M.1 (pl + 18)) 0 0)) (pl + 21) (upd (M.1 (pl + 21)) 0 0)) (pl + 25) (upd (M.1 (pl + 25)) 0 0)) (pl + 28) (upd (M.1 (pl + 28)) 0 0)) (fun v ly2 K => v = none ∧ ly2 = ly ∧ K.2.2 = M.2.2 ∧ (∀ a, ¬ (pl ≤ a ∧ a ≤ pl + 33) → K.1 a = M.1 a) ∧ CPl K pl p0)
  refine Rn.icmp_ge dX7_clear_90 (fun h9 => (by first | exact absurd h9 (by decide) | exact absurd (by decide) h9)) (fun h9 => ?_)
  refine Rn.aload_n dX7_clear_93 rfl ?_
  refine Rn.getR dX7_clear_94 fX7_50 rfl (pcg0 hX) (show M.2.2 pl 17 = some (pl + 24) from (ppg0_17 hX)) ?_
  refine Rn.iload_n dX7_clear_97 rfl ?_
  refine Rn.aldq (a2 := pl + 31) dX7_clear_98 (pcg24 hX) (by unfold vp_in; decide) (ppg24_2 hX) ?_
  refine Rn.iconstv (v := 0) dX7_clear_99 ic_0 ?_
  refine Rn.putI dX7_clear_100 fX7_95 rfl rfl rfl (pcg31 hX) ?_
  refine Rn.meq (M2 := sI (sI (sI (sI (sI (sI (sI (sI (sI M pl (upd (upd (upd (upd (upd (upd (upd (upd (upd (M.1 pl) 0 8) 1 4) 2 4) 3 5) 4 0) 5 0) 6 0) 7 0) 8 0)) (pl + 1) (pre 4 (fun _ => 0) (M.1 (pl + 1)))) (pl + 7) (upd (M.1 (pl + 7)) 0 0)) (pl + 13) (upd (M.1 (pl + 13)) 0 0)) (pl + 18) (upd (M.1 (pl + 18)) 0 0)) (pl + 21) (upd (M.1 (pl + 21)) 0 0)) (pl + 25) (upd (M.1 (pl + 25)) 0 0)) (pl + 28) (upd (M.1 (pl + 28)) 0 0)) (pl + 31) (upd (M.1 (pl + 31)) 0 0)) (congrArg (fun r9 => sI (sI (sI (sI (sI (sI (sI (sI (sI M pl (upd (upd (upd (upd (upd (upd (upd (upd (upd (M.1 pl) 0 8) 1 4) 2 4) 3 5) 4 0) 5 0) 6 0) 7 0) 8 0)) (pl + 1) (pre 4 (fun _ => 0) (M.1 (pl + 1)))) (pl + 7) (upd (M.1 (pl + 7)) 0 0)) (pl + 13) (upd (M.1 (pl + 13)) 0 0)) (pl + 18) (upd (M.1 (pl + 18)) 0 0)) (pl + 21) (upd (M.1 (pl + 21)) 0 0)) (pl + 25) (upd (M.1 (pl + 25)) 0 0)) (pl + 28) (upd (M.1 (pl + 28)) 0 0)) (pl + 31) (upd r9 0 0)) ((sI_ne (show pl + 31 ≠ pl + 28 by omega)).trans ((sI_ne (show pl + 31 ≠ pl + 25 by omega)).trans ((sI_ne (show pl + 31 ≠ pl + 21 by omega)).trans ((sI_ne (show pl + 31 ≠ pl + 18 by omega)).trans ((sI_ne (show pl + 31 ≠ pl + 13 by omega)).trans ((sI_ne (show pl + 31 ≠ pl + 7 by omega)).trans ((sI_ne (show pl + 31 ≠ pl + 1 by omega)).trans (sI_ne (show pl + 31 ≠ pl by omega)))))))))) ?_
  refine Rn.iincv (j' := 1) (lv' := [some (.ref pl), some (.int (2 + 1))]) dX7_clear_103 rfl rfl (by decide) rfl ?_
  show Rn G l mX7_clear (2, 0, 0, false) 106 [some (.ref pl), some (.int 3)] [] ly (sI (sI (sI (sI (sI (sI (sI (sI (sI M pl (upd (upd (upd (upd (upd (upd (upd (upd (upd (M.1 pl) 0 8) 1 4) 2 4) 3 5) 4 0) 5 0) 6 0) 7 0) 8 0)) (pl + 1) (pre 4 (fun _ => 0) (M.1 (pl + 1)))) (pl + 7) (upd (M.1 (pl + 7)) 0 0)) (pl + 13) (upd (M.1 (pl + 13)) 0 0)) (pl + 18) (upd (M.1 (pl + 18)) 0 0)) (pl + 21) (upd (M.1 (pl + 21)) 0 0)) (pl + 25) (upd (M.1 (pl + 25)) 0 0)) (pl + 28) (upd (M.1 (pl + 28)) 0 0)) (pl + 31) (upd (M.1 (pl + 31)) 0 0)) (fun v ly2 K => v = none ∧ ly2 = ly ∧ K.2.2 = M.2.2 ∧ (∀ a, ¬ (pl ≤ a ∧ a ≤ pl + 33) → K.1 a = M.1 a) ∧ CPl K pl p0)
  refine Rn.goto dX7_clear_106 ?_
  refine Rn.iload_n dX7_clear_88 rfl ?_
  refine Rn.iconstv (v := 3) dX7_clear_89 ic_3 ?_
  show Rn G l mX7_clear (2, 0, 0, false) 90 [some (.ref pl), some (.int 3)] [.int 3, .int 3] ly (sI (sI (sI (sI (sI (sI (sI (sI (sI M pl (upd (upd (upd (upd (upd (upd (upd (upd (upd (M.1 pl) 0 8) 1 4) 2 4) 3 5) 4 0) 5 0) 6 0) 7 0) 8 0)) (pl + 1) (pre 4 (fun _ => 0) (M.1 (pl + 1)))) (pl + 7) (upd (M.1 (pl + 7)) 0 0)) (pl + 13) (upd (M.1 (pl + 13)) 0 0)) (pl + 18) (upd (M.1 (pl + 18)) 0 0)) (pl + 21) (upd (M.1 (pl + 21)) 0 0)) (pl + 25) (upd (M.1 (pl + 25)) 0 0)) (pl + 28) (upd (M.1 (pl + 28)) 0 0)) (pl + 31) (upd (M.1 (pl + 31)) 0 0)) (fun v ly2 K => v = none ∧ ly2 = ly ∧ K.2.2 = M.2.2 ∧ (∀ a, ¬ (pl ≤ a ∧ a ≤ pl + 33) → K.1 a = M.1 a) ∧ CPl K pl p0)
  refine Rn.icmp_ge dX7_clear_90 (fun h9 => ?_) (fun h9 => (by first | exact absurd h9 (by decide) | exact absurd (by decide) h9))
  obtain ⟨K, e9⟩ : ∃ N9, N9 = sI (sI (sI (sI (sI (sI (sI (sI (sI M pl (upd (upd (upd (upd (upd (upd (upd (upd (upd (M.1 pl) 0 8) 1 4) 2 4) 3 5) 4 0) 5 0) 6 0) 7 0) 8 0)) (pl + 1) (pre 4 (fun _ => 0) (M.1 (pl + 1)))) (pl + 7) (upd (M.1 (pl + 7)) 0 0)) (pl + 13) (upd (M.1 (pl + 13)) 0 0)) (pl + 18) (upd (M.1 (pl + 18)) 0 0)) (pl + 21) (upd (M.1 (pl + 21)) 0 0)) (pl + 25) (upd (M.1 (pl + 25)) 0 0)) (pl + 28) (upd (M.1 (pl + 28)) 0 0)) (pl + 31) (upd (M.1 (pl + 31)) 0 0) := ⟨_, rfl⟩
  rw [← e9]
  have kr : K.2.2 = M.2.2 := by rw [e9]; rfl
  have ko : ∀ a, ¬ (pl ≤ a ∧ a ≤ pl + 33) → K.1 a = M.1 a := fun a ha => by rw [e9, sI_ne (show a ≠ pl + 31 by omega), sI_ne (show a ≠ pl + 28 by omega), sI_ne (show a ≠ pl + 25 by omega), sI_ne (show a ≠ pl + 21 by omega), sI_ne (show a ≠ pl + 18 by omega), sI_ne (show a ≠ pl + 13 by omega), sI_ne (show a ≠ pl + 7 by omega), sI_ne (show a ≠ pl + 1 by omega), sI_ne (show a ≠ pl by omega)]
  have kpl : K.1 (pl) = upd (upd (upd (upd (upd (upd (upd (upd (upd (M.1 pl) 0 8) 1 4) 2 4) 3 5) 4 0) 5 0) 6 0) 7 0) 8 0 := by rw [e9, sI_ne (show pl ≠ pl + 31 by omega), sI_ne (show pl ≠ pl + 28 by omega), sI_ne (show pl ≠ pl + 25 by omega), sI_ne (show pl ≠ pl + 21 by omega), sI_ne (show pl ≠ pl + 18 by omega), sI_ne (show pl ≠ pl + 13 by omega), sI_ne (show pl ≠ pl + 7 by omega), sI_ne (show pl ≠ pl + 1 by omega), sI_at]
  have kpl_1 : K.1 (pl + 1) = pre 4 (fun _ => 0) (M.1 (pl + 1)) := by rw [e9, sI_ne (show pl + 1 ≠ pl + 31 by omega), sI_ne (show pl + 1 ≠ pl + 28 by omega), sI_ne (show pl + 1 ≠ pl + 25 by omega), sI_ne (show pl + 1 ≠ pl + 21 by omega), sI_ne (show pl + 1 ≠ pl + 18 by omega), sI_ne (show pl + 1 ≠ pl + 13 by omega), sI_ne (show pl + 1 ≠ pl + 7 by omega), sI_at]
  have kpl_7 : K.1 (pl + 7) = upd (M.1 (pl + 7)) 0 0 := by rw [e9, sI_ne (show pl + 7 ≠ pl + 31 by omega), sI_ne (show pl + 7 ≠ pl + 28 by omega), sI_ne (show pl + 7 ≠ pl + 25 by omega), sI_ne (show pl + 7 ≠ pl + 21 by omega), sI_ne (show pl + 7 ≠ pl + 18 by omega), sI_ne (show pl + 7 ≠ pl + 13 by omega), sI_at]
  have kpl_13 : K.1 (pl + 13) = upd (M.1 (pl + 13)) 0 0 := by rw [e9, sI_ne (show pl + 13 ≠ pl + 31 by omega), sI_ne (show pl + 13 ≠ pl + 28 by omega), sI_ne (show pl + 13 ≠ pl + 25 by omega), sI_ne (show pl + 13 ≠ pl + 21 by omega), sI_ne (show pl + 13 ≠ pl + 18 by omega), sI_at]
  have kpl_18 : K.1 (pl + 18) = upd (M.1 (pl + 18)) 0 0 := by rw [e9, sI_ne (show pl + 18 ≠ pl + 31 by omega), sI_ne (show pl + 18 ≠ pl + 28 by omega), sI_ne (show pl + 18 ≠ pl + 25 by omega), sI_ne (show pl + 18 ≠ pl + 21 by omega), sI_at]
  have kpl_21 : K.1 (pl + 21) = upd (M.1 (pl + 21)) 0 0 := by rw [e9, sI_ne (show pl + 21 ≠ pl + 31 by omega), sI_ne (show pl + 21 ≠ pl + 28 by omega), sI_ne (show pl + 21 ≠ pl + 25 by omega), sI_at]
  have kpl_25 : K.1 (pl + 25) = upd (M.1 (pl + 25)) 0 0 := by rw [e9, sI_ne (show pl + 25 ≠ pl + 31 by omega), sI_ne (show pl + 25 ≠ pl + 28 by omega), sI_at]
  have kpl_28 : K.1 (pl + 28) = upd (M.1 (pl + 28)) 0 0 := by rw [e9, sI_ne (show pl + 28 ≠ pl + 31 by omega), sI_at]
  have kpl_31 : K.1 (pl + 31) = upd (M.1 (pl + 31)) 0 0 := by rw [e9, sI_at]
  clear e9
  refine Rn.vret dX7_clear_109 rfl ⟨rfl, rfl, kr, ko, ⟨?_, fun k hk => ?_, ⟨?_, ?_⟩, fun r _ _ j hj => absurd hj (Nat.not_lt_zero j), fun k hk => ?_⟩⟩
  · rw [kpl]; exact ⟨rfl, rfl, rfl, rfl, rfl, rfl, rfl, rfl, rfl⟩
  · rw [kpl_1]; exact if_pos hk
  · rw [kpl_7]; exact pk_us
  · rw [kpl_13]; exact pk_us
  · refine ⟨?_, trivial⟩
    match k, hk with
    | 0, _ => show K.1 (pl + 18) 0 = _; rw [kpl_18]; exact pk_us
    | 1, _ => show K.1 (pl + 21) 0 = _; rw [kpl_21]; exact pk_us
    | 2, _ => show K.1 (pl + 25) 0 = _; rw [kpl_25]; exact pk_us
    | 3, _ => show K.1 (pl + 28) 0 = _; rw [kpl_28]; exact pk_us
    | 4, _ => show K.1 (pl + 31) 0 = _; rw [kpl_31]; exact pk_us
