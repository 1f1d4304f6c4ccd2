def zu (Z : Nat → Nat → Int32) (i j : Nat) (x : Int32) : Nat → Nat → Int32 := fun q => if q = i then upd (Z i) j x else Z q
theorem ctX0_init {G : Gx} {l : Launch} : CtC G l mX0_init 1 5 30 0 [.inr 0, .inl (0, 6), .inl (0, 6), .inl (0, 6), .inl (0, 6), .inl (0, 6)] 6 [(0, 5, 5), (0, 4, 4), (0, 3, 3), (0, 2, 2), (0, 1, 1)] (fun Y => Y = z0) := by
  intro l0 a M hl h1
  refine Mt.of (lv := [some (.ref (a + 0))]) rfl ?_
  have hZ := Zr.rf h1
  refine Rn.aload_n dX0_init_0 rfl ?_
  refine Rn.objInit dX0_init_1 jX0_3 jw_objInit ⟨(Nat.le_of_ble_eq_true rfl), (Nat.le_of_ble_eq_true rfl)⟩ ?_
  refine Rn.aload_n dX0_init_4 rfl ?_
  refine Rn.bipushv (v := 6) dX0_init_5 bp_6 ?_
  refine Rn.newaIZ (N0 := 6) (k := 1) (C := [.inr 0]) (C2 := [.inr 0, .inl (0, 6)]) (ca := 4) (sa := 24) dX0_init_7 rfl (by decide) hl rfl rfl hZ rfl (by decide) (fun N1 z1 => ?_)
  refine Rn.putZR (i := 0) (j := 1) (r := 1) dX0_init_9 fX0_9 rfl rfl rfl rfl (by decide +kernel) hl rfl z1 (by decide) (fun N2 z2 => ?_)
  refine Rn.aload_n dX0_init_12 rfl ?_
  refine Rn.bipushv (v := 6) dX0_init_13 bp_6 ?_
  refine Rn.newaIZ (N0 := 6) (k := 2) (C := [.inr 0, .inl (0, 6)]) (C2 := [.inr 0, .inl (0, 6), .inl (0, 6)]) (ca := 3) (sa := 18) dX0_init_15 rfl (by decide) hl rfl rfl z2 rfl (by decide) (fun N3 z3 => ?_)
  refine Rn.putZR (i := 0) (j := 2) (r := 2) dX0_init_17 fX0_15 rfl rfl rfl rfl (by decide +kernel) hl rfl z3 (by decide) (fun N4 z4 => ?_)
  refine Rn.aload_n dX0_init_20 rfl ?_
  refine Rn.bipushv (v := 6) dX0_init_21 bp_6 ?_
  refine Rn.newaIZ (N0 := 6) (k := 3) (C := [.inr 0, .inl (0, 6), .inl (0, 6)]) (C2 := [.inr 0, .inl (0, 6), .inl (0, 6), .inl (0, 6)]) (ca := 2) (sa := 12) dX0_init_23 rfl (by decide) hl rfl rfl z4 rfl (by decide) (fun N5 z5 => ?_)
  refine Rn.putZR (i := 0) (j := 3) (r := 3) dX0_init_25 fX0_18 rfl rfl rfl rfl (by decide +kernel) hl rfl z5 (by decide) (fun N6 z6 => ?_)
  refine Rn.aload_n dX0_init_28 rfl ?_
  refine Rn.bipushv (v := 6) dX0_init_29 bp_6 ?_
  refine Rn.newaIZ (N0 := 6) (k := 4) (C := [.inr 0, .inl (0, 6), .inl (0, 6), .inl (0, 6)]) (C2 := [.inr 0, .inl (0, 6), .inl (0, 6), .inl (0, 6), .inl (0, 6)]) (ca := 1) (sa := 6) dX0_init_31 rfl (by decide) hl rfl rfl z6 rfl (by decide) (fun N7 z7 => ?_)
  refine Rn.putZR (i := 0) (j := 4) (r := 4) dX0_init_33 fX0_21 rfl rfl rfl rfl (by decide +kernel) hl rfl z7 (by decide) (fun N8 z8 => ?_)
  refine Rn.aload_n dX0_init_36 rfl ?_
  refine Rn.bipushv (v := 6) dX0_init_37 bp_6 ?_
  refine Rn.newaIZ (N0 := 6) (k := 5) (C := [.inr 0, .inl (0, 6), .inl (0, 6), .inl (0, 6), .inl (0, 6)]) (C2 := [.inr 0, .inl (0, 6), .inl (0, 6), .inl (0, 6), .inl (0, 6), .inl (0, 6)]) (ca := 0) (sa := 0) dX0_init_39 rfl (by decide) hl rfl rfl z8 rfl (by decide) (fun N9 z9 => ?_)
  refine Rn.putZR (i := 0) (j := 5) (r := 5) dX0_init_41 fX0_24 rfl rfl rfl rfl (by decide +kernel) hl rfl z9 (by decide) (fun N10 z10 => ?_)
  exact Rn.vret dX0_init_44 rfl ⟨rfl, rfl, z0, z10, rfl⟩
theorem ctX1_init {G : Gx} {l : Launch} : CtC G l mX1_init 1 3 60 1 [.inr 1, .inl (0, 20), .inl (0, 20), .inl (0, 20)] 4 [(0, 3, 3), (0, 2, 2), (0, 1, 1)] (fun Y => Y = z0) := by
  intro l0 a M hl h1
  refine Mt.of (lv := [some (.ref (a + 0))]) rfl ?_
  have hZ := Zr.rf h1
  refine Rn.aload_n dX1_init_0 rfl ?_
  refine Rn.objInit dX1_init_1 jX1_3 jw_objInit ⟨(Nat.le_of_ble_eq_true rfl), (Nat.le_of_ble_eq_true rfl)⟩ ?_
  refine Rn.aload_n dX1_init_4 rfl ?_
  refine Rn.bipushv (v := 20) dX1_init_5 bp_20 ?_
  refine Rn.newaIZ (N0 := 20) (k := 1) (C := [.inr 1]) (C2 := [.inr 1, .inl (0, 20)]) (ca := 2) (sa := 40) dX1_init_7 rfl (by decide) hl rfl rfl hZ rfl (by decide) (fun N1 z1 => ?_)
  refine Rn.putZR (i := 0) (j := 1) (r := 1) dX1_init_9 fX1_9 rfl rfl rfl rfl (by decide +kernel) hl rfl z1 (by decide) (fun N2 z2 => ?_)
  refine Rn.aload_n dX1_init_12 rfl ?_
  refine Rn.bipushv (v := 20) dX1_init_13 bp_20 ?_
  refine Rn.newaIZ (N0 := 20) (k := 2) (C := [.inr 1, .inl (0, 20)]) (C2 := [.inr 1, .inl (0, 20), .inl (0, 20)]) (ca := 1) (sa := 20) dX1_init_15 rfl (by decide) hl rfl rfl z2 rfl (by decide) (fun N3 z3 => ?_)
  refine Rn.putZR (i := 0) (j := 2) (r := 2) dX1_init_17 fX1_15 rfl rfl rfl rfl (by decide +kernel) hl rfl z3 (by decide) (fun N4 z4 => ?_)
  refine Rn.aload_n dX1_init_20 rfl ?_
  refine Rn.bipushv (v := 20) dX1_init_21 bp_20 ?_
  refine Rn.newaIZ (N0 := 20) (k := 3) (C := [.inr 1, .inl (0, 20), .inl (0, 20)]) (C2 := [.inr 1, .inl (0, 20), .inl (0, 20), .inl (0, 20)]) (ca := 0) (sa := 0) dX1_init_23 rfl (by decide) hl rfl rfl z4 rfl (by decide) (fun N5 z5 => ?_)
  refine Rn.putZR (i := 0) (j := 3) (r := 3) dX1_init_25 fX1_18 rfl rfl rfl rfl (by decide +kernel) hl rfl z5 (by decide) (fun N6 z6 => ?_)
  exact Rn.vret dX1_init_28 rfl ⟨rfl, rfl, z0, z6, rfl⟩
theorem ctX2_init {G : Gx} {l : Launch} : CtC G l mX2_init 1 2 16 2 [.inr 2, .inl (0, 8), .inl (0, 8)] 3 [(0, 2, 2), (0, 1, 1)] (fun Y => Y = z0) := by
  intro l0 a M hl h1
  refine Mt.of (lv := [some (.ref (a + 0))]) rfl ?_
  have hZ := Zr.rf h1
  refine Rn.aload_n dX2_init_0 rfl ?_
  refine Rn.objInit dX2_init_1 jX2_3 jw_objInit ⟨(Nat.le_of_ble_eq_true rfl), (Nat.le_of_ble_eq_true rfl)⟩ ?_
  refine Rn.aload_n dX2_init_4 rfl ?_
  refine Rn.bipushv (v := 8) dX2_init_5 bp_8 ?_
  refine Rn.newaIZ (N0 := 8) (k := 1) (C := [.inr 2]) (C2 := [.inr 2, .inl (0, 8)]) (ca := 1) (sa := 8) dX2_init_7 rfl (by decide) hl rfl rfl hZ rfl (by decide) (fun N1 z1 => ?_)
  refine Rn.putZR (i := 0) (j := 1) (r := 1) dX2_init_9 fX2_9 rfl rfl rfl rfl (by decide +kernel) hl rfl z1 (by decide) (fun N2 z2 => ?_)
  refine Rn.aload_n dX2_init_12 rfl ?_
  refine Rn.bipushv (v := 8) dX2_init_13 bp_8 ?_
  refine Rn.newaIZ (N0 := 8) (k := 2) (C := [.inr 2, .inl (0, 8)]) (C2 := [.inr 2, .inl (0, 8), .inl (0, 8)]) (ca := 0) (sa := 0) dX2_init_15 rfl (by decide) hl rfl rfl z2 rfl (by decide) (fun N3 z3 => ?_)
  refine Rn.putZR (i := 0) (j := 2) (r := 2) dX2_init_17 fX2_15 rfl rfl rfl rfl (by decide +kernel) hl rfl z3 (by decide) (fun N4 z4 => ?_)
  exact Rn.vret dX2_init_20 rfl ⟨rfl, rfl, z0, z4, rfl⟩
theorem ctX4_init {G : Gx} {l : Launch} : CtC G l mX4_init 1 5 120 4 [.inr 4, .inl (0, 24), .inl (0, 24), .inl (0, 24), .inl (2, 24), .inl (0, 24)] 6 [(0, 6, 5), (0, 5, 4), (0, 4, 3), (0, 3, 2), (0, 2, 1)] (fun Y => Y = zu z0 0 1 (-1)) := by
  intro l0 a M hl h1
  refine Mt.of (lv := [some (.ref (a + 0))]) rfl ?_
  have hZ := Zr.rf h1
  refine Rn.aload_n dX4_init_0 rfl ?_
  refine Rn.objInit dX4_init_1 jX4_3 jw_objInit ⟨(Nat.le_of_ble_eq_true rfl), (Nat.le_of_ble_eq_true rfl)⟩ ?_
  refine Rn.aload_n dX4_init_4 rfl ?_
  refine Rn.iconstv (v := -1) dX4_init_5 ic_m1 ?_
  refine Rn.putZI (i := 0) (j := 1) (Y := zu z0 0 1 (-1)) dX4_init_6 fX4_9 rfl rfl rfl hl rfl hZ (by decide) rfl (by intro q h1 h2; unfold zu; rw [if_neg h2]) (fun N1 z1 => ?_)
  refine Rn.aload_n dX4_init_9 rfl ?_
  refine Rn.bipushv (v := 24) dX4_init_10 bp_24 ?_
  refine Rn.newaIZ (N0 := 24) (k := 1) (C := [.inr 4]) (C2 := [.inr 4, .inl (0, 24)]) (ca := 4) (sa := 96) dX4_init_12 rfl (by decide) hl rfl rfl z1 rfl (by decide) (fun N2 z2 => ?_)
  refine Rn.putZR (i := 0) (j := 2) (r := 1) dX4_init_14 fX4_15 rfl rfl rfl rfl (by decide +kernel) hl rfl z2 (by decide) (fun N3 z3 => ?_)
  refine Rn.aload_n dX4_init_17 rfl ?_
  refine Rn.bipushv (v := 24) dX4_init_18 bp_24 ?_
  refine Rn.newaIZ (N0 := 24) (k := 2) (C := [.inr 4, .inl (0, 24)]) (C2 := [.inr 4, .inl (0, 24), .inl (0, 24)]) (ca := 3) (sa := 72) dX4_init_20 rfl (by decide) hl rfl rfl z3 rfl (by decide) (fun N4 z4 => ?_)
  refine Rn.putZR (i := 0) (j := 3) (r := 2) dX4_init_22 fX4_19 rfl rfl rfl rfl (by decide +kernel) hl rfl z4 (by decide) (fun N5 z5 => ?_)
  refine Rn.aload_n dX4_init_25 rfl ?_
  refine Rn.bipushv (v := 24) dX4_init_26 bp_24 ?_
  refine Rn.newaIZ (N0 := 24) (k := 3) (C := [.inr 4, .inl (0, 24), .inl (0, 24)]) (C2 := [.inr 4, .inl (0, 24), .inl (0, 24), .inl (0, 24)]) (ca := 2) (sa := 48) dX4_init_28 rfl (by decide) hl rfl rfl z5 rfl (by decide) (fun N6 z6 => ?_)
  refine Rn.putZR (i := 0) (j := 4) (r := 3) dX4_init_30 fX4_22 rfl rfl rfl rfl (by decide +kernel) hl rfl z6 (by decide) (fun N7 z7 => ?_)
  refine Rn.aload_n dX4_init_33 rfl ?_
  refine Rn.bipushv (v := 24) dX4_init_34 bp_24 ?_
  refine Rn.newaZZ (N0 := 24) (k := 4) (C := [.inr 4, .inl (0, 24), .inl (0, 24), .inl (0, 24)]) (C2 := [.inr 4, .inl (0, 24), .inl (0, 24), .inl (0, 24), .inl (2, 24)]) (ca := 1) (sa := 24) dX4_init_36 rfl (by decide) hl rfl rfl z7 rfl (by decide) (fun N8 z8 => ?_)
  refine Rn.putZR (i := 0) (j := 5) (r := 4) dX4_init_38 fX4_25 rfl rfl rfl rfl (by decide +kernel) hl rfl z8 (by decide) (fun N9 z9 => ?_)
  refine Rn.aload_n dX4_init_41 rfl ?_
  refine Rn.bipushv (v := 24) dX4_init_42 bp_24 ?_
  refine Rn.newaIZ (N0 := 24) (k := 5) (C := [.inr 4, .inl (0, 24), .inl (0, 24), .inl (0, 24), .inl (2, 24)]) (C2 := [.inr 4, .inl (0, 24), .inl (0, 24), .inl (0, 24), .inl (2, 24), .inl (0, 24)]) (ca := 0) (sa := 0) dX4_init_44 rfl (by decide) hl rfl rfl z9 rfl (by decide) (fun N10 z10 => ?_)
  refine Rn.putZR (i := 0) (j := 6) (r := 5) dX4_init_46 fX4_29 rfl rfl rfl rfl (by decide +kernel) hl rfl z10 (by decide) (fun N11 z11 => ?_)
  exact Rn.vret dX4_init_49 rfl ⟨rfl, rfl, zu z0 0 1 (-1), z11, rfl⟩
theorem ctX5_init {G : Gx} {l : Launch} : CtC G l mX5_init 1 2 128 5 [.inr 5, .inl (0, 64), .inl (3, 64)] 3 [(0, 2, 2), (0, 1, 1)] (fun Y => Y = z0) := by
  intro l0 a M hl h1
  refine Mt.of (lv := [some (.ref (a + 0))]) rfl ?_
  have hZ := Zr.rf h1
  refine Rn.aload_n dX5_init_0 rfl ?_
  refine Rn.objInit dX5_init_1 jX5_3 jw_objInit ⟨(Nat.le_of_ble_eq_true rfl), (Nat.le_of_ble_eq_true rfl)⟩ ?_
  refine Rn.aload_n dX5_init_4 rfl ?_
  refine Rn.bipushv (v := 64) dX5_init_5 bp_64 ?_
  refine Rn.newaIZ (N0 := 64) (k := 1) (C := [.inr 5]) (C2 := [.inr 5, .inl (0, 64)]) (ca := 1) (sa := 64) dX5_init_7 rfl (by decide) hl rfl rfl hZ rfl (by decide) (fun N1 z1 => ?_)
  refine Rn.putZR (i := 0) (j := 1) (r := 1) dX5_init_9 fX5_9 rfl rfl rfl rfl (by decide +kernel) hl rfl z1 (by decide) (fun N2 z2 => ?_)
  refine Rn.aload_n dX5_init_12 rfl ?_
  refine Rn.bipushv (v := 64) dX5_init_13 bp_64 ?_
  refine Rn.newaJZ (N0 := 64) (k := 2) (C := [.inr 5, .inl (0, 64)]) (C2 := [.inr 5, .inl (0, 64), .inl (3, 64)]) (ca := 0) (sa := 0) dX5_init_15 rfl (by decide) hl rfl rfl z2 rfl (by decide) (fun N3 z3 => ?_)
  refine Rn.putZR (i := 0) (j := 2) (r := 2) dX5_init_17 fX5_15 rfl rfl rfl rfl (by decide +kernel) hl rfl z3 (by decide) (fun N4 z4 => ?_)
  exact Rn.vret dX5_init_20 rfl ⟨rfl, rfl, z0, z4, rfl⟩
theorem ctX10_init {G : Gx} {l : Launch} : CtC G l mX10_init 1 3 36 10 [.inr 10, .inl (0, 12), .inl (0, 12), .inl (0, 12)] 4 [(0, 2, 3), (0, 1, 2), (0, 0, 1)] (fun Y => Y = z0) := by
  intro l0 a M hl h1
  refine Mt.of (lv := [some (.ref (a + 0))]) rfl ?_
  have hZ := Zr.rf h1
  refine Rn.aload_n dX10_init_0 rfl ?_
  refine Rn.objInit dX10_init_1 jX10_3 jw_objInit ⟨(Nat.le_of_ble_eq_true rfl), (Nat.le_of_ble_eq_true rfl)⟩ ?_
  refine Rn.aload_n dX10_init_4 rfl ?_
  refine Rn.bipushv (v := 12) dX10_init_5 bp_12 ?_
  refine Rn.newaIZ (N0 := 12) (k := 1) (C := [.inr 10]) (C2 := [.inr 10, .inl (0, 12)]) (ca := 2) (sa := 24) dX10_init_7 rfl (by decide) hl rfl rfl hZ rfl (by decide) (fun N1 z1 => ?_)
  refine Rn.putZR (i := 0) (j := 0) (r := 1) dX10_init_9 fX10_9 rfl rfl rfl rfl (by decide +kernel) hl rfl z1 (by decide) (fun N2 z2 => ?_)
  refine Rn.aload_n dX10_init_12 rfl ?_
  refine Rn.bipushv (v := 12) dX10_init_13 bp_12 ?_
  refine Rn.newaIZ (N0 := 12) (k := 2) (C := [.inr 10, .inl (0, 12)]) (C2 := [.inr 10, .inl (0, 12), .inl (0, 12)]) (ca := 1) (sa := 12) dX10_init_15 rfl (by decide) hl rfl rfl z2 rfl (by decide) (fun N3 z3 => ?_)
  refine Rn.putZR (i := 0) (j := 1) (r := 2) dX10_init_17 fX10_15 rfl rfl rfl rfl (by decide +kernel) hl rfl z3 (by decide) (fun N4 z4 => ?_)
  refine Rn.aload_n dX10_init_20 rfl ?_
  refine Rn.bipushv (v := 12) dX10_init_21 bp_12 ?_
  refine Rn.newaIZ (N0 := 12) (k := 3) (C := [.inr 10, .inl (0, 12), .inl (0, 12)]) (C2 := [.inr 10, .inl (0, 12), .inl (0, 12), .inl (0, 12)]) (ca := 0) (sa := 0) dX10_init_23 rfl (by decide) hl rfl rfl z4 rfl (by decide) (fun N5 z5 => ?_)
  refine Rn.putZR (i := 0) (j := 2) (r := 3) dX10_init_25 fX10_18 rfl rfl rfl rfl (by decide +kernel) hl rfl z5 (by decide) (fun N6 z6 => ?_)
  exact Rn.vret dX10_init_28 rfl ⟨rfl, rfl, z0, z6, rfl⟩
