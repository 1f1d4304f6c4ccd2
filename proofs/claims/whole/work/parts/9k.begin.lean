theorem iSc75 {ly : Ly} {M : Mm} (h : XW ly M.2.2) : iScene ly M 75 := ⟨xc75 h, xc76 h, xc77 h, xc78 h, xc79 h, xc80 h, xc81 h, xc82 h, xc83 h, xc84 h, xc85 h, xc86 h, xc87 h, xc88 h, xc89 h, xc90 h, xc91 h, xp75_5 h, xp75_6 h, xp75_8 h, xp75_9 h, xp75_10 h, xp75_11 h, xp75_12 h, xp75_13 h, xp76_0 h, xp76_1 h, xp76_2 h, xp80_0 h, xp80_1 h, xp80_2 h, xp87_1 h, xp87_2 h⟩
/-- a plan has begun: what the class's rows are then -/
def bgC (M K : Mm) (pl nf : Nat) : Prop := K.2.2 = rSc M.2.2 75 pl (pl + 7) (pl + 18) (pl + 21) ∧ (∀ a, ¬ (a = 0 ∨ (75 ≤ a ∧ a ≤ 90) ∨ a = 128 ∨ a = 134) → K.1 a = M.1 a) ∧ (∀ j, j ≠ 8 → K.1 0 j = M.1 0 j) ∧ K.1 0 8 = 0 ∧ (K.1 75 4 = M.1 pl 4 ∧ K.1 75 15 = M.1 pl 7 ∧ K.1 75 16 = 0 ∧ K.1 75 17 = 0 ∧ K.1 75 7 = 0 ∧ K.1 75 14 = 0) ∧ (K.1 77 = pre 12 (fun _ => 0) (M.1 77) ∧ K.1 78 = pre 12 (fun _ => 0) (M.1 78) ∧ K.1 81 = pre 12 (fun _ => 0) (M.1 81) ∧ K.1 82 = pre 12 (fun _ => 0) (M.1 82) ∧ K.1 84 = pre 6 (fun _ => 0) (M.1 84) ∧ K.1 85 = pre 6 (fun _ => 0) (M.1 85) ∧ K.1 86 = pre 6 (fun _ => 0) (M.1 86) ∧ K.1 79 = pre 12 (fun _ => 0) (M.1 79) ∧ K.1 83 = pre 12 (fun _ => 0) (M.1 83)) ∧ (K.1 87 0 = nI nf ∧ K.1 88 = pre 8 (M.1 (pl + 14)) (M.1 88) ∧ K.1 89 = pre 8 (M.1 (pl + 15)) (M.1 89) ∧ K.1 90 = rfC (M.1 pl 3) (K.1 88) (K.1 89) (M.1 90) nf) ∧ (K.1 128 0 = 0 ∧ K.1 128 1 = -1 ∧ K.1 134 0 = 0)
theorem tX9_begin {G : Gx} {l : Launch} {ly : Ly} {M : Mm} {pl nf : Nat} (hp7 : pl = 7 ∨ pl = 41) (hf : M.1 (pl + 13) 0 = nI nf ∧ nf ≤ 8 ∧ ∀ i, i < nf → vp_in (M.1 (pl + 14) i) 12) (hX : XW ly M.2.2) {Q : Qt} (hQ : ∀ K : Mm, K.2.2 = rSc M.2.2 75 pl (pl + 7) (pl + 18) (pl + 21) → (∀ a, ¬ (75 ≤ a ∧ a ≤ 90) → K.1 a = M.1 a) → (K.1 75 4 = M.1 pl 4 ∧ K.1 75 15 = M.1 pl 7 ∧ K.1 75 16 = 0 ∧ K.1 75 17 = 0 ∧ K.1 75 7 = 0 ∧ K.1 75 14 = 0) → (K.1 77 = pre 12 (fun _ => 0) (M.1 77) ∧ K.1 78 = pre 12 (fun _ => 0) (M.1 78) ∧ K.1 81 = pre 12 (fun _ => 0) (M.1 81) ∧ K.1 82 = pre 12 (fun _ => 0) (M.1 82) ∧ K.1 84 = pre 6 (fun _ => 0) (M.1 84) ∧ K.1 85 = pre 6 (fun _ => 0) (M.1 85) ∧ K.1 86 = pre 6 (fun _ => 0) (M.1 86) ∧ K.1 79 = pre 12 (fun _ => 0) (M.1 79) ∧ K.1 83 = pre 12 (fun _ => 0) (M.1 83)) → (K.1 87 0 = nI nf ∧ K.1 88 = pre 8 (M.1 (pl + 14)) (M.1 88) ∧ K.1 89 = pre 8 (M.1 (pl + 15)) (M.1 89) ∧ K.1 90 = rfC (M.1 pl 3) (K.1 88) (K.1 89) (M.1 90) nf) → Q none ly K) : Mt G l mX9_begin (4, 0, 0, false) [.ref 75, .ref pl] ly M Q := by
  refine Mt.of (lv := [some (.ref 75), some (.ref pl)]) rfl ?_
  refine Rn.aload_n dX9_begin_0 rfl ?_
  refine Rn.aload_n dX9_begin_1 rfl ?_
  refine Rn.putR dX9_begin_2 fX9_48 rfl rfl (by decide +kernel) (xc75 hX) ?_
  refine Rn.aload_n dX9_begin_5 rfl ?_
  refine Rn.aload_n dX9_begin_6 rfl ?_
  refine Rn.getR dX9_begin_7 fX9_52 rfl (pc0 hX hp7) (show (sR M 75 (va_up (M.2.2 75) 0 (some pl))).2.2 pl 11 = some (pl + 7) from ((congrFun (sR_ne (show pl ≠ 75 by omega)) 11).trans (pp0_11 hX hp7))) ?_
  refine Rn.putR dX9_begin_10 fX9_58 rfl rfl (by decide +kernel) (xc75 hX) ?_
  refine Rn.meq (M2 := sR M 75 (va_up (va_up (M.2.2 75) 0 (some pl)) 1 (some (pl + 7)))) (sR_sR _ _ _ _) ?_
  refine Rn.aload_n dX9_begin_13 rfl ?_
  refine Rn.aload_n dX9_begin_14 rfl ?_
  refine Rn.getR dX9_begin_15 fX9_59 rfl (pc0 hX hp7) (show (sR M 75 (va_up (va_up (M.2.2 75) 0 (some pl)) 1 (some (pl + 7)))).2.2 pl 15 = some (pl + 18) from ((congrFun (sR_ne (show pl ≠ 75 by omega)) 15).trans (pp0_15 hX hp7))) ?_
  refine Rn.putR dX9_begin_18 fX9_63 rfl rfl (by decide +kernel) (xc75 hX) ?_
  refine Rn.meq (M2 := sR M 75 (va_up (va_up (va_up (M.2.2 75) 0 (some pl)) 1 (some (pl + 7))) 2 (some (pl + 18)))) (sR_sR _ _ _ _) ?_
  refine Rn.aload_n dX9_begin_21 rfl ?_
  refine Rn.aload_n dX9_begin_22 rfl ?_
  refine Rn.getR dX9_begin_23 fX9_64 rfl (pc0 hX hp7) (show (sR M 75 (va_up (va_up (va_up (M.2.2 75) 0 (some pl)) 1 (some (pl + 7))) 2 (some (pl + 18)))).2.2 pl 16 = some (pl + 21) from ((congrFun (sR_ne (show pl ≠ 75 by omega)) 16).trans (pp0_16 hX hp7))) ?_
  refine Rn.putR dX9_begin_26 fX9_67 rfl rfl (by decide +kernel) (xc75 hX) ?_
  refine Rn.meq (M2 := sR M 75 (va_up (va_up (va_up (va_up (M.2.2 75) 0 (some pl)) 1 (some (pl + 7))) 2 (some (pl + 18))) 3 (some (pl + 21)))) (sR_sR _ _ _ _) ?_
  refine Rn.aload_n dX9_begin_29 rfl ?_
  refine Rn.aload_n dX9_begin_30 rfl ?_
  refine Rn.getI dX9_begin_31 fX9_68 rfl (pc0 hX hp7) ?_
  refine Rn.putI dX9_begin_34 fX9_72 rfl rfl rfl (xc75 hX) ?_
  refine Rn.aload_n dX9_begin_37 rfl ?_
  refine Rn.aload_n dX9_begin_38 rfl ?_
  refine Rn.getI dX9_begin_39 fX9_73 rfl (pc0 hX hp7) ?_
  refine Rn.topI (y := M.1 pl 7) ((congrFun (sI_ne (show pl ≠ 75 by omega)) 7)) ?_
  refine Rn.putI dX9_begin_42 fX9_76 rfl rfl rfl (xc75 hX) ?_
  refine Rn.meq (M2 := sI (sR M 75 (va_up (va_up (va_up (va_up (M.2.2 75) 0 (some pl)) 1 (some (pl + 7))) 2 (some (pl + 18))) 3 (some (pl + 21)))) 75 (upd (upd (M.1 75) 4 (M.1 pl 4)) 15 (M.1 pl 7))) (sI_sI _ _ _ _) ?_
  refine Rn.aload_n dX9_begin_45 rfl ?_
  refine Rn.iconstv (v := 0) dX9_begin_46 ic_0 ?_
  refine Rn.putZ dX9_begin_47 fX9_79 rfl rfl rfl (by decide) (xc75 hX) ?_
  refine Rn.meq (M2 := sI (sR M 75 (va_up (va_up (va_up (va_up (M.2.2 75) 0 (some pl)) 1 (some (pl + 7))) 2 (some (pl + 18))) 3 (some (pl + 21)))) 75 (upd (upd (upd (M.1 75) 4 (M.1 pl 4)) 15 (M.1 pl 7)) 16 0)) (sI_sI _ _ _ _) ?_
  refine Rn.aload_n dX9_begin_50 rfl ?_
  refine Rn.iconstv (v := 0) dX9_begin_51 ic_0 ?_
  refine Rn.putZ dX9_begin_52 fX9_83 rfl rfl rfl (by decide) (xc75 hX) ?_
  refine Rn.meq (M2 := sI (sR M 75 (va_up (va_up (va_up (va_up (M.2.2 75) 0 (some pl)) 1 (some (pl + 7))) 2 (some (pl + 18))) 3 (some (pl + 21)))) 75 (upd (upd (upd (upd (M.1 75) 4 (M.1 pl 4)) 15 (M.1 pl 7)) 16 0) 17 0)) (sI_sI _ _ _ _) ?_
  obtain ⟨N1, e1⟩ : ∃ N9, N9 = sI (sR M 75 (va_up (va_up (va_up (va_up (M.2.2 75) 0 (some pl)) 1 (some (pl + 7))) 2 (some (pl + 18))) 3 (some (pl + 21)))) 75 (upd (upd (upd (upd (M.1 75) 4 (M.1 pl 4)) 15 (M.1 pl 7)) 16 0) 17 0) := ⟨_, rfl⟩
  rw [← e1]
  have r1 : N1.2.2 = rSc M.2.2 75 pl (pl + 7) (pl + 18) (pl + 21) := by rw [e1]; rfl
  have a1 : ∀ a, a ≠ 75 → N1.1 a = M.1 a := fun a ha => by rw [e1]; exact sI_ne ha
  have b1 : N1.1 75 4 = M.1 pl 4 ∧ N1.1 75 15 = M.1 pl 7 ∧ N1.1 75 16 = 0 ∧ N1.1 75 17 = 0 := by rw [e1]; exact ⟨rfl, rfl, rfl, rfl⟩
  clear e1
  have hXN1 : XW ly N1.2.2 := by rw [r1]; exact XW_rSc hX (Or.inl rfl)
  refine Rn.aload_n dX9_begin_55 rfl ?_
  refine Rn.getR dX9_begin_56 fX9_34 rfl (xc75 hXN1) (show N1.2.2 75 11 = some 87 from (xp75_11 hXN1)) ?_
  refine Rn.aload_n dX9_begin_59 rfl ?_
  refine Rn.getR dX9_begin_60 fX9_86 rfl (pc0 hXN1 hp7) (show N1.2.2 pl 12 = some (pl + 13) from (pp0_12 hXN1 hp7)) ?_
  refine Rn.callV1 dX9_begin_63 vX9_87 (xc87 hXN1) (by decide) rfl (tX2_copy (M := N1) (a := 87) (c := pl + 13) ⟨xc87 hXN1, xc88 hXN1, xc89 hXN1, xp87_1 hXN1, xp87_2 hXN1⟩ ⟨pc13 hXN1 hp7, pc14 hXN1 hp7, pc15 hXN1 hp7, pp13_1 hXN1 hp7, pp13_2 hXN1 hp7⟩ (by omega)) (by decide) ⟨(Nat.le_of_ble_eq_true rfl), (Nat.le_of_ble_eq_true rfl), (Nat.le_of_ble_eq_true rfl)⟩ (fun h => by cases h) (fun v1 ly1 N2 ⟨q1, q2, q3⟩ => ?_)
  rw [q1, q2]
  have r2 : N2.2.2 = N1.2.2 := by rw [q3]; rfl
  have a2 : ∀ a, a ≠ 87 → a ≠ 88 → a ≠ 89 → N2.1 a = N1.1 a := fun a x1 x2 x3 => by rw [q3, sI_ne x3, sI_ne x2, sI_ne x1]
  have b87 : N2.1 87 0 = nI nf := by rw [q3]; show upd (N1.1 87) 0 (N1.1 (pl + 13) 0) 0 = _; rw [pk_us, a1 (pl + 13) (by omega)]; exact hf.1
  have b88 : N2.1 88 = pre 8 (M.1 (pl + 14)) (M.1 88) := by rw [q3]; show pre 8 (N1.1 (pl + 13 + 1)) (N1.1 88) = _; rw [a1 (pl + 13 + 1) (by omega), a1 88 (by decide)]
  have b89 : N2.1 89 = pre 8 (M.1 (pl + 15)) (M.1 89) := by rw [q3]; show pre 8 (N1.1 (pl + 13 + 2)) (N1.1 89) = _; rw [a1 (pl + 13 + 2) (by omega), a1 89 (by decide)]
  clear q3
  have c88 : ∀ i, i < nf → vp_in (N2.1 88 i) 12 := fun i hi => by rw [b88, show pre 8 (M.1 (pl + 14)) (M.1 88) i = M.1 (pl + 14) i from if_pos (by omega)]; exact hf.2.2 i hi
  have hXN2 : XW ly N2.2.2 := by rw [r2]; exact hXN1
  refine Rn.aload_n dX9_begin_66 rfl ?_
  refine Rn.callV0 dX9_begin_67 vX9_91 (xc75 hXN2) (by decide) rfl (tX9_refreshCalm (M := N2) (a := 75) (p := pl) (n := nf) (iSc75 hXN2) (by rw [r2, r1]; rfl) (pc0 hXN2 hp7) (by omega) b87 hf.2.1 c88) (by decide) ⟨(Nat.le_of_ble_eq_true rfl), (Nat.le_of_ble_eq_true rfl), (Nat.le_of_ble_eq_true rfl)⟩ (fun h => by cases h) (fun v1 ly1 N3 ⟨q1, q2, q3⟩ => ?_)
  rw [q1, q2]
  have r3 : N3.2.2 = N2.2.2 := by rw [q3]; rfl
  have a3 : ∀ a, a ≠ 90 → N3.1 a = N2.1 a := fun a ha => by rw [q3]; exact sI_ne ha
  have b90 : N3.1 90 = rfC (M.1 pl 3) (N3.1 88) (N3.1 89) (M.1 90) nf := by
    rw [a3 88 (by decide), a3 89 (by decide), q3]
    show rfC (N2.1 pl 3) (N2.1 88) (N2.1 89) (N2.1 90) nf = _
    rw [a2 pl (by omega) (by omega) (by omega), a1 pl (by omega), a2 90 (by decide) (by decide) (by decide), a1 90 (by decide)]
  clear q3
  have hXN3 : XW ly N3.2.2 := by rw [r3]; exact hXN2
  refine Rn.aload_n dX9_begin_70 rfl ?_
  refine Rn.callV0 dX9_begin_71 vX9_94 (xc75 hXN3) (by decide) rfl (tX9_rest (M := N3) (a := 75) (Q := fun v0 ly0 K => v0 = none ∧ ly0 = ly ∧ K.2.2 = N3.2.2 ∧ (∀ k, k < 75 ∨ 86 < k → K.1 k = N3.1 k) ∧ K.1 75 = upd (upd (N3.1 75) 7 0) 14 0 ∧ K.1 77 = pre 12 (fun _ => 0) (N3.1 77) ∧ K.1 78 = pre 12 (fun _ => 0) (N3.1 78) ∧ K.1 81 = pre 12 (fun _ => 0) (N3.1 81) ∧ K.1 82 = pre 12 (fun _ => 0) (N3.1 82) ∧ K.1 84 = pre 6 (fun _ => 0) (N3.1 84) ∧ K.1 85 = pre 6 (fun _ => 0) (N3.1 85) ∧ K.1 86 = pre 6 (fun _ => 0) (N3.1 86) ∧ K.1 79 = pre 12 (fun _ => 0) (N3.1 79) ∧ K.1 83 = pre 12 (fun _ => 0) (N3.1 83)) (iSc75 hXN3) (fun I k0 k1 k5 ka k2 k3 k4 k6 k7 k8 k9 k10 k11 => ⟨rfl, rfl, rfl, k0, ka, k2, k3, k6, k7, k9, k10, k11, k4, k8⟩)) (by decide) ⟨(Nat.le_of_ble_eq_true rfl), (Nat.le_of_ble_eq_true rfl), (Nat.le_of_ble_eq_true rfl)⟩ (fun h => by cases h) (fun v1 ly1 N4 ⟨q1, q2, u0, u1, u2, u3, u4, u5, u6, u7, u8, u9, u10, u11⟩ => ?_)
  rw [q1, q2]
  have oM : ∀ a, a ≠ 75 → a ≠ 87 → a ≠ 88 → a ≠ 89 → a ≠ 90 → N3.1 a = M.1 a := fun a x1 x2 x3 x4 x5 => (a3 a x5).trans ((a2 a x2 x3 x4).trans (a1 a x1))
  rw [oM 77 (by decide) (by decide) (by decide) (by decide) (by decide)] at u3
  rw [oM 78 (by decide) (by decide) (by decide) (by decide) (by decide)] at u4
  rw [oM 81 (by decide) (by decide) (by decide) (by decide) (by decide)] at u5
  rw [oM 82 (by decide) (by decide) (by decide) (by decide) (by decide)] at u6
  rw [oM 84 (by decide) (by decide) (by decide) (by decide) (by decide)] at u7
  rw [oM 85 (by decide) (by decide) (by decide) (by decide) (by decide)] at u8
  rw [oM 86 (by decide) (by decide) (by decide) (by decide) (by decide)] at u9
  rw [oM 79 (by decide) (by decide) (by decide) (by decide) (by decide)] at u10
  rw [oM 83 (by decide) (by decide) (by decide) (by decide) (by decide)] at u11
  have e75 : N3.1 75 = N1.1 75 := (a3 75 (by decide)).trans (a2 75 (by decide) (by decide) (by decide))
  rw [e75] at u2
  exact Rn.vret dX9_begin_74 rfl (hQ N4 (u0.trans (r3.trans (r2.trans r1))) (fun a ha => (u1 a (by omega)).trans (oM a (by omega) (by omega) (by omega) (by omega) (by omega))) (by rw [u2]; exact ⟨b1.1, b1.2.1, b1.2.2.1, b1.2.2.2, rfl, rfl⟩) ⟨u3, u4, u5, u6, u7, u8, u9, u10, u11⟩ ⟨by rw [u1 87 (by decide), a3 87 (by decide)]; exact b87, by rw [u1 88 (by decide), a3 88 (by decide)]; exact b88, by rw [u1 89 (by decide), a3 89 (by decide)]; exact b89, by rw [u1 90 (by decide), u1 88 (by decide), u1 89 (by decide)]; exact b90⟩)
theorem tX11_begin {G : Gx} {l : Launch} {ly : Ly} {M : Mm} {pl nf : Nat} (hp7 : pl = 7 ∨ pl = 41) (h03 : M.2.2 0 3 = some pl) (hf : M.1 (pl + 13) 0 = nI nf ∧ nf ≤ 8 ∧ ∀ i, i < nf → vp_in (M.1 (pl + 14) i) 12) (hX : XW ly M.2.2) {Q : Qt} (hQ : ∀ K : Mm, bgC M K pl nf → Q none ly K) : Mt G l mX11_begin (5, 0, 0, false) [.ref 0] ly M Q := by
  refine Mt.of (lv := [some (.ref 0)]) rfl ?_
  refine Rn.aload_n dX11_begin_0 rfl ?_
  refine Rn.getR dX11_begin_1 fX11_39 rfl (xc0 hX) (show M.2.2 0 5 = some 75 from (xp0_5 hX)) ?_
  refine Rn.aload_n dX11_begin_4 rfl ?_
  refine Rn.getR dX11_begin_5 fX11_27 rfl (xc0 hX) (show M.2.2 0 3 = some pl from h03) ?_
  refine Rn.callV1 dX11_begin_8 vX11_105 (xc75 hX) (by decide) rfl (tX9_begin (M := M) (pl := pl) (nf := nf) (Q := fun v0 ly0 K => v0 = none ∧ ly0 = ly ∧ K.2.2 = rSc M.2.2 75 pl (pl + 7) (pl + 18) (pl + 21) ∧ (∀ a, ¬ (75 ≤ a ∧ a ≤ 90) → K.1 a = M.1 a) ∧ (K.1 75 4 = M.1 pl 4 ∧ K.1 75 15 = M.1 pl 7 ∧ K.1 75 16 = 0 ∧ K.1 75 17 = 0 ∧ K.1 75 7 = 0 ∧ K.1 75 14 = 0) ∧ (K.1 77 = pre 12 (fun _ => 0) (M.1 77) ∧ K.1 78 = pre 12 (fun _ => 0) (M.1 78) ∧ K.1 81 = pre 12 (fun _ => 0) (M.1 81) ∧ K.1 82 = pre 12 (fun _ => 0) (M.1 82) ∧ K.1 84 = pre 6 (fun _ => 0) (M.1 84) ∧ K.1 85 = pre 6 (fun _ => 0) (M.1 85) ∧ K.1 86 = pre 6 (fun _ => 0) (M.1 86) ∧ K.1 79 = pre 12 (fun _ => 0) (M.1 79) ∧ K.1 83 = pre 12 (fun _ => 0) (M.1 83)) ∧ (K.1 87 0 = nI nf ∧ K.1 88 = pre 8 (M.1 (pl + 14)) (M.1 88) ∧ K.1 89 = pre 8 (M.1 (pl + 15)) (M.1 89) ∧ K.1 90 = rfC (M.1 pl 3) (K.1 88) (K.1 89) (M.1 90) nf)) hp7 hf hX (fun K k1 k2 k3 k4 k5 => ⟨rfl, rfl, k1, k2, k3, k4, k5⟩)) (by decide) ⟨(Nat.le_of_ble_eq_true rfl), (Nat.le_of_ble_eq_true rfl), (Nat.le_of_ble_eq_true rfl)⟩ (fun h => by cases h) (fun v1 ly1 N1 ⟨q1, q2, k1, k2, k3, k4, k5⟩ => ?_)
  rw [q1, q2]
  have hXN1 : XW ly N1.2.2 := by rw [k1]; exact XW_rSc hX (Or.inl rfl)
  refine Rn.aload_n dX11_begin_11 rfl ?_
  refine Rn.getR dX11_begin_12 fX11_59 rfl (xc0 hXN1) (show N1.2.2 0 11 = some 128 from (xp0_11 hXN1)) ?_
  refine Rn.callV0 dX11_begin_15 vX11_107 (xc128 hXN1) (by decide) rfl (tX4_clear (M := N1) (a := 128) ⟨xc128 hXN1, xc129 hXN1, xc130 hXN1, xc131 hXN1, xc132 hXN1, xc133 hXN1, xp128_2 hXN1, xp128_3 hXN1, xp128_4 hXN1, xp128_5 hXN1, xp128_6 hXN1⟩) (by decide) ⟨(Nat.le_of_ble_eq_true rfl), (Nat.le_of_ble_eq_true rfl), (Nat.le_of_ble_eq_true rfl)⟩ (fun h => by cases h) (fun v1 ly1 M1 ⟨q1, q2, q3⟩ => ?_)
  rw [q1, q2, q3]
  show Rn G l mX11_begin (5, 0, 0, false) 18 [some (.ref 0)] [] ly (sI N1 128 (upd (upd (N1.1 128) 0 0) 1 (-1))) Q
  refine Rn.aload_n dX11_begin_18 rfl ?_
  refine Rn.getR dX11_begin_19 fX11_66 rfl (xc0 hXN1) (show N1.2.2 0 12 = some 134 from (xp0_12 hXN1)) ?_
  refine Rn.callV0 dX11_begin_22 vX11_110 (xc134 hXN1) (by decide) rfl (tX1_clear (M := sI N1 128 (upd (upd (N1.1 128) 0 0) 1 (-1))) (a := 134) ⟨xc134 hXN1, xc135 hXN1, xc136 hXN1, xc137 hXN1, xp134_1 hXN1, xp134_2 hXN1, xp134_3 hXN1⟩) (by decide) ⟨(Nat.le_of_ble_eq_true rfl), (Nat.le_of_ble_eq_true rfl), (Nat.le_of_ble_eq_true rfl)⟩ (fun h => by cases h) (fun v1 ly1 M1 ⟨q1, q2, q3⟩ => ?_)
  rw [q1, q2, q3]
  show Rn G l mX11_begin (5, 0, 0, false) 25 [some (.ref 0)] [] ly (sI (sI N1 128 (upd (upd (N1.1 128) 0 0) 1 (-1))) 134 (upd (N1.1 134) 0 0)) Q
  refine Rn.aload_n dX11_begin_25 rfl ?_
  refine Rn.iconstv (v := 0) dX11_begin_26 ic_0 ?_
  refine Rn.putZ dX11_begin_27 fX11_111 rfl rfl rfl (by decide) (xc0 hXN1) ?_
  obtain ⟨K, e9⟩ : ∃ N9, N9 = sI (sI (sI N1 128 (upd (upd (N1.1 128) 0 0) 1 (-1))) 134 (upd (N1.1 134) 0 0)) 0 (upd (N1.1 0) 8 0) := ⟨_, rfl⟩
  show Rn G l mX11_begin (5, 0, 0, false) 30 [some (.ref 0)] [] ly (sI (sI (sI N1 128 (upd (upd (N1.1 128) 0 0) 1 (-1))) 134 (upd (N1.1 134) 0 0)) 0 (upd (N1.1 0) 8 0)) Q
  rw [← e9]
  have hr : K.2.2 = N1.2.2 := by rw [e9]; rfl
  have ho : ∀ a, a ≠ 0 → a ≠ 128 → a ≠ 134 → K.1 a = N1.1 a := fun a x1 x2 x3 => by rw [e9, sI_ne x1, sI_ne x3, sI_ne x2]
  have h0 : K.1 0 = upd (N1.1 0) 8 0 := by rw [e9]; rfl
  have hg : K.1 128 0 = 0 ∧ K.1 128 1 = -1 ∧ K.1 134 0 = 0 := by rw [e9]; exact ⟨rfl, rfl, rfl⟩
  clear e9
  refine Rn.vret dX11_begin_30 rfl (hQ K ⟨hr.trans k1, fun a ha => (ho a (by omega) (by omega) (by omega)).trans (k2 a (by omega)), fun j hj => by rw [h0, pk_un hj, k2 0 (by decide)], by rw [h0]; rfl, by rw [ho 75 (by decide) (by decide) (by decide)]; exact k3, ?_, ?_, hg⟩)
  · rw [ho 77 (by decide) (by decide) (by decide), ho 78 (by decide) (by decide) (by decide), ho 81 (by decide) (by decide) (by decide), ho 82 (by decide) (by decide) (by decide), ho 84 (by decide) (by decide) (by decide), ho 85 (by decide) (by decide) (by decide), ho 86 (by decide) (by decide) (by decide), ho 79 (by decide) (by decide) (by decide), ho 83 (by decide) (by decide) (by decide)]; exact k4
  · rw [ho 87 (by decide) (by decide) (by decide), ho 88 (by decide) (by decide) (by decide), ho 89 (by decide) (by decide) (by decide), ho 90 (by decide) (by decide) (by decide)]; exact k5
theorem xFin_0 : ∀ p ∈ xFin, ¬ (p.1 = 0 ∧ (p.2.1 = 3 ∨ p.2.1 = 4)) := by decide +kernel
theorem tX11_text {G : Gx} {l : Launch} {ly : Ly} {M : Mm} {x : Int32} {f : Nat → Int32} {tp pl ps : Nat} (htp : M.1 0 1 = nI tp ∧ tp ≤ 700) (hby : byA f tp) (hf : tpR (M.1 1) f tp) (hw : ∀ w, w < 25 → M.1 4 w = wdP w) (hps : (pl = 7 ∧ ps = 41) ∨ (pl = 41 ∧ ps = 7)) (h03 : M.2.2 0 3 = some pl) (h04 : M.2.2 0 4 = some ps) (hcell : ∀ (n : Nat) (p2 : Pl) (m : Nat), txF (kdF f n) (nvF f n) (nx f n) 701 p0 0 0 = .inl (p2, m) → ∀ i, i < p2.ct 1 → vp_in (p2.D 10 i) 12) (hX : XW ly M.2.2) {Q : Qt} (hQ : (x < 0 ∨ nI tp < x → Q (some (.int (-2))) ly M) ∧ (∀ n : Nat, x = nI n → n ≤ tp → (∀ K q j, txF (kdF f n) (nvF f n) (nx f n) 701 p0 0 0 = .inr (q, j) → tcF (sI M 0 (upd (M.1 0) 1 0)) K ps → faC f n K q j → Q (some (.int (-1))) ly K) ∧ (∀ N K p2 m j, txF (kdF f n) (nvF f n) (nx f n) 701 p0 0 0 = .inl (p2, m) → tcF (sI M 0 (upd (M.1 0) 1 0)) N ps → CPs ly N f n ps p2 j → ∀ N2 : Mm, N2.1 = N.1 → (∀ a b, ¬ (a = 0 ∧ (b = 3 ∨ b = 4)) → N2.2.2 a b = N.2.2 a b) → N2.2.2 0 3 = some ps → N2.2.2 0 4 = some pl → bgC N2 K ps (p2.ct 1) → Q (some (.int (nI m))) ly K))) : Mt G l mX11_text (7, 0, 0, false) [.ref 0, .int x] ly M Q := by
  refine Mt.of (lv := [some (.ref 0), some (.int x), none, none]) rfl ?_
  refine Rn.iload_n dX11_text_0 rfl ?_
  refine Rn.if_lt dX11_text_1 (fun hx0 => ?_) (fun hx0 => ?_)
  · skip
    refine Rn.bipushv (v := -2) dX11_text_12 bp_m2 ?_
    exact Rn.iret (ty := .int) dX11_text_14 rfl rfl (hQ.1 (Or.inl hx0))
  · skip
    refine Rn.iload_n dX11_text_4 rfl ?_
    refine Rn.aload_n dX11_text_5 rfl ?_
    refine Rn.getI dX11_text_6 fX11_90 rfl (xc0 hX) ?_
    refine Rn.topI (y := nI tp) (htp.1) ?_
    refine Rn.icmp_le dX11_text_9 (fun hx1 => ?_) (fun hx1 => ?_)
    · skip
      obtain ⟨n, hn31, rfl⟩ : ∃ n : Nat, n < 2 ^ 31 ∧ x = nI n := nI_of hx0
      have hnt : n ≤ tp := (nI_leI (a := n) (b := tp) hn31 (by omega)).mp hx1
      have hQ2 := hQ.2 n rfl hnt
      clear hQ
      have hps7 : ps = 7 ∨ ps = 41 := hps.elim (fun h => Or.inr h.2) (fun h => Or.inl h.2)
      refine Rn.aload_n dX11_text_15 rfl ?_
      refine Rn.iconstv (v := 0) dX11_text_16 ic_0 ?_
      refine Rn.putI dX11_text_17 fX11_90 rfl rfl rfl (xc0 hX) ?_
      refine Rn.aload_n dX11_text_20 rfl ?_
      refine Rn.getR dX11_text_21 fX11_20 rfl (xc0 hX) (show M.2.2 0 2 = some 2 from (xp0_2 hX)) ?_
      refine Rn.aload_n dX11_text_24 rfl ?_
      refine Rn.getR dX11_text_25 fX11_31 rfl (xc0 hX) (show M.2.2 0 4 = some ps from h04) ?_
      refine Rn.iload_n dX11_text_28 rfl ?_
      obtain ⟨N0, e0⟩ : ∃ N9, N9 = sI M 0 (upd (M.1 0) 1 0) := ⟨_, rfl⟩
      rw [← e0]
      rw [← e0] at hQ2
      have a0 : ∀ a, a ≠ 0 → N0.1 a = M.1 a := fun a ha => by rw [e0]; exact sI_ne ha
      have r0 : N0.2.2 = M.2.2 := by rw [e0]; rfl
      clear e0
      have hXN0 : XW ly N0.2.2 := by rw [r0]; exact hX
      refine Rn.callV2 dX11_text_29 vX11_98 (xc2 hXN0) (by decide) rfl (tX6_read (M := N0) (f := f) (n := n) (pl := ps) (by omega) (fun j hj => hby j (by omega)) (by rw [a0 1 (by decide)]; exact fun j hj => hf j (by omega)) (fun w hw9 => by rw [a0 4 (by decide)]; exact hw w hw9) hps7 hXN0) (by decide) ⟨(Nat.le_of_ble_eq_true rfl), (Nat.le_of_ble_eq_true rfl), (Nat.le_of_ble_eq_true rfl)⟩ (fun h => by cases h) (fun v1 ly1 N1 ⟨q2, hF, hh⟩ => ?_)
      rw [q2]
      rcases hh with ⟨p2, m, j, htx, hm, q1, hS⟩ | ⟨q, j, htx, q1, hfa⟩
      · skip
        rw [q1]
        have hXN1 : XW ly N1.2.2 := hF.xw hXN0
        have h03N : N1.2.2 0 3 = some pl := (hF.1 0 3 (by decide)).trans (by rw [r0]; exact h03)
        have h04N : N1.2.2 0 4 = some ps := (hF.1 0 4 (by decide)).trans (by rw [r0]; exact h04)
        refine Rn.istore_n (lv' := [some (.ref 0), some (.int (nI n)), some (.int (nI m)), none]) dX11_text_32 (by decide) rfl ?_
        refine Rn.iload_n dX11_text_33 rfl ?_
        refine Rn.iconstv (v := -1) dX11_text_34 ic_m1 ?_
        refine Rn.icmp_ne dX11_text_35 (fun h9 => ?_) (fun h9 => absurd h9 (fun g => absurd ((nI_leI (a := 0) (b := m) (by decide) (by omega)).mpr (Nat.zero_le m)) (by rw [g]; decide)))
        refine Rn.aload_n dX11_text_40 rfl ?_
        refine Rn.getR dX11_text_41 fX11_31 rfl (xc0 hXN1) (show N1.2.2 0 4 = some ps from h04N) ?_
        refine Rn.astore_n (lv' := [some (.ref 0), some (.int (nI n)), some (.int (nI m)), some (.ref ps)]) dX11_text_44 (by decide) rfl ?_
        refine Rn.aload_n dX11_text_45 rfl ?_
        refine Rn.aload_n dX11_text_46 rfl ?_
        refine Rn.getR dX11_text_47 fX11_27 rfl (xc0 hXN1) (show N1.2.2 0 3 = some pl from h03N) ?_
        refine Rn.putR dX11_text_50 fX11_31 rfl rfl (by decide +kernel) (xc0 hXN1) ?_
        refine Rn.aload_n dX11_text_53 rfl ?_
        refine Rn.aload_n dX11_text_54 rfl ?_
        refine Rn.putR dX11_text_55 fX11_27 rfl rfl (by decide +kernel) (xc0 hXN1) ?_
        refine Rn.meq (M2 := sR N1 0 (va_up (va_up (N1.2.2 0) 4 (some pl)) 3 (some ps))) (sR_sR _ _ _ _) ?_
        refine Rn.aload_n dX11_text_58 rfl ?_
        obtain ⟨N2, e2⟩ : ∃ N9, N9 = sR N1 0 (va_up (va_up (N1.2.2 0) 4 (some pl)) 3 (some ps)) := ⟨_, rfl⟩
        show Rn G l mX11_text (7, 0, 0, false) 59 [some (.ref 0), some (.int (nI n)), some (.int (nI m)), some (.ref ps)] [.ref 0] ly (sR N1 0 (va_up (va_up (N1.2.2 0) 4 (some pl)) 3 (some ps))) Q
        rw [← e2]
        have n1 : N2.1 = N1.1 := by rw [e2]; rfl
        have n2 : N2.2.2 0 3 = some ps ∧ N2.2.2 0 4 = some pl := by rw [e2]; exact ⟨rfl, rfl⟩
        have n3 : ∀ a b, ¬ (a = 0 ∧ (b = 3 ∨ b = 4)) → N2.2.2 a b = N1.2.2 a b := by
          intro a b h
          rw [e2]
          by_cases ha : a = 0
          · subst ha
            show va_up (va_up (N1.2.2 0) 4 (some pl)) 3 (some ps) b = N1.2.2 0 b
            rw [upR_n (show b ≠ 3 from fun e => h ⟨rfl, Or.inl e⟩), upR_n (show b ≠ 4 from fun e => h ⟨rfl, Or.inr e⟩)]
          · exact congrFun (sR_ne ha) b
        clear e2
        have hXN2 : XW ly N2.2.2 := hXN1.of (fun p hp => n3 _ _ (xFin_0 p hp))
        have hPl := hS.2.2.2.1
        have hct1 : p2.ct 1 ≤ 4 := hS.2.2.2.2.2.2.2.2.1
        refine Rn.callV0 dX11_text_59 vX11_102 (xc0 hXN2) (by decide) rfl (tX11_begin (M := N2) (pl := ps) (nf := p2.ct 1) (Q := fun v0 ly0 K => v0 = none ∧ ly0 = ly ∧ bgC N2 K ps (p2.ct 1)) hps7 n2.1 ⟨by rw [n1]; exact hPl.2.2.1.2, by omega, fun i hi => by rw [n1, show N1.1 (ps + 14) i = p2.D 10 i from hPl.2.2.2.1 10 (by decide) (by decide) i hi]; exact hcell n p2 m htx i hi⟩ hXN2 (fun K k => ⟨rfl, rfl, k⟩)) (by decide) ⟨(Nat.le_of_ble_eq_true rfl), (Nat.le_of_ble_eq_true rfl), (Nat.le_of_ble_eq_true rfl)⟩ (fun h => by cases h) (fun v1 ly1 N3 ⟨q1, q2, hb⟩ => ?_)
        rw [q1, q2]
        refine Rn.iload_n dX11_text_62 rfl ?_
        exact Rn.iret (ty := .int) dX11_text_63 rfl rfl (hQ2.2 N1 N3 p2 m j htx hF hS N2 n1 n3 n2.1 n2.2 hb)
      · skip
        rw [q1]
        have hXN1 : XW ly N1.2.2 := hF.xw hXN0
        refine Rn.istore_n (lv' := [some (.ref 0), some (.int (nI n)), some (.int (-1)), none]) dX11_text_32 (by decide) rfl ?_
        refine Rn.iload_n dX11_text_33 rfl ?_
        refine Rn.iconstv (v := -1) dX11_text_34 ic_m1 ?_
        refine Rn.icmp_ne dX11_text_35 (fun h9 => (by first | exact absurd h9 (by decide) | exact absurd (by decide) h9)) (fun h9 => ?_)
        refine Rn.iconstv (v := -1) dX11_text_38 ic_m1 ?_
        exact Rn.iret (ty := .int) dX11_text_39 rfl rfl (hQ2.1 N1 q j htx hF hfa)
    · skip
      refine Rn.bipushv (v := -2) dX11_text_12 bp_m2 ?_
      exact Rn.iret (ty := .int) dX11_text_14 rfl rfl (hQ.1 (Or.inr (Int32.not_le.mp hx1)))
theorem tX11_named {G : Gx} {l : Launch} {ly : Ly} {M : Mm} {x y : Int32} {pl : Nat} {c : Nat → Nat} (hp7 : pl = 7 ∨ pl = 41) (h03 : M.2.2 0 3 = some pl) (hc : ∀ k, k < 4 → M.1 (pl + 1) k = nI (c k) ∧ c k ≤ 6) (hX : XW ly M.2.2) {Q : Qt} (hQ : ((x < 0 ∨ 4 ≤ x) → Q (some (.int (-1))) ly M) ∧ (∀ k : Nat, k < 4 → x = nI k → Q (some (.int (wdF (fun j => decide (M.1 (pl + 3 + k) j = y)) (c k) 0))) ly M)) : Mt G l mX11_named (1, 0, 0, false) [.ref 0, .int x, .int y] ly M Q := by
  refine Mt.of (lv := [some (.ref 0), some (.int x), some (.int y)]) rfl ?_
  refine Rn.iload_n dX11_named_0 rfl ?_
  refine Rn.if_lt dX11_named_1 (fun hx0 => ?_) (fun hx0 => ?_)
  · skip
    refine Rn.iconstv (v := -1) dX11_named_9 ic_m1 ?_
    exact Rn.iret (ty := .int) dX11_named_10 rfl rfl (hQ.1 (Or.inl hx0))
  · skip
    refine Rn.iload_n dX11_named_4 rfl ?_
    refine Rn.iconstv (v := 4) dX11_named_5 ic_4 ?_
    refine Rn.icmp_lt dX11_named_6 (fun hx1 => ?_) (fun hx1 => ?_)
    · skip
      obtain ⟨k, hk31, rfl⟩ : ∃ n : Nat, n < 2 ^ 31 ∧ x = nI n := nI_of hx0
      have hk : k < 4 := (nI_ltI (a := k) (b := 4) hk31 (by decide)).mp hx1
      refine Rn.aload_n dX11_named_11 rfl ?_
      refine Rn.getR dX11_named_12 fX11_27 rfl (xc0 hX) (show M.2.2 0 3 = some pl from h03) ?_
      refine Rn.iload_n dX11_named_15 rfl ?_
      refine Rn.iload_n dX11_named_16 rfl ?_
      refine Rn.callV2 dX11_named_17 vX11_121 (pc0 hX hp7) (by decide) rfl (tX7_find (M := M) (pl := pl) (k := k) (m := c k) (x := y) hp7 hk (hc k hk) hX) (by decide) ⟨(Nat.le_of_ble_eq_true rfl), (Nat.le_of_ble_eq_true rfl), (Nat.le_of_ble_eq_true rfl)⟩ (fun h => by cases h) (fun v1 ly1 M1 ⟨q1, q2, q3⟩ => ?_)
      rw [q1, q2, q3]
      exact Rn.iret (ty := .int) dX11_named_20 rfl rfl (hQ.2 k hk rfl)
    · skip
      refine Rn.iconstv (v := -1) dX11_named_9 ic_m1 ?_
      exact Rn.iret (ty := .int) dX11_named_10 rfl rfl (hQ.1 (Or.inr (Int32.not_lt.mp hx1)))
