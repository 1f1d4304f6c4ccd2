theorem tL_negation {G : Gx} {l : Launch} {ly : Ly} {f : Nat → Int32} {n k0 i : Nat} (hby : byA f n) (hneg : ∀ i2, i < i2 → CT G l ly f n k0 3 3 mX12_negation i2) (hsum : ∀ i2, i ≤ i2 → CT G l ly f n k0 5 2 mX12_sum i2) : CT G l ly f n k0 3 3 mX12_negation i := by
  intro M o c e hE hR hk hc ho
  refine Mt.of (lv := [some (.ref 149), none]) rfl ?_
  have htc := hE.tc
  have hin : i ≤ n := hE.1.2.1
  have hFM : exF M M k0 := exF.rf
  by_cases h18 : kdF f n i = 18
  · skip
    refine Rn.aload_n dX12_negation_0 rfl ?_
    refine Rn.bipushv (v := 18) dX12_negation_1 bp_18 ?_
    refine Rn.callV1 dX12_negation_3 vX12_300 (rc149 hR) (by decide) rfl (tX12_isWord (M := M) (x := 18) hR) (by omega) ⟨(Nat.le_of_ble_eq_true rfl), (Nat.le_of_ble_eq_true rfl), (Nat.le_of_ble_eq_true rfl)⟩ (fun h => by cases h) (fun v1 ly1 M1 ⟨q1, q2, q3⟩ => ?_)
    rw [q1, q2, q3]
    refine Rn.topI (y := 1) (isT_y hE.2.2.1 ((htc.1.w (w := 18) (by decide)).mpr (htc.2.1.trans h18))) ?_
    refine Rn.if_eq dX12_negation_6 (fun h9 => (by first | exact absurd h9 (by decide) | exact absurd (by decide) h9)) (fun h9 => ?_)
    have hlt := nx_lt hby hin (fun g => by rw [h18] at g; exact absurd g (by decide))
    by_cases h64 : c = 64
    · skip
      refine Rn.aload_n dX12_negation_9 rfl ?_
      subst h64
      refine Rn.callV0 dX12_negation_10 vX12_303 (rc149 hR) (by decide) rfl (knot64 (M := M) hE.2.2.2.2.1 hE.2.2.1 hR) (by omega) ⟨(Nat.le_of_ble_eq_true rfl), (Nat.le_of_ble_eq_true rfl), (Nat.le_of_ble_eq_true rfl)⟩ (fun h => by cases h) (fun v1 ly1 M1 ⟨q1, q2, q3⟩ => ?_)
      rw [q1, q2, q3]
      obtain ⟨N1, hN1⟩ : ∃ N9, N9 = wrM M 2 := ⟨_, rfl⟩
      rw [← hN1]
      have hfN1 : ¬ N1.1 149 29 = 0 := by rw [hN1]; exact (show ¬ ((2 : Int32) = 0) by decide)
      have hvN1 : N1.1 149 29 = 2 ∧ N1.1 149 30 = M.1 149 26 := by rw [hN1]; exact ⟨rfl, rfl⟩
      have hFN1 : exF M N1 k0 := by rw [hN1]; exact exF.wr
      have hRN1 : RW ly N1.2.2 := by rw [hFN1.1.trans rfl]; exact hR
      refine Rn.aload_n dX12_negation_13 rfl ?_
      refine Rn.callV0 dX12_negation_14 vX12_238 (rc149 hRN1) (by decide) rfl (rdGo0 (M := N1) hfN1 hRN1) (by omega) ⟨(Nat.le_of_ble_eq_true rfl), (Nat.le_of_ble_eq_true rfl), (Nat.le_of_ble_eq_true rfl)⟩ (fun h => by cases h) (fun v1 ly1 M1 ⟨q1, q2, q3⟩ => ?_)
      rw [q1, q2, q3]
      refine Rn.aload_n dX12_negation_17 rfl ?_
      refine Rn.callV0 dX12_negation_18 vX12_309 (rc149 hRN1) (by decide) rfl (neg0 (M := N1) hfN1 hRN1) (by omega) ⟨(Nat.le_of_ble_eq_true rfl), (Nat.le_of_ble_eq_true rfl), (Nat.le_of_ble_eq_true rfl)⟩ (fun h => by cases h) (fun v1 ly1 M1 ⟨q1, q2, q3⟩ => ?_)
      rw [q1, q2, q3]
      refine Rn.aload_n dX12_negation_21 rfl ?_
      refine Rn.iconstv (v := 2) dX12_negation_22 ic_2 ?_
      refine Rn.sipushv (v := 260) dX12_negation_23 sp_260 ?_
      refine Rn.callV2 dX12_negation_26 vX12_306 (rc149 hRN1) (by decide) rfl (puts0 (M := N1) hfN1 hRN1) (by omega) ⟨(Nat.le_of_ble_eq_true rfl), (Nat.le_of_ble_eq_true rfl), (Nat.le_of_ble_eq_true rfl)⟩ (fun h => by cases h) (fun v1 ly1 M1 ⟨q1, q2, q3⟩ => ?_)
      rw [q1, q2, q3]
      exact Rn.vret dX12_negation_29 rfl ⟨rfl, rfl, hFN1, Or.inr ⟨2, i, Dd.ntB h18, hvN1.1, hvN1.2.trans hE.pl⟩⟩
    · skip
      refine Rn.aload_n dX12_negation_9 rfl ?_
      refine Rn.callV0 dX12_negation_10 vX12_303 (rc149 hR) (by decide) rfl (knotGo (M := M) hE.2.2.2.2.1 (by omega) hE.2.2.1 hR) (by omega) ⟨(Nat.le_of_ble_eq_true rfl), (Nat.le_of_ble_eq_true rfl), (Nat.le_of_ble_eq_true rfl)⟩ (fun h => by cases h) (fun v1 ly1 M1 ⟨q1, q2, q3⟩ => ?_)
      rw [q1, q2, q3]
      obtain ⟨N1, hN1⟩ : ∃ N9, N9 = sI M 149 (upd (M.1 149) 34 (nI (c + 1))) := ⟨_, rfl⟩
      rw [← hN1]
      have hEN1 : EX N1 f n i o (c + 1) k0 e := by rw [hN1]; exact hE.knot
      have hGN1 : exF M N1 k0 := by rw [hN1]; exact exF.f (fun j hj => pk_un (by omega))
      have hFN1 : exF M N1 k0 := hFM.tr hGN1
      have hRN1 : RW ly N1.2.2 := by rw [hFN1.1]; exact hR
      refine Rn.aload_n dX12_negation_13 rfl ?_
      refine Rn.callV0 dX12_negation_14 vX12_238 (rc149 hRN1) (by decide) rfl (goOnY (M := N1) hEN1 hRN1) (by omega) ⟨(Nat.le_of_ble_eq_true rfl), (Nat.le_of_ble_eq_true rfl), (Nat.le_of_ble_eq_true rfl)⟩ (fun h => by cases h) (fun v1 ly1 N2 ⟨q1, q2, t1, hEN2⟩ => ?_)
      rw [q1, q2]
      have hFN2 : exF M N2 k0 := hFN1.tr (exF.tok t1)
      have hRN2 : RW ly N2.2.2 := by rw [hFN2.1]; exact hR
      refine Rn.aload_n dX12_negation_17 rfl ?_
      refine Rn.callV0 dX12_negation_18 vX12_309 (rc149 hRN2) (by decide) rfl (hneg (nx f n i) hlt N2 o (c + 1) e hEN2 hRN2 (by omega) (by omega) ho) (by omega) ⟨(Nat.le_of_ble_eq_true rfl), (Nat.le_of_ble_eq_true rfl), (Nat.le_of_ble_eq_true rfl)⟩ (fun h => by cases h) (fun v1 ly1 N3 ⟨q1, q2, hGN3, hh⟩ => ?_)
      rw [q1, q2]
      have hFN3 : exF M N3 k0 := hFN2.tr hGN3
      have hRN3 : RW ly N3.2.2 := by rw [hFN3.1]; exact hR
      rcases hh with ⟨j3, c3, e3, hD, hEN3⟩ | ⟨k3, j3, hD, hk3, hp3⟩
      · skip
        obtain ⟨hB1, hB2, hB3, hB4⟩ := hD.b
        have hB5 := hB3 (by omega)
        have hB6 := hB4 (nx_mono hby)
        refine Rn.aload_n dX12_negation_21 rfl ?_
        refine Rn.iconstv (v := 2) dX12_negation_22 ic_2 ?_
        refine Rn.sipushv (v := 260) dX12_negation_23 sp_260 ?_
        refine Rn.callV2 dX12_negation_26 vX12_306 (rc149 hRN3) (by decide) rfl (putsY (M := N3) (x := 2) (y := 260) hEN3 (by omega) hRN3) (by omega) ⟨(Nat.le_of_ble_eq_true rfl), (Nat.le_of_ble_eq_true rfl), (Nat.le_of_ble_eq_true rfl)⟩ (fun h => by cases h) (fun v1 ly1 M1 ⟨q1, q2, q3⟩ => ?_)
        rw [q1, q2, q3]
        obtain ⟨N4, hN4⟩ : ∃ N9, N9 = sI (sI (sI N3 167 (upd (N3.1 167) (64 + (k0 + e3.length)) 2)) 168 (upd (N3.1 168) (64 + (k0 + e3.length)) 260)) 151 (upd (N3.1 151) 25 (nI (k0 + e3.length + 1))) := ⟨_, rfl⟩
        rw [← hN4]
        have hEN4 : EX N4 f n j3 o c3 k0 ((-19) :: e3) := by rw [hN4]; exact hEN3.put (Or.inr (Or.inr (Or.inl ⟨rfl, rfl, rfl⟩)))
        have hGN4 : exF N3 N4 k0 := by rw [hN4]; exact exF.put (by omega)
        have hRN4 : RW ly N4.2.2 := by rw [hGN4.1.trans hFN3.1]; exact hR
        have hFN4 : exF M N4 k0 := hFN3.tr hGN4
        exact Rn.vret dX12_negation_29 rfl ⟨rfl, rfl, hFN4, Or.inl ⟨j3, c3, _, Dd.ntY h18 (by omega) hD, hEN4⟩⟩
      · skip
        have hf := drf hD hk3
        refine Rn.aload_n dX12_negation_21 rfl ?_
        refine Rn.iconstv (v := 2) dX12_negation_22 ic_2 ?_
        refine Rn.sipushv (v := 260) dX12_negation_23 sp_260 ?_
        refine Rn.callV2 dX12_negation_26 vX12_306 (rc149 hRN3) (by decide) rfl (puts0 (M := N3) hf hRN3) (by omega) ⟨(Nat.le_of_ble_eq_true rfl), (Nat.le_of_ble_eq_true rfl), (Nat.le_of_ble_eq_true rfl)⟩ (fun h => by cases h) (fun v1 ly1 M1 ⟨q1, q2, q3⟩ => ?_)
        rw [q1, q2, q3]
        exact Rn.vret dX12_negation_29 rfl ⟨rfl, rfl, hFN3, Or.inr ⟨k3, j3, Dd.ntN h18 (by omega) hD, hk3, hp3⟩⟩
  · skip
    refine Rn.aload_n dX12_negation_0 rfl ?_
    refine Rn.bipushv (v := 18) dX12_negation_1 bp_18 ?_
    refine Rn.callV1 dX12_negation_3 vX12_300 (rc149 hR) (by decide) rfl (tX12_isWord (M := M) (x := 18) hR) (by omega) ⟨(Nat.le_of_ble_eq_true rfl), (Nat.le_of_ble_eq_true rfl), (Nat.le_of_ble_eq_true rfl)⟩ (fun h => by cases h) (fun v1 ly1 M1 ⟨q1, q2, q3⟩ => ?_)
    rw [q1, q2, q3]
    refine Rn.topI (y := 0) (isT_n (fun g => h18 (htc.2.1.symm.trans ((htc.1.w (w := 18) (by decide)).mp g)))) ?_
    refine Rn.if_eq dX12_negation_6 (fun h9 => ?_) (fun h9 => (by first | exact absurd h9 (by decide) | exact absurd (by decide) h9))
    refine Rn.aload_n dX12_negation_30 rfl ?_
    refine Rn.callV0 dX12_negation_31 vX12_312 (rc149 hR) (by decide) rfl (hsum i (Nat.le_refl i) M o c e hE hR hk hc ho) (by omega) ⟨(Nat.le_of_ble_eq_true rfl), (Nat.le_of_ble_eq_true rfl), (Nat.le_of_ble_eq_true rfl)⟩ (fun h => by cases h) (fun v1 ly1 KK ⟨q1, q2, hGKK, hh⟩ => ?_)
    rw [q1, q2]
    have hFKK : exF M KK k0 := hFM.tr hGKK
    have hRKK : RW ly KK.2.2 := by rw [hFKK.1]; exact hR
    rcases hh with ⟨j, c2, e2, hD, hEKK⟩ | ⟨k3, j3, hD, hk3, hp3⟩
    · skip
      obtain ⟨hB1, hB2, hB3, hB4⟩ := hD.b
      have hB5 := hB3 (by omega)
      have hB6 := hB4 (nx_mono hby)
      have htj := hEKK.tc
      have hjn : j ≤ n := hEKK.1.2.1
      have body : bnd (kdF f n j) = 4 → Rn G l mX12_negation (3 + 9 + (64 - c) + 6 * (8 - o), 0, 0, false) 87 [some (.ref 149), none] [] ly KK (PT ly M f n k0 3 o i c e) := by
        intro hb
        have h40 : ¬ kdF f n j = 40 := fun g => by rw [g] at hb; exact absurd hb (by decide)
        have hlt := nx_lt hby hjn h40
        have htb := htj.1.b.1.mpr (by rw [htj.2.1]; exact hb)
        have hst := htj.1.b.2.2.2.2.2.2 htb.1 (by rw [htj.2.1, hb]; decide)
        rw [htj.2.1] at hst
        by_cases h64 : c2 = 64
        · skip
          refine Rn.aload_n dX12_negation_87 rfl ?_
          refine Rn.getI dX12_negation_88 fX12_198 rfl (rc149 hRKK) ?_
          refine Rn.istore_n (lv' := [some (.ref 149), some (.int (KK.1 149 28))]) dX12_negation_91 (by decide) rfl ?_
          refine Rn.aload_n dX12_negation_92 rfl ?_
          subst h64
          refine Rn.callV0 dX12_negation_93 vX12_303 (rc149 hRKK) (by decide) rfl (knot64 (M := KK) hEKK.2.2.2.2.1 hEKK.2.2.1 hRKK) (by omega) ⟨(Nat.le_of_ble_eq_true rfl), (Nat.le_of_ble_eq_true rfl), (Nat.le_of_ble_eq_true rfl)⟩ (fun h => by cases h) (fun v1 ly1 M1 ⟨q1, q2, q3⟩ => ?_)
          rw [q1, q2, q3]
          obtain ⟨N1, hN1⟩ : ∃ N9, N9 = wrM KK 2 := ⟨_, rfl⟩
          rw [← hN1]
          have hfN1 : ¬ N1.1 149 29 = 0 := by rw [hN1]; exact (show ¬ ((2 : Int32) = 0) by decide)
          have hvN1 : N1.1 149 29 = 2 ∧ N1.1 149 30 = KK.1 149 26 := by rw [hN1]; exact ⟨rfl, rfl⟩
          have hFN1 : exF KK N1 k0 := by rw [hN1]; exact exF.wr
          have hRN1 : RW ly N1.2.2 := by rw [hFN1.1.trans (hFKK.1)]; exact hR
          refine Rn.aload_n dX12_negation_96 rfl ?_
          refine Rn.callV0 dX12_negation_97 vX12_238 (rc149 hRN1) (by decide) rfl (rdGo0 (M := N1) hfN1 hRN1) (by omega) ⟨(Nat.le_of_ble_eq_true rfl), (Nat.le_of_ble_eq_true rfl), (Nat.le_of_ble_eq_true rfl)⟩ (fun h => by cases h) (fun v1 ly1 M1 ⟨q1, q2, q3⟩ => ?_)
          rw [q1, q2, q3]
          refine Rn.aload_n dX12_negation_100 rfl ?_
          refine Rn.callV0 dX12_negation_101 vX12_312 (rc149 hRN1) (by decide) rfl (sum0 (M := N1) hfN1 hRN1) (by omega) ⟨(Nat.le_of_ble_eq_true rfl), (Nat.le_of_ble_eq_true rfl), (Nat.le_of_ble_eq_true rfl)⟩ (fun h => by cases h) (fun v1 ly1 M1 ⟨q1, q2, q3⟩ => ?_)
          rw [q1, q2, q3]
          refine Rn.aload_n dX12_negation_104 rfl ?_
          refine Rn.iconstv (v := 2) dX12_negation_105 ic_2 ?_
          refine Rn.iload_n dX12_negation_106 rfl ?_
          refine Rn.callV2 dX12_negation_107 vX12_306 (rc149 hRN1) (by decide) rfl (puts0 (M := N1) hfN1 hRN1) (by omega) ⟨(Nat.le_of_ble_eq_true rfl), (Nat.le_of_ble_eq_true rfl), (Nat.le_of_ble_eq_true rfl)⟩ (fun h => by cases h) (fun v1 ly1 M1 ⟨q1, q2, q3⟩ => ?_)
          rw [q1, q2, q3]
          exact Rn.vret dX12_negation_110 rfl ⟨rfl, rfl, hFKK.tr hFN1, Or.inr ⟨2, j, Dd.cmB h18 hD hb, hvN1.1, hvN1.2.trans hEKK.pl⟩⟩
        · skip
          refine Rn.aload_n dX12_negation_87 rfl ?_
          refine Rn.getI dX12_negation_88 fX12_198 rfl (rc149 hRKK) ?_
          refine Rn.istore_n (lv' := [some (.ref 149), some (.int (KK.1 149 28))]) dX12_negation_91 (by decide) rfl ?_
          refine Rn.aload_n dX12_negation_92 rfl ?_
          refine Rn.callV0 dX12_negation_93 vX12_303 (rc149 hRKK) (by decide) rfl (knotGo (M := KK) hEKK.2.2.2.2.1 (by omega) hEKK.2.2.1 hRKK) (by omega) ⟨(Nat.le_of_ble_eq_true rfl), (Nat.le_of_ble_eq_true rfl), (Nat.le_of_ble_eq_true rfl)⟩ (fun h => by cases h) (fun v1 ly1 M1 ⟨q1, q2, q3⟩ => ?_)
          rw [q1, q2, q3]
          obtain ⟨N1, hN1⟩ : ∃ N9, N9 = sI KK 149 (upd (KK.1 149) 34 (nI (c2 + 1))) := ⟨_, rfl⟩
          rw [← hN1]
          have hEN1 : EX N1 f n j o (c2 + 1) k0 e2 := by rw [hN1]; exact hEKK.knot
          have hGN1 : exF KK N1 k0 := by rw [hN1]; exact exF.f (fun j hj => pk_un (by omega))
          have hFN1 : exF M N1 k0 := hFKK.tr hGN1
          have hRN1 : RW ly N1.2.2 := by rw [hFN1.1]; exact hR
          refine Rn.aload_n dX12_negation_96 rfl ?_
          refine Rn.callV0 dX12_negation_97 vX12_238 (rc149 hRN1) (by decide) rfl (goOnY (M := N1) hEN1 hRN1) (by omega) ⟨(Nat.le_of_ble_eq_true rfl), (Nat.le_of_ble_eq_true rfl), (Nat.le_of_ble_eq_true rfl)⟩ (fun h => by cases h) (fun v1 ly1 N2 ⟨q1, q2, t1, hEN2⟩ => ?_)
          rw [q1, q2]
          have hFN2 : exF M N2 k0 := hFN1.tr (exF.tok t1)
          have hRN2 : RW ly N2.2.2 := by rw [hFN2.1]; exact hR
          refine Rn.aload_n dX12_negation_100 rfl ?_
          refine Rn.callV0 dX12_negation_101 vX12_312 (rc149 hRN2) (by decide) rfl (hsum (nx f n j) (by omega) N2 o (c2 + 1) e2 hEN2 hRN2 (by omega) (by omega) ho) (by omega) ⟨(Nat.le_of_ble_eq_true rfl), (Nat.le_of_ble_eq_true rfl), (Nat.le_of_ble_eq_true rfl)⟩ (fun h => by cases h) (fun v1 ly1 N3 ⟨q1, q2, hGN3, hh⟩ => ?_)
          rw [q1, q2]
          have hFN3 : exF M N3 k0 := hFN2.tr hGN3
          have hRN3 : RW ly N3.2.2 := by rw [hFN3.1]; exact hR
          rcases hh with ⟨j3, c3, e3, hD2, hEN3⟩ | ⟨k3, j3, hD2, hk3, hp3⟩
          · skip
            obtain ⟨hA1, hA2, hA3, hA4⟩ := hD2.b
            have hA5 := hA3 (by omega)
            refine Rn.aload_n dX12_negation_104 rfl ?_
            refine Rn.iconstv (v := 2) dX12_negation_105 ic_2 ?_
            refine Rn.iload_n dX12_negation_106 rfl ?_
            refine Rn.callV2 dX12_negation_107 vX12_306 (rc149 hRN3) (by decide) rfl (putsY (M := N3) (x := 2) (y := KK.1 149 28) hEN3 (by omega) hRN3) (by omega) ⟨(Nat.le_of_ble_eq_true rfl), (Nat.le_of_ble_eq_true rfl), (Nat.le_of_ble_eq_true rfl)⟩ (fun h => by cases h) (fun v1 ly1 M1 ⟨q1, q2, q3⟩ => ?_)
            rw [q1, q2, q3]
            obtain ⟨N4, hN4⟩ : ∃ N9, N9 = sI (sI (sI N3 167 (upd (N3.1 167) (64 + (k0 + e3.length)) 2)) 168 (upd (N3.1 168) (64 + (k0 + e3.length)) (KK.1 149 28))) 151 (upd (N3.1 151) 25 (nI (k0 + e3.length + 1))) := ⟨_, rfl⟩
            rw [← hN4]
            have hEN4 : EX N4 f n j3 o c3 k0 ((-1 - kdF f n j) :: e3) := by rw [hN4]; exact hEN3.put (Or.inr (Or.inr (Or.inr ⟨rfl, _, hst, rfl, rfl⟩)))
            have hGN4 : exF N3 N4 k0 := by rw [hN4]; exact exF.put (by omega)
            have hRN4 : RW ly N4.2.2 := by rw [hGN4.1.trans hFN3.1]; exact hR
            have hFN4 : exF M N4 k0 := hFN3.tr hGN4
            exact Rn.vret dX12_negation_110 rfl ⟨rfl, rfl, hFN4, Or.inl ⟨j3, c3, _, Dd.cmY h18 hD hb (by omega) hD2, hEN4⟩⟩
          · skip
            have hf := drf hD2 hk3
            refine Rn.aload_n dX12_negation_104 rfl ?_
            refine Rn.iconstv (v := 2) dX12_negation_105 ic_2 ?_
            refine Rn.iload_n dX12_negation_106 rfl ?_
            refine Rn.callV2 dX12_negation_107 vX12_306 (rc149 hRN3) (by decide) rfl (puts0 (M := N3) hf hRN3) (by omega) ⟨(Nat.le_of_ble_eq_true rfl), (Nat.le_of_ble_eq_true rfl), (Nat.le_of_ble_eq_true rfl)⟩ (fun h => by cases h) (fun v1 ly1 M1 ⟨q1, q2, q3⟩ => ?_)
            rw [q1, q2, q3]
            exact Rn.vret dX12_negation_110 rfl ⟨rfl, rfl, hFN3, Or.inr ⟨k3, j3, Dd.cmM h18 hD hb (by omega) hD2, hk3, hp3⟩⟩
      by_cases hb : bnd (kdF f n j) = 4
      · skip
        have htb := htj.1.b.1.mpr (by rw [htj.2.1]; exact hb)
        refine Rn.aload_n dX12_negation_34 rfl ?_
        refine Rn.getI dX12_negation_35 fX12_222 rfl (rc149 hRKK) ?_
        refine Rn.if_ne dX12_negation_38 (fun h9 => absurd hEKK.2.2.1 h9) (fun h9 => ?_)
        refine Rn.aload_n dX12_negation_41 rfl ?_
        refine Rn.getI dX12_negation_42 fX12_188 rfl (rc149 hRKK) ?_
        refine Rn.iconstv (v := 3) dX12_negation_45 ic_3 ?_
        refine Rn.icmp_ne dX12_negation_46 (fun h9 => absurd htb.1 h9) (fun h9 => ?_)
        refine Rn.aload_n dX12_negation_49 rfl ?_
        refine Rn.getI dX12_negation_50 fX12_198 rfl (rc149 hRKK) ?_
        refine Rn.bipushv (v := 60) dX12_negation_53 bp_60 ?_
        refine Rn.icmp_eq dX12_negation_55 (fun h28_0 => ?_) (fun h28_0 => ?_)
        · skip
          exact body hb
        · skip
          refine Rn.aload_n dX12_negation_58 rfl ?_
          refine Rn.getI dX12_negation_59 fX12_198 rfl (rc149 hRKK) ?_
          refine Rn.bipushv (v := 62) dX12_negation_62 bp_62 ?_
          refine Rn.icmp_eq dX12_negation_64 (fun h28_1 => ?_) (fun h28_1 => ?_)
          · skip
            exact body hb
          · skip
            refine Rn.aload_n dX12_negation_67 rfl ?_
            refine Rn.getI dX12_negation_68 fX12_198 rfl (rc149 hRKK) ?_
            refine Rn.bipushv (v := 61) dX12_negation_71 bp_61 ?_
            refine Rn.icmp_eq dX12_negation_73 (fun h28_2 => ?_) (fun h28_2 => ?_)
            · skip
              exact body hb
            · skip
              refine Rn.aload_n dX12_negation_76 rfl ?_
              refine Rn.getI dX12_negation_77 fX12_198 rfl (rc149 hRKK) ?_
              refine Rn.sipushv (v := 256) dX12_negation_80 sp_256 ?_
              refine Rn.icmp_ge dX12_negation_83 (fun h28_3 => ?_) (fun h28_3 => ?_)
              · skip
                exact body hb
              · skip
                exact absurd htb.2 (by rintro (g | g | g | g) <;> contradiction)
      · skip
        have htb := fun g => hb (by rw [← htj.2.1]; exact htj.1.b.1.mp g)
        refine Rn.aload_n dX12_negation_34 rfl ?_
        refine Rn.getI dX12_negation_35 fX12_222 rfl (rc149 hRKK) ?_
        refine Rn.if_ne dX12_negation_38 (fun h9 => absurd hEKK.2.2.1 h9) (fun h9 => ?_)
        refine Rn.aload_n dX12_negation_41 rfl ?_
        refine Rn.getI dX12_negation_42 fX12_188 rfl (rc149 hRKK) ?_
        refine Rn.iconstv (v := 3) dX12_negation_45 ic_3 ?_
        refine Rn.icmp_ne dX12_negation_46 (fun h27 => ?_) (fun h27 => ?_)
        · skip
          exact Rn.vret dX12_negation_86 rfl ⟨rfl, rfl, hFKK, Or.inl ⟨j, c2, e2, Dd.cmE h18 hD hb, hEKK⟩⟩
        · skip
          skip
          refine Rn.aload_n dX12_negation_49 rfl ?_
          refine Rn.getI dX12_negation_50 fX12_198 rfl (rc149 hRKK) ?_
          refine Rn.bipushv (v := 60) dX12_negation_53 bp_60 ?_
          refine Rn.icmp_eq dX12_negation_55 (fun h28_0 => ?_) (fun h28_0 => ?_)
          · skip
            exact absurd ⟨h27, (Or.inl) h28_0⟩ htb
          · skip
            refine Rn.aload_n dX12_negation_58 rfl ?_
            refine Rn.getI dX12_negation_59 fX12_198 rfl (rc149 hRKK) ?_
            refine Rn.bipushv (v := 62) dX12_negation_62 bp_62 ?_
            refine Rn.icmp_eq dX12_negation_64 (fun h28_1 => ?_) (fun h28_1 => ?_)
            · skip
              exact absurd ⟨h27, (fun x => Or.inr (Or.inl x)) h28_1⟩ htb
            · skip
              refine Rn.aload_n dX12_negation_67 rfl ?_
              refine Rn.getI dX12_negation_68 fX12_198 rfl (rc149 hRKK) ?_
              refine Rn.bipushv (v := 61) dX12_negation_71 bp_61 ?_
              refine Rn.icmp_eq dX12_negation_73 (fun h28_2 => ?_) (fun h28_2 => ?_)
              · skip
                exact absurd ⟨h27, (fun x => Or.inr (Or.inr (Or.inl x))) h28_2⟩ htb
              · skip
                refine Rn.aload_n dX12_negation_76 rfl ?_
                refine Rn.getI dX12_negation_77 fX12_198 rfl (rc149 hRKK) ?_
                refine Rn.sipushv (v := 256) dX12_negation_80 sp_256 ?_
                refine Rn.icmp_ge dX12_negation_83 (fun h28_3 => ?_) (fun h28_3 => ?_)
                · skip
                  exact absurd ⟨h27, (fun x => Or.inr (Or.inr (Or.inr x))) h28_3⟩ htb
                · skip
                  exact Rn.vret dX12_negation_86 rfl ⟨rfl, rfl, hFKK, Or.inl ⟨j, c2, e2, Dd.cmE h18 hD hb, hEKK⟩⟩
    · skip
      have hf := drf hD hk3
      refine Rn.aload_n dX12_negation_34 rfl ?_
      refine Rn.getI dX12_negation_35 fX12_222 rfl (rc149 hRKK) ?_
      refine Rn.if_ne dX12_negation_38 (fun h9 => ?_) (fun h9 => absurd h9 hf)
      exact Rn.vret dX12_negation_86 rfl ⟨rfl, rfl, hFKK, Or.inr ⟨k3, j3, Dd.cmN h18 hD, hk3, hp3⟩⟩
theorem nI_inj {a b : Nat} (ha : a < 2 ^ 31) (hb : b < 2 ^ 31) (h : nI a = nI b) : a = b := by
  have h1 := (nI_leI (a := a) (b := b) ha hb).mp (by rw [h]; exact Int32.le_refl _)
  have h2 := (nI_leI (a := b) (b := a) hb ha).mp (by rw [h]; exact Int32.le_refl _)
  omega
theorem lfN_w : ∀ w, w < 25 → 19 ≤ nI w → nI w - 19 = nI (w - 19) ∧ -1 - nI w = -1 - nI (19 + (w - 19)) ∧ w - 19 < 6 := by decide
theorem lfN_kn {k v x : Int32} (h38 : ¬ k = 38) (h : 19 ≤ k ∧ k ≤ 24) (hk : k = v) : knR (leafV k x) 1 (v - 19) := by
  subst hk
  obtain ⟨w, hw, rfl⟩ : ∃ w : Nat, w < 25 ∧ k = nI w := by
    obtain ⟨m, hm, e⟩ := nI_of (x := k) (fun g => absurd (Int32.le_trans (show (0 : Int32) ≤ 19 by decide) h.1) (Int32.not_le.mpr g))
    exact ⟨m, by have := (nI_leI (a := m) (b := 24) hm (by decide)).mp (by rw [← e]; exact h.2); omega, e⟩
  obtain ⟨a1, a2, a3⟩ := lfN_w w hw h.1
  exact Or.inr (Or.inl ⟨rfl, w - 19, a3, (if_neg h38).trans a2, a1⟩)
theorem tL_primary {G : Gx} {l : Launch} {ly : Ly} {f : Nat → Int32} {n k0 i : Nat} (hby : byA f n) (hex : ∀ i2, i < i2 → CT G l ly f n k0 1 5 mX12_expression i2) : CT G l ly f n k0 7 0 mX12_primary i := by
  intro M o c e hE hR hk hc ho
  refine Mt.of (lv := [some (.ref 149), none]) rfl ?_
  have htc := hE.tc
  have hin : i ≤ n := hE.1.2.1
  have hFM : exF M M k0 := exF.rf
  refine Rn.aload_n dX12_primary_0 rfl ?_
  refine Rn.getI dX12_primary_1 fX12_222 rfl (rc149 hR) ?_
  refine Rn.if_eq dX12_primary_4 (fun h9 => ?_) (fun h9 => absurd hE.2.2.1 h9)
  by_cases h35 : kdF f n i = 35
  · skip
    refine Rn.aload_n dX12_primary_8 rfl ?_
    refine Rn.bipushv (v := 40) dX12_primary_9 bp_40 ?_
    refine Rn.callV1 dX12_primary_11 vX12_285 (rc149 hR) (by decide) rfl (tX12_isSign (M := M) (x := 40) hR) (by omega) ⟨(Nat.le_of_ble_eq_true rfl), (Nat.le_of_ble_eq_true rfl), (Nat.le_of_ble_eq_true rfl)⟩ (fun h => by cases h) (fun v1 ly1 M1 ⟨q1, q2, q3⟩ => ?_)
    rw [q1, q2, q3]
    refine Rn.topI (y := 1) (isT_y hE.2.2.1 ((htc.1.g (q := 40) (by decide)).mpr (htc.2.1.trans h35))) ?_
    refine Rn.if_eq dX12_primary_14 (fun h9 => (by first | exact absurd h9 (by decide) | exact absurd (by decide) h9)) (fun h9 => ?_)
    have hlt := nx_lt hby hin (fun g => by rw [h35] at g; exact absurd g (by decide))
    refine Rn.aload_n dX12_primary_17 rfl ?_
    refine Rn.getI dX12_primary_18 fX12_321 rfl (rc149 hR) ?_
    refine Rn.topI (y := nI o) (hE.2.2.2.1) ?_
    refine Rn.bipushv (v := 8) dX12_primary_21 bp_8 ?_
    refine Rn.icmp_ne dX12_primary_23 (fun ho8 => ?_) (fun ho8 => ?_)
    · skip
      have hlo : o < 8 := Nat.lt_of_le_of_ne ho (fun g => ho8 (by rw [g]; rfl))
      refine Rn.aload_n dX12_primary_31 rfl ?_
      refine Rn.getI dX12_primary_32 fX12_222 rfl (rc149 hR) ?_
      refine Rn.if_eq dX12_primary_35 (fun h9 => ?_) (fun h9 => absurd hE.2.2.1 h9)
      refine Rn.aload_n dX12_primary_39 rfl ?_
      refine Rn.dup dX12_primary_40 rfl ?_
      refine Rn.getI dX12_primary_41 fX12_321 rfl (rc149 hR) ?_
      refine Rn.topI (y := nI o) (hE.2.2.2.1) ?_
      refine Rn.iconstv (v := 1) dX12_primary_44 ic_1 ?_
      refine Rn.iadd dX12_primary_45 ?_
      refine Rn.topI (y := nI (o + 1)) (nI_add o 1) ?_
      refine Rn.putI dX12_primary_46 fX12_321 rfl rfl rfl (rc149 hR) ?_
      refine Rn.aload_n dX12_primary_49 rfl ?_
      obtain ⟨N0, hN0⟩ : ∃ N9, N9 = sI M 149 (upd (M.1 149) 33 (nI (o + 1))) := ⟨_, rfl⟩
      rw [← hN0]
      have hEN0 : EX N0 f n i (o + 1) c k0 e := by rw [hN0]; exact hE.op
      have hFN0 : exF M N0 k0 := by rw [hN0]; exact exF.f (fun j hj => pk_un (by omega))
      have hRN0 : RW ly N0.2.2 := by rw [hFN0.1]; exact hR
      refine Rn.callV0 dX12_primary_50 vX12_228 (rc149 hRN0) (by decide) rfl (tokY (M := N0) hEN0 hRN0) (by omega) ⟨(Nat.le_of_ble_eq_true rfl), (Nat.le_of_ble_eq_true rfl), (Nat.le_of_ble_eq_true rfl)⟩ (fun h => by cases h) (fun v1 ly1 N2 ⟨q1, q2, t1, hEN2⟩ => ?_)
      rw [q1, q2]
      have hFN2 : exF M N2 k0 := hFN0.tr (exF.tok t1)
      have hRN2 : RW ly N2.2.2 := by rw [hFN2.1]; exact hR
      refine Rn.aload_n dX12_primary_53 rfl ?_
      refine Rn.callV0 dX12_primary_54 vX12_291 (rc149 hRN2) (by decide) rfl (hex (nx f n i) hlt N2 (o + 1) c e hEN2 hRN2 (by omega) (by omega) (by omega)) (by omega) ⟨(Nat.le_of_ble_eq_true rfl), (Nat.le_of_ble_eq_true rfl), (Nat.le_of_ble_eq_true rfl)⟩ (fun h => by cases h) (fun v1 ly1 KK ⟨q1, q2, hGKK, hh⟩ => ?_)
      rw [q1, q2]
      have hFKK : exF M KK k0 := hFN2.tr hGKK
      have hRKK : RW ly KK.2.2 := by rw [hFKK.1]; exact hR
      rcases hh with ⟨j, c2, e2, hD, hEKK⟩ | ⟨k3, j3, hD, hk3, hp3⟩
      · skip
        obtain ⟨hB1, hB2, hB3, hB4⟩ := hD.b
        have hB5 := hB3 (by omega)
        have hB6 := hB4 (nx_mono hby)
        have htj := hEKK.tc
        have hjn : j ≤ n := hEKK.1.2.1
        refine Rn.aload_n dX12_primary_57 rfl ?_
        refine Rn.getI dX12_primary_58 fX12_222 rfl (rc149 hRKK) ?_
        refine Rn.if_ne dX12_primary_61 (fun h9 => absurd hEKK.2.2.1 h9) (fun h9 => ?_)
        by_cases h36 : kdF f n j = 36
        · skip
          refine Rn.aload_n dX12_primary_64 rfl ?_
          refine Rn.bipushv (v := 41) dX12_primary_65 bp_41 ?_
          refine Rn.callV1 dX12_primary_67 vX12_285 (rc149 hRKK) (by decide) rfl (tX12_isSign (M := KK) (x := 41) hRKK) (by omega) ⟨(Nat.le_of_ble_eq_true rfl), (Nat.le_of_ble_eq_true rfl), (Nat.le_of_ble_eq_true rfl)⟩ (fun h => by cases h) (fun v1 ly1 M1 ⟨q1, q2, q3⟩ => ?_)
          rw [q1, q2, q3]
          refine Rn.topI (y := 1) (isT_y hEKK.2.2.1 ((htj.1.g (q := 41) (by decide)).mpr (htj.2.1.trans h36))) ?_
          refine Rn.if_ne dX12_primary_70 (fun h9 => ?_) (fun h9 => (by first | exact absurd h9 (by decide) | exact absurd (by decide) h9))
          refine Rn.aload_n dX12_primary_78 rfl ?_
          refine Rn.getI dX12_primary_79 fX12_222 rfl (rc149 hRKK) ?_
          refine Rn.if_eq dX12_primary_82 (fun h9 => ?_) (fun h9 => absurd hEKK.2.2.1 h9)
          refine Rn.aload_n dX12_primary_86 rfl ?_
          refine Rn.dup dX12_primary_87 rfl ?_
          refine Rn.getI dX12_primary_88 fX12_321 rfl (rc149 hRKK) ?_
          refine Rn.topI (y := nI (o + 1)) (hEKK.2.2.2.1) ?_
          refine Rn.iconstv (v := 1) dX12_primary_91 ic_1 ?_
          refine Rn.isub dX12_primary_92 ?_
          refine Rn.topI (y := nI o) (nI_subk o 1) ?_
          refine Rn.putI dX12_primary_93 fX12_321 rfl rfl rfl (rc149 hRKK) ?_
          refine Rn.aload_n dX12_primary_96 rfl ?_
          obtain ⟨N5, hN5⟩ : ∃ N9, N9 = sI KK 149 (upd (KK.1 149) 33 (nI o)) := ⟨_, rfl⟩
          rw [← hN5]
          have hEN5 : EX N5 f n j o c2 k0 e2 := by rw [hN5]; exact hEKK.op
          have hGN5 : exF KK N5 k0 := by rw [hN5]; exact exF.f (fun j hj => pk_un (by omega))
          have hFN5 : exF M N5 k0 := hFKK.tr hGN5
          have hRN5 : RW ly N5.2.2 := by rw [hFN5.1]; exact hR
          refine Rn.callV0 dX12_primary_97 vX12_228 (rc149 hRN5) (by decide) rfl (tokY (M := N5) hEN5 hRN5) (by omega) ⟨(Nat.le_of_ble_eq_true rfl), (Nat.le_of_ble_eq_true rfl), (Nat.le_of_ble_eq_true rfl)⟩ (fun h => by cases h) (fun v1 ly1 N6 ⟨q1, q2, t1, hEN6⟩ => ?_)
          rw [q1, q2]
          have hFN6 : exF M N6 k0 := hFN5.tr (exF.tok t1)
          have hRN6 : RW ly N6.2.2 := by rw [hFN6.1]; exact hR
          exact Rn.vret dX12_primary_100 rfl ⟨rfl, rfl, hFN6, Or.inl ⟨_, c2, e2, Dd.opY hlo h35 hD h36, hEN6⟩⟩
        · skip
          refine Rn.aload_n dX12_primary_64 rfl ?_
          refine Rn.bipushv (v := 41) dX12_primary_65 bp_41 ?_
          refine Rn.callV1 dX12_primary_67 vX12_285 (rc149 hRKK) (by decide) rfl (tX12_isSign (M := KK) (x := 41) hRKK) (by omega) ⟨(Nat.le_of_ble_eq_true rfl), (Nat.le_of_ble_eq_true rfl), (Nat.le_of_ble_eq_true rfl)⟩ (fun h => by cases h) (fun v1 ly1 M1 ⟨q1, q2, q3⟩ => ?_)
          rw [q1, q2, q3]
          refine Rn.topI (y := 0) (isT_n (fun g => h36 (htj.2.1.symm.trans ((htj.1.g (q := 41) (by decide)).mp g)))) ?_
          refine Rn.if_ne dX12_primary_70 (fun h9 => (by first | exact absurd h9 (by decide) | exact absurd (by decide) h9)) (fun h9 => ?_)
          refine Rn.aload_n dX12_primary_73 rfl ?_
          refine Rn.iconstv (v := 1) dX12_primary_74 ic_1 ?_
          refine Rn.callV1 dX12_primary_75 vX12_231 (rc149 hRKK) (by decide) rfl (rdWrong (M := KK) (x := 1) hEKK.2.2.1 hRKK) (by omega) ⟨(Nat.le_of_ble_eq_true rfl), (Nat.le_of_ble_eq_true rfl), (Nat.le_of_ble_eq_true rfl)⟩ (fun h => by cases h) (fun v1 ly1 M1 ⟨q1, q2, q3⟩ => ?_)
          rw [q1, q2, q3]
          obtain ⟨N1, hN1⟩ : ∃ N9, N9 = wrM KK 1 := ⟨_, rfl⟩
          rw [← hN1]
          have hfN1 : ¬ N1.1 149 29 = 0 := by rw [hN1]; exact (show ¬ ((1 : Int32) = 0) by decide)
          have hvN1 : N1.1 149 29 = 1 ∧ N1.1 149 30 = KK.1 149 26 := by rw [hN1]; exact ⟨rfl, rfl⟩
          have hFN1 : exF KK N1 k0 := by rw [hN1]; exact exF.wr
          have hRN1 : RW ly N1.2.2 := by rw [hFN1.1.trans (hFKK.1)]; exact hR
          refine Rn.aload_n dX12_primary_78 rfl ?_
          refine Rn.getI dX12_primary_79 fX12_222 rfl (rc149 hRN1) ?_
          refine Rn.if_eq dX12_primary_82 (fun h9 => absurd h9 hfN1) (fun h9 => ?_)
          exact Rn.vret dX12_primary_85 rfl ⟨rfl, rfl, hFKK.tr hFN1, Or.inr ⟨1, j, Dd.opU hlo h35 hD h36, hvN1.1, hvN1.2.trans hEKK.pl⟩⟩
      · skip
        have hf := drf hD hk3
        refine Rn.aload_n dX12_primary_57 rfl ?_
        refine Rn.getI dX12_primary_58 fX12_222 rfl (rc149 hRKK) ?_
        refine Rn.if_ne dX12_primary_61 (fun h9 => ?_) (fun h9 => absurd h9 hf)
        refine Rn.aload_n dX12_primary_78 rfl ?_
        refine Rn.getI dX12_primary_79 fX12_222 rfl (rc149 hRKK) ?_
        refine Rn.if_eq dX12_primary_82 (fun h9 => absurd h9 hf) (fun h9 => ?_)
        exact Rn.vret dX12_primary_85 rfl ⟨rfl, rfl, hFKK, Or.inr ⟨k3, j3, Dd.opN hlo h35 hD, hk3, hp3⟩⟩
    · skip
      have ho8b : o = 8 := nI_inj (by omega) (by decide) ho8
      subst ho8b
      refine Rn.aload_n dX12_primary_26 rfl ?_
      refine Rn.iconstv (v := 2) dX12_primary_27 ic_2 ?_
      refine Rn.callV1 dX12_primary_28 vX12_231 (rc149 hR) (by decide) rfl (rdWrong (M := M) (x := 2) hE.2.2.1 hR) (by omega) ⟨(Nat.le_of_ble_eq_true rfl), (Nat.le_of_ble_eq_true rfl), (Nat.le_of_ble_eq_true rfl)⟩ (fun h => by cases h) (fun v1 ly1 M1 ⟨q1, q2, q3⟩ => ?_)
      rw [q1, q2, q3]
      obtain ⟨N1, hN1⟩ : ∃ N9, N9 = wrM M 2 := ⟨_, rfl⟩
      rw [← hN1]
      have hfN1 : ¬ N1.1 149 29 = 0 := by rw [hN1]; exact (show ¬ ((2 : Int32) = 0) by decide)
      have hvN1 : N1.1 149 29 = 2 ∧ N1.1 149 30 = M.1 149 26 := by rw [hN1]; exact ⟨rfl, rfl⟩
      have hFN1 : exF M N1 k0 := by rw [hN1]; exact exF.wr
      have hRN1 : RW ly N1.2.2 := by rw [hFN1.1.trans rfl]; exact hR
      refine Rn.aload_n dX12_primary_31 rfl ?_
      refine Rn.getI dX12_primary_32 fX12_222 rfl (rc149 hRN1) ?_
      refine Rn.if_eq dX12_primary_35 (fun h9 => absurd h9 hfN1) (fun h9 => ?_)
      exact Rn.vret dX12_primary_38 rfl ⟨rfl, rfl, hFN1, Or.inr ⟨2, i, Dd.op8 h35, hvN1.1, hvN1.2.trans hE.pl⟩⟩
  · skip
    refine Rn.aload_n dX12_primary_8 rfl ?_
    refine Rn.bipushv (v := 40) dX12_primary_9 bp_40 ?_
    refine Rn.callV1 dX12_primary_11 vX12_285 (rc149 hR) (by decide) rfl (tX12_isSign (M := M) (x := 40) hR) (by omega) ⟨(Nat.le_of_ble_eq_true rfl), (Nat.le_of_ble_eq_true rfl), (Nat.le_of_ble_eq_true rfl)⟩ (fun h => by cases h) (fun v1 ly1 M1 ⟨q1, q2, q3⟩ => ?_)
    rw [q1, q2, q3]
    refine Rn.topI (y := 0) (isT_n (fun g => h35 (htc.2.1.symm.trans ((htc.1.g (q := 40) (by decide)).mp g)))) ?_
    refine Rn.if_eq dX12_primary_14 (fun h9 => ?_) (fun h9 => (by first | exact absurd h9 (by decide) | exact absurd (by decide) h9))
    by_cases h38 : kdF f n i = 38
    · skip
      have hs2 := htc.1.n.1.mpr (htc.2.1.trans h38)
      have hnv := htc.2.2 (fun g => by rw [h38] at g; exact absurd g (by decide))
      have hlf : lfK (kdF f n i) := Or.inl h38
      refine Rn.aload_n dX12_primary_101 rfl ?_
      refine Rn.getI dX12_primary_102 fX12_188 rfl (rc149 hR) ?_
      refine Rn.iconstv (v := 2) dX12_primary_105 ic_2 ?_
      refine Rn.icmp_ne dX12_primary_106 (fun h9 => absurd hs2 h9) (fun h9 => ?_)
      refine Rn.iconstv (v := 1) dX12_primary_109 ic_1 ?_
      refine Rn.goto dX12_primary_110 ?_
      refine Rn.istore_n (lv' := [some (.ref 149), some (.int 1)]) dX12_primary_114 (by decide) rfl ?_
      refine Rn.iload_n dX12_primary_115 rfl ?_
      refine Rn.if_eq dX12_primary_116 (fun h9 => (by first | exact absurd h9 (by decide) | exact absurd (by decide) h9)) (fun h9 => ?_)
      refine Rn.aload_n dX12_primary_119 rfl ?_
      refine Rn.getI dX12_primary_120 fX12_198 rfl (rc149 hR) ?_
      refine Rn.sipushv (v := 9999) dX12_primary_123 sp_9999 ?_
      refine Rn.icmp_le dX12_primary_126 (fun h99 => ?_) (fun h99 => ?_)
      · skip
        have hbig : ¬ bigN (kdF f n i) (nvF f n i) := fun g => absurd (by rw [← hnv] at g; exact g.2) (Int32.not_lt.mpr h99)
        refine Rn.iload_n dX12_primary_137 rfl ?_
        refine Rn.if_ne dX12_primary_138 (fun h9 => ?_) (fun h9 => (by first | exact absurd h9 (by decide) | exact absurd (by decide) h9))
        by_cases h64 : c = 64
        · skip
          refine Rn.aload_n dX12_primary_162 rfl ?_
          subst h64
          refine Rn.callV0 dX12_primary_163 vX12_303 (rc149 hR) (by decide) rfl (knot64 (M := M) hE.2.2.2.2.1 hE.2.2.1 hR) (by omega) ⟨(Nat.le_of_ble_eq_true rfl), (Nat.le_of_ble_eq_true rfl), (Nat.le_of_ble_eq_true rfl)⟩ (fun h => by cases h) (fun v1 ly1 M1 ⟨q1, q2, q3⟩ => ?_)
          rw [q1, q2, q3]
          obtain ⟨N1, hN1⟩ : ∃ N9, N9 = wrM M 2 := ⟨_, rfl⟩
          rw [← hN1]
          have hfN1 : ¬ N1.1 149 29 = 0 := by rw [hN1]; exact (show ¬ ((2 : Int32) = 0) by decide)
          have hvN1 : N1.1 149 29 = 2 ∧ N1.1 149 30 = M.1 149 26 := by rw [hN1]; exact ⟨rfl, rfl⟩
          have hFN1 : exF M N1 k0 := by rw [hN1]; exact exF.wr
          have hRN1 : RW ly N1.2.2 := by rw [hFN1.1.trans rfl]; exact hR
          refine Rn.aload_n dX12_primary_166 rfl ?_
          refine Rn.iload_n dX12_primary_167 rfl ?_
          refine Rn.if_eq dX12_primary_168 (fun h9 => (by first | exact absurd h9 (by decide) | exact absurd (by decide) h9)) (fun h9 => ?_)
          refine Rn.iconstv (v := 0) dX12_primary_171 ic_0 ?_
          refine Rn.goto dX12_primary_172 ?_
          refine Rn.iload_n dX12_primary_176 rfl ?_
          refine Rn.if_eq dX12_primary_177 (fun h9 => (by first | exact absurd h9 (by decide) | exact absurd (by decide) h9)) (fun h9 => ?_)
          refine Rn.aload_n dX12_primary_180 rfl ?_
          refine Rn.getI dX12_primary_181 fX12_198 rfl (rc149 hRN1) ?_
          refine Rn.goto dX12_primary_184 ?_
          refine Rn.callV2 dX12_primary_194 vX12_306 (rc149 hRN1) (by decide) rfl (puts0 (M := N1) hfN1 hRN1) (by omega) ⟨(Nat.le_of_ble_eq_true rfl), (Nat.le_of_ble_eq_true rfl), (Nat.le_of_ble_eq_true rfl)⟩ (fun h => by cases h) (fun v1 ly1 M1 ⟨q1, q2, q3⟩ => ?_)
          rw [q1, q2, q3]
          refine Rn.aload_n dX12_primary_197 rfl ?_
          refine Rn.callV0 dX12_primary_198 vX12_238 (rc149 hRN1) (by decide) rfl (rdGo0 (M := N1) hfN1 hRN1) (by omega) ⟨(Nat.le_of_ble_eq_true rfl), (Nat.le_of_ble_eq_true rfl), (Nat.le_of_ble_eq_true rfl)⟩ (fun h => by cases h) (fun v1 ly1 M1 ⟨q1, q2, q3⟩ => ?_)
          rw [q1, q2, q3]
          exact Rn.vret dX12_primary_201 rfl ⟨rfl, rfl, hFN1, Or.inr ⟨2, i, Dd.lfB hlf (Or.inl rfl), hvN1.1, hvN1.2.trans hE.pl⟩⟩
        · skip
          refine Rn.aload_n dX12_primary_162 rfl ?_
          refine Rn.callV0 dX12_primary_163 vX12_303 (rc149 hR) (by decide) rfl (knotGo (M := M) hE.2.2.2.2.1 (by omega) hE.2.2.1 hR) (by omega) ⟨(Nat.le_of_ble_eq_true rfl), (Nat.le_of_ble_eq_true rfl), (Nat.le_of_ble_eq_true rfl)⟩ (fun h => by cases h) (fun v1 ly1 M1 ⟨q1, q2, q3⟩ => ?_)
          rw [q1, q2, q3]
          obtain ⟨N1, hN1⟩ : ∃ N9, N9 = sI M 149 (upd (M.1 149) 34 (nI (c + 1))) := ⟨_, rfl⟩
          rw [← hN1]
          have hEN1 : EX N1 f n i o (c + 1) k0 e := by rw [hN1]; exact hE.knot
          have hGN1 : exF M N1 k0 := by rw [hN1]; exact exF.f (fun j hj => pk_un (by omega))
          have hFN1 : exF M N1 k0 := hFM.tr hGN1
          have hRN1 : RW ly N1.2.2 := by rw [hFN1.1]; exact hR
          refine Rn.aload_n dX12_primary_166 rfl ?_
          refine Rn.iload_n dX12_primary_167 rfl ?_
          refine Rn.if_eq dX12_primary_168 (fun h9 => (by first | exact absurd h9 (by decide) | exact absurd (by decide) h9)) (fun h9 => ?_)
          refine Rn.iconstv (v := 0) dX12_primary_171 ic_0 ?_
          refine Rn.goto dX12_primary_172 ?_
          refine Rn.iload_n dX12_primary_176 rfl ?_
          refine Rn.if_eq dX12_primary_177 (fun h9 => (by first | exact absurd h9 (by decide) | exact absurd (by decide) h9)) (fun h9 => ?_)
          refine Rn.aload_n dX12_primary_180 rfl ?_
          refine Rn.getI dX12_primary_181 fX12_198 rfl (rc149 hRN1) ?_
          refine Rn.goto dX12_primary_184 ?_
          have h28 : N1.1 149 28 = M.1 149 28 := by rw [hN1]; rfl
          refine Rn.callV2 dX12_primary_194 vX12_306 (rc149 hRN1) (by decide) rfl (putsY (M := N1) (x := 0) (y := N1.1 149 28) hEN1 (by omega) hRN1) (by omega) ⟨(Nat.le_of_ble_eq_true rfl), (Nat.le_of_ble_eq_true rfl), (Nat.le_of_ble_eq_true rfl)⟩ (fun h => by cases h) (fun v1 ly1 M1 ⟨q1, q2, q3⟩ => ?_)
          rw [q1, q2, q3]
          obtain ⟨N2, hN2⟩ : ∃ N9, N9 = sI (sI (sI N1 167 (upd (N1.1 167) (64 + (k0 + e.length)) 0)) 168 (upd (N1.1 168) (64 + (k0 + e.length)) (N1.1 149 28))) 151 (upd (N1.1 151) 25 (nI (k0 + e.length + 1))) := ⟨_, rfl⟩
          rw [← hN2]
          have hEN2 : EX N2 f n i o (c + 1) k0 (leafV (kdF f n i) (nvF f n i) :: e) := by rw [hN2]; exact hEN1.put (by rw [h28]; exact Or.inl ⟨rfl, by rw [hnv]; exact if_pos h38, htc.1.n.2.2.2 hs2⟩)
          have hGN2 : exF N1 N2 k0 := by rw [hN2]; exact exF.put (by omega)
          have hFN2 : exF M N2 k0 := hFN1.tr hGN2
          have hRN2 : RW ly N2.2.2 := by rw [hFN2.1]; exact hR
          refine Rn.aload_n dX12_primary_197 rfl ?_
          refine Rn.callV0 dX12_primary_198 vX12_238 (rc149 hRN2) (by decide) rfl (goOnY (M := N2) hEN2 hRN2) (by omega) ⟨(Nat.le_of_ble_eq_true rfl), (Nat.le_of_ble_eq_true rfl), (Nat.le_of_ble_eq_true rfl)⟩ (fun h => by cases h) (fun v1 ly1 N3 ⟨q1, q2, t1, hEN3⟩ => ?_)
          rw [q1, q2]
          have hFN3 : exF M N3 k0 := hFN2.tr (exF.tok t1)
          have hRN3 : RW ly N3.2.2 := by rw [hFN3.1]; exact hR
          exact Rn.vret dX12_primary_201 rfl ⟨rfl, rfl, hFN3, Or.inl ⟨_, _, _, Dd.lfY hlf (by omega) hbig, hEN3⟩⟩
      · skip
        refine Rn.aload_n dX12_primary_129 rfl ?_
        refine Rn.iconstv (v := 2) dX12_primary_130 ic_2 ?_
        refine Rn.callV1 dX12_primary_131 vX12_231 (rc149 hR) (by decide) rfl (rdWrong (M := M) (x := 2) hE.2.2.1 hR) (by omega) ⟨(Nat.le_of_ble_eq_true rfl), (Nat.le_of_ble_eq_true rfl), (Nat.le_of_ble_eq_true rfl)⟩ (fun h => by cases h) (fun v1 ly1 M1 ⟨q1, q2, q3⟩ => ?_)
        rw [q1, q2, q3]
        obtain ⟨N1, hN1⟩ : ∃ N9, N9 = wrM M 2 := ⟨_, rfl⟩
        rw [← hN1]
        have hfN1 : ¬ N1.1 149 29 = 0 := by rw [hN1]; exact (show ¬ ((2 : Int32) = 0) by decide)
        have hvN1 : N1.1 149 29 = 2 ∧ N1.1 149 30 = M.1 149 26 := by rw [hN1]; exact ⟨rfl, rfl⟩
        have hFN1 : exF M N1 k0 := by rw [hN1]; exact exF.wr
        have hRN1 : RW ly N1.2.2 := by rw [hFN1.1.trans rfl]; exact hR
        refine Rn.goto dX12_primary_134 ?_
        refine Rn.aload_n dX12_primary_162 rfl ?_
        refine Rn.callV0 dX12_primary_163 vX12_303 (rc149 hRN1) (by decide) rfl (knot0 (M := N1) hfN1 hRN1) (by omega) ⟨(Nat.le_of_ble_eq_true rfl), (Nat.le_of_ble_eq_true rfl), (Nat.le_of_ble_eq_true rfl)⟩ (fun h => by cases h) (fun v1 ly1 M1 ⟨q1, q2, q3⟩ => ?_)
        rw [q1, q2, q3]
        refine Rn.aload_n dX12_primary_166 rfl ?_
        refine Rn.iload_n dX12_primary_167 rfl ?_
        refine Rn.if_eq dX12_primary_168 (fun h9 => (by first | exact absurd h9 (by decide) | exact absurd (by decide) h9)) (fun h9 => ?_)
        refine Rn.iconstv (v := 0) dX12_primary_171 ic_0 ?_
        refine Rn.goto dX12_primary_172 ?_
        refine Rn.iload_n dX12_primary_176 rfl ?_
        refine Rn.if_eq dX12_primary_177 (fun h9 => (by first | exact absurd h9 (by decide) | exact absurd (by decide) h9)) (fun h9 => ?_)
        refine Rn.aload_n dX12_primary_180 rfl ?_
        refine Rn.getI dX12_primary_181 fX12_198 rfl (rc149 hRN1) ?_
        refine Rn.goto dX12_primary_184 ?_
        refine Rn.callV2 dX12_primary_194 vX12_306 (rc149 hRN1) (by decide) rfl (puts0 (M := N1) hfN1 hRN1) (by omega) ⟨(Nat.le_of_ble_eq_true rfl), (Nat.le_of_ble_eq_true rfl), (Nat.le_of_ble_eq_true rfl)⟩ (fun h => by cases h) (fun v1 ly1 M1 ⟨q1, q2, q3⟩ => ?_)
        rw [q1, q2, q3]
        refine Rn.aload_n dX12_primary_197 rfl ?_
        refine Rn.callV0 dX12_primary_198 vX12_238 (rc149 hRN1) (by decide) rfl (rdGo0 (M := N1) hfN1 hRN1) (by omega) ⟨(Nat.le_of_ble_eq_true rfl), (Nat.le_of_ble_eq_true rfl), (Nat.le_of_ble_eq_true rfl)⟩ (fun h => by cases h) (fun v1 ly1 M1 ⟨q1, q2, q3⟩ => ?_)
        rw [q1, q2, q3]
        exact Rn.vret dX12_primary_201 rfl ⟨rfl, rfl, hFN1, Or.inr ⟨2, i, Dd.lfB hlf (Or.inr ⟨h38, by rw [← hnv]; exact Int32.not_le.mp h99⟩), hvN1.1, hvN1.2.trans hE.pl⟩⟩
    · skip
      have hs2 : ¬ M.1 149 27 = 2 := fun g => h38 (htc.2.1.symm.trans (htc.1.n.1.mp g))
      refine Rn.aload_n dX12_primary_101 rfl ?_
      refine Rn.getI dX12_primary_102 fX12_188 rfl (rc149 hR) ?_
      refine Rn.iconstv (v := 2) dX12_primary_105 ic_2 ?_
      refine Rn.icmp_ne dX12_primary_106 (fun h9 => ?_) (fun h9 => absurd h9 hs2)
      refine Rn.iconstv (v := 0) dX12_primary_113 ic_0 ?_
      refine Rn.istore_n (lv' := [some (.ref 149), some (.int 0)]) dX12_primary_114 (by decide) rfl ?_
      refine Rn.iload_n dX12_primary_115 rfl ?_
      refine Rn.if_eq dX12_primary_116 (fun h9 => ?_) (fun h9 => (by first | exact absurd h9 (by decide) | exact absurd (by decide) h9))
      refine Rn.iload_n dX12_primary_137 rfl ?_
      refine Rn.if_ne dX12_primary_138 (fun h9 => (by first | exact absurd h9 (by decide) | exact absurd (by decide) h9)) (fun h9 => ?_)
      by_cases hlf : lfK (kdF f n i)
      · skip
        have hnm := hlf.elim (fun g => absurd g h38) (fun g => g)
        have htb := htc.1.b.2.2.2.2.2.1.mpr (by rw [htc.2.1]; exact hnm)
        have hbig : ¬ bigN (kdF f n i) (nvF f n i) := fun g => h38 g.1
        have hkv : kdF f n i = M.1 149 28 := by rw [← htc.2.1, htb.1]; rfl
        refine Rn.aload_n dX12_primary_141 rfl ?_
        refine Rn.getI dX12_primary_142 fX12_188 rfl (rc149 hR) ?_
        refine Rn.if_ne dX12_primary_145 (fun h9 => absurd htb.1 h9) (fun h9 => ?_)
        refine Rn.aload_n dX12_primary_148 rfl ?_
        refine Rn.getI dX12_primary_149 fX12_198 rfl (rc149 hR) ?_
        refine Rn.bipushv (v := 19) dX12_primary_152 bp_19 ?_
        refine Rn.icmp_ge dX12_primary_154 (fun h9 => ?_) (fun h9 => absurd htb.2 h9)
        by_cases h64 : c = 64
        · skip
          refine Rn.aload_n dX12_primary_162 rfl ?_
          subst h64
          refine Rn.callV0 dX12_primary_163 vX12_303 (rc149 hR) (by decide) rfl (knot64 (M := M) hE.2.2.2.2.1 hE.2.2.1 hR) (by omega) ⟨(Nat.le_of_ble_eq_true rfl), (Nat.le_of_ble_eq_true rfl), (Nat.le_of_ble_eq_true rfl)⟩ (fun h => by cases h) (fun v1 ly1 M1 ⟨q1, q2, q3⟩ => ?_)
          rw [q1, q2, q3]
          obtain ⟨N1, hN1⟩ : ∃ N9, N9 = wrM M 2 := ⟨_, rfl⟩
          rw [← hN1]
          have hfN1 : ¬ N1.1 149 29 = 0 := by rw [hN1]; exact (show ¬ ((2 : Int32) = 0) by decide)
          have hvN1 : N1.1 149 29 = 2 ∧ N1.1 149 30 = M.1 149 26 := by rw [hN1]; exact ⟨rfl, rfl⟩
          have hFN1 : exF M N1 k0 := by rw [hN1]; exact exF.wr
          have hRN1 : RW ly N1.2.2 := by rw [hFN1.1.trans rfl]; exact hR
          refine Rn.aload_n dX12_primary_166 rfl ?_
          refine Rn.iload_n dX12_primary_167 rfl ?_
          refine Rn.if_eq dX12_primary_168 (fun h9 => ?_) (fun h9 => (by first | exact absurd h9 (by decide) | exact absurd (by decide) h9))
          refine Rn.iconstv (v := 1) dX12_primary_175 ic_1 ?_
          refine Rn.iload_n dX12_primary_176 rfl ?_
          refine Rn.if_eq dX12_primary_177 (fun h9 => ?_) (fun h9 => (by first | exact absurd h9 (by decide) | exact absurd (by decide) h9))
          refine Rn.aload_n dX12_primary_187 rfl ?_
          refine Rn.getI dX12_primary_188 fX12_198 rfl (rc149 hRN1) ?_
          refine Rn.bipushv (v := 19) dX12_primary_191 bp_19 ?_
          refine Rn.isub dX12_primary_193 ?_
          refine Rn.callV2 dX12_primary_194 vX12_306 (rc149 hRN1) (by decide) rfl (puts0 (M := N1) hfN1 hRN1) (by omega) ⟨(Nat.le_of_ble_eq_true rfl), (Nat.le_of_ble_eq_true rfl), (Nat.le_of_ble_eq_true rfl)⟩ (fun h => by cases h) (fun v1 ly1 M1 ⟨q1, q2, q3⟩ => ?_)
          rw [q1, q2, q3]
          refine Rn.aload_n dX12_primary_197 rfl ?_
          refine Rn.callV0 dX12_primary_198 vX12_238 (rc149 hRN1) (by decide) rfl (rdGo0 (M := N1) hfN1 hRN1) (by omega) ⟨(Nat.le_of_ble_eq_true rfl), (Nat.le_of_ble_eq_true rfl), (Nat.le_of_ble_eq_true rfl)⟩ (fun h => by cases h) (fun v1 ly1 M1 ⟨q1, q2, q3⟩ => ?_)
          rw [q1, q2, q3]
          exact Rn.vret dX12_primary_201 rfl ⟨rfl, rfl, hFN1, Or.inr ⟨2, i, Dd.lfB hlf (Or.inl rfl), hvN1.1, hvN1.2.trans hE.pl⟩⟩
        · skip
          refine Rn.aload_n dX12_primary_162 rfl ?_
          refine Rn.callV0 dX12_primary_163 vX12_303 (rc149 hR) (by decide) rfl (knotGo (M := M) hE.2.2.2.2.1 (by omega) hE.2.2.1 hR) (by omega) ⟨(Nat.le_of_ble_eq_true rfl), (Nat.le_of_ble_eq_true rfl), (Nat.le_of_ble_eq_true rfl)⟩ (fun h => by cases h) (fun v1 ly1 M1 ⟨q1, q2, q3⟩ => ?_)
          rw [q1, q2, q3]
          obtain ⟨N1, hN1⟩ : ∃ N9, N9 = sI M 149 (upd (M.1 149) 34 (nI (c + 1))) := ⟨_, rfl⟩
          rw [← hN1]
          have hEN1 : EX N1 f n i o (c + 1) k0 e := by rw [hN1]; exact hE.knot
          have hGN1 : exF M N1 k0 := by rw [hN1]; exact exF.f (fun j hj => pk_un (by omega))
          have hFN1 : exF M N1 k0 := hFM.tr hGN1
          have hRN1 : RW ly N1.2.2 := by rw [hFN1.1]; exact hR
          refine Rn.aload_n dX12_primary_166 rfl ?_
          refine Rn.iload_n dX12_primary_167 rfl ?_
          refine Rn.if_eq dX12_primary_168 (fun h9 => ?_) (fun h9 => (by first | exact absurd h9 (by decide) | exact absurd (by decide) h9))
          refine Rn.iconstv (v := 1) dX12_primary_175 ic_1 ?_
          refine Rn.iload_n dX12_primary_176 rfl ?_
          refine Rn.if_eq dX12_primary_177 (fun h9 => ?_) (fun h9 => (by first | exact absurd h9 (by decide) | exact absurd (by decide) h9))
          refine Rn.aload_n dX12_primary_187 rfl ?_
          refine Rn.getI dX12_primary_188 fX12_198 rfl (rc149 hRN1) ?_
          refine Rn.bipushv (v := 19) dX12_primary_191 bp_19 ?_
          refine Rn.isub dX12_primary_193 ?_
          have h28 : N1.1 149 28 = M.1 149 28 := by rw [hN1]; rfl
          refine Rn.callV2 dX12_primary_194 vX12_306 (rc149 hRN1) (by decide) rfl (putsY (M := N1) (x := 1) (y := (N1.1 149 28) - 19) hEN1 (by omega) hRN1) (by omega) ⟨(Nat.le_of_ble_eq_true rfl), (Nat.le_of_ble_eq_true rfl), (Nat.le_of_ble_eq_true rfl)⟩ (fun h => by cases h) (fun v1 ly1 M1 ⟨q1, q2, q3⟩ => ?_)
          rw [q1, q2, q3]
          obtain ⟨N2, hN2⟩ : ∃ N9, N9 = sI (sI (sI N1 167 (upd (N1.1 167) (64 + (k0 + e.length)) 1)) 168 (upd (N1.1 168) (64 + (k0 + e.length)) (N1.1 149 28 - 19))) 151 (upd (N1.1 151) 25 (nI (k0 + e.length + 1))) := ⟨_, rfl⟩
          rw [← hN2]
          have hEN2 : EX N2 f n i o (c + 1) k0 (leafV (kdF f n i) (nvF f n i) :: e) := by rw [hN2]; exact hEN1.put (by rw [h28]; exact lfN_kn h38 hnm hkv)
          have hGN2 : exF N1 N2 k0 := by rw [hN2]; exact exF.put (by omega)
          have hFN2 : exF M N2 k0 := hFN1.tr hGN2
          have hRN2 : RW ly N2.2.2 := by rw [hFN2.1]; exact hR
          refine Rn.aload_n dX12_primary_197 rfl ?_
          refine Rn.callV0 dX12_primary_198 vX12_238 (rc149 hRN2) (by decide) rfl (goOnY (M := N2) hEN2 hRN2) (by omega) ⟨(Nat.le_of_ble_eq_true rfl), (Nat.le_of_ble_eq_true rfl), (Nat.le_of_ble_eq_true rfl)⟩ (fun h => by cases h) (fun v1 ly1 N3 ⟨q1, q2, t1, hEN3⟩ => ?_)
          rw [q1, q2]
          have hFN3 : exF M N3 k0 := hFN2.tr (exF.tok t1)
          have hRN3 : RW ly N3.2.2 := by rw [hFN3.1]; exact hR
          exact Rn.vret dX12_primary_201 rfl ⟨rfl, rfl, hFN3, Or.inl ⟨_, _, _, Dd.lfY hlf (by omega) hbig, hEN3⟩⟩
      · skip
        refine Rn.aload_n dX12_primary_141 rfl ?_
        refine Rn.getI dX12_primary_142 fX12_188 rfl (rc149 hR) ?_
        refine Rn.if_ne dX12_primary_145 (fun h27 => ?_) (fun h27 => ?_)
        · skip
          refine Rn.aload_n dX12_primary_157 rfl ?_
          refine Rn.iconstv (v := 1) dX12_primary_158 ic_1 ?_
          refine Rn.callV1 dX12_primary_159 vX12_231 (rc149 hR) (by decide) rfl (rdWrong (M := M) (x := 1) hE.2.2.1 hR) (by omega) ⟨(Nat.le_of_ble_eq_true rfl), (Nat.le_of_ble_eq_true rfl), (Nat.le_of_ble_eq_true rfl)⟩ (fun h => by cases h) (fun v1 ly1 M1 ⟨q1, q2, q3⟩ => ?_)
          rw [q1, q2, q3]
          obtain ⟨N1, hN1⟩ : ∃ N9, N9 = wrM M 1 := ⟨_, rfl⟩
          rw [← hN1]
          have hfN1 : ¬ N1.1 149 29 = 0 := by rw [hN1]; exact (show ¬ ((1 : Int32) = 0) by decide)
          have hvN1 : N1.1 149 29 = 1 ∧ N1.1 149 30 = M.1 149 26 := by rw [hN1]; exact ⟨rfl, rfl⟩
          have hFN1 : exF M N1 k0 := by rw [hN1]; exact exF.wr
          have hRN1 : RW ly N1.2.2 := by rw [hFN1.1.trans rfl]; exact hR
          refine Rn.aload_n dX12_primary_162 rfl ?_
          refine Rn.callV0 dX12_primary_163 vX12_303 (rc149 hRN1) (by decide) rfl (knot0 (M := N1) hfN1 hRN1) (by omega) ⟨(Nat.le_of_ble_eq_true rfl), (Nat.le_of_ble_eq_true rfl), (Nat.le_of_ble_eq_true rfl)⟩ (fun h => by cases h) (fun v1 ly1 M1 ⟨q1, q2, q3⟩ => ?_)
          rw [q1, q2, q3]
          refine Rn.aload_n dX12_primary_166 rfl ?_
          refine Rn.iload_n dX12_primary_167 rfl ?_
          refine Rn.if_eq dX12_primary_168 (fun h9 => ?_) (fun h9 => (by first | exact absurd h9 (by decide) | exact absurd (by decide) h9))
          refine Rn.iconstv (v := 1) dX12_primary_175 ic_1 ?_
          refine Rn.iload_n dX12_primary_176 rfl ?_
          refine Rn.if_eq dX12_primary_177 (fun h9 => ?_) (fun h9 => (by first | exact absurd h9 (by decide) | exact absurd (by decide) h9))
          refine Rn.aload_n dX12_primary_187 rfl ?_
          refine Rn.getI dX12_primary_188 fX12_198 rfl (rc149 hRN1) ?_
          refine Rn.bipushv (v := 19) dX12_primary_191 bp_19 ?_
          refine Rn.isub dX12_primary_193 ?_
          refine Rn.callV2 dX12_primary_194 vX12_306 (rc149 hRN1) (by decide) rfl (puts0 (M := N1) hfN1 hRN1) (by omega) ⟨(Nat.le_of_ble_eq_true rfl), (Nat.le_of_ble_eq_true rfl), (Nat.le_of_ble_eq_true rfl)⟩ (fun h => by cases h) (fun v1 ly1 M1 ⟨q1, q2, q3⟩ => ?_)
          rw [q1, q2, q3]
          refine Rn.aload_n dX12_primary_197 rfl ?_
          refine Rn.callV0 dX12_primary_198 vX12_238 (rc149 hRN1) (by decide) rfl (rdGo0 (M := N1) hfN1 hRN1) (by omega) ⟨(Nat.le_of_ble_eq_true rfl), (Nat.le_of_ble_eq_true rfl), (Nat.le_of_ble_eq_true rfl)⟩ (fun h => by cases h) (fun v1 ly1 M1 ⟨q1, q2, q3⟩ => ?_)
          rw [q1, q2, q3]
          exact Rn.vret dX12_primary_201 rfl ⟨rfl, rfl, hFN1, Or.inr ⟨1, i, Dd.lfN h35 hlf, hvN1.1, hvN1.2.trans hE.pl⟩⟩
        · skip
          refine Rn.aload_n dX12_primary_148 rfl ?_
          refine Rn.getI dX12_primary_149 fX12_198 rfl (rc149 hR) ?_
          refine Rn.bipushv (v := 19) dX12_primary_152 bp_19 ?_
          refine Rn.icmp_ge dX12_primary_154 (fun h28 => absurd (Or.inr (by rw [← htc.2.1]; exact htc.1.b.2.2.2.2.2.1.mp ⟨h27, h28⟩)) hlf) (fun h28 => ?_)
          refine Rn.aload_n dX12_primary_157 rfl ?_
          refine Rn.iconstv (v := 1) dX12_primary_158 ic_1 ?_
          refine Rn.callV1 dX12_primary_159 vX12_231 (rc149 hR) (by decide) rfl (rdWrong (M := M) (x := 1) hE.2.2.1 hR) (by omega) ⟨(Nat.le_of_ble_eq_true rfl), (Nat.le_of_ble_eq_true rfl), (Nat.le_of_ble_eq_true rfl)⟩ (fun h => by cases h) (fun v1 ly1 M1 ⟨q1, q2, q3⟩ => ?_)
          rw [q1, q2, q3]
          obtain ⟨N1, hN1⟩ : ∃ N9, N9 = wrM M 1 := ⟨_, rfl⟩
          rw [← hN1]
          have hfN1 : ¬ N1.1 149 29 = 0 := by rw [hN1]; exact (show ¬ ((1 : Int32) = 0) by decide)
          have hvN1 : N1.1 149 29 = 1 ∧ N1.1 149 30 = M.1 149 26 := by rw [hN1]; exact ⟨rfl, rfl⟩
          have hFN1 : exF M N1 k0 := by rw [hN1]; exact exF.wr
          have hRN1 : RW ly N1.2.2 := by rw [hFN1.1.trans rfl]; exact hR
          refine Rn.aload_n dX12_primary_162 rfl ?_
          refine Rn.callV0 dX12_primary_163 vX12_303 (rc149 hRN1) (by decide) rfl (knot0 (M := N1) hfN1 hRN1) (by omega) ⟨(Nat.le_of_ble_eq_true rfl), (Nat.le_of_ble_eq_true rfl), (Nat.le_of_ble_eq_true rfl)⟩ (fun h => by cases h) (fun v1 ly1 M1 ⟨q1, q2, q3⟩ => ?_)
          rw [q1, q2, q3]
          refine Rn.aload_n dX12_primary_166 rfl ?_
          refine Rn.iload_n dX12_primary_167 rfl ?_
          refine Rn.if_eq dX12_primary_168 (fun h9 => ?_) (fun h9 => (by first | exact absurd h9 (by decide) | exact absurd (by decide) h9))
          refine Rn.iconstv (v := 1) dX12_primary_175 ic_1 ?_
          refine Rn.iload_n dX12_primary_176 rfl ?_
          refine Rn.if_eq dX12_primary_177 (fun h9 => ?_) (fun h9 => (by first | exact absurd h9 (by decide) | exact absurd (by decide) h9))
          refine Rn.aload_n dX12_primary_187 rfl ?_
          refine Rn.getI dX12_primary_188 fX12_198 rfl (rc149 hRN1) ?_
          refine Rn.bipushv (v := 19) dX12_primary_191 bp_19 ?_
          refine Rn.isub dX12_primary_193 ?_
          refine Rn.callV2 dX12_primary_194 vX12_306 (rc149 hRN1) (by decide) rfl (puts0 (M := N1) hfN1 hRN1) (by omega) ⟨(Nat.le_of_ble_eq_true rfl), (Nat.le_of_ble_eq_true rfl), (Nat.le_of_ble_eq_true rfl)⟩ (fun h => by cases h) (fun v1 ly1 M1 ⟨q1, q2, q3⟩ => ?_)
          rw [q1, q2, q3]
          refine Rn.aload_n dX12_primary_197 rfl ?_
          refine Rn.callV0 dX12_primary_198 vX12_238 (rc149 hRN1) (by decide) rfl (rdGo0 (M := N1) hfN1 hRN1) (by omega) ⟨(Nat.le_of_ble_eq_true rfl), (Nat.le_of_ble_eq_true rfl), (Nat.le_of_ble_eq_true rfl)⟩ (fun h => by cases h) (fun v1 ly1 M1 ⟨q1, q2, q3⟩ => ?_)
          rw [q1, q2, q3]
          exact Rn.vret dX12_primary_201 rfl ⟨rfl, rfl, hFN1, Or.inr ⟨1, i, Dd.lfN h35 hlf, hvN1.1, hvN1.2.trans hE.pl⟩⟩
def ctA (G : Gx) (l : Launch) (ly : Ly) (f : Nat → Int32) (n k0 i : Nat) : Prop := CT G l ly f n k0 7 0 mX12_primary i ∧ CT G l ly f n k0 6 1 mX12_product i ∧ CT G l ly f n k0 5 2 mX12_sum i ∧ CT G l ly f n k0 3 3 mX12_negation i ∧ CT G l ly f n k0 2 4 mX12_conjunction i ∧ CT G l ly f n k0 1 5 mX12_expression i
theorem ct_all {G : Gx} {l : Launch} {ly : Ly} {f : Nat → Int32} {n k0 : Nat} (hby : byA f n) : ∀ (k i : Nat), n + 1 - i ≤ k → ∀ i2, i ≤ i2 → ctA G l ly f n k0 i2
  | 0, i, hk, i2, hi => by
    have hv : ∀ {L lv : Nat} {d : Md}, CT G l ly f n k0 L lv d i2 := fun {L lv d} M o c e hE => absurd hE.1.2.1 (by omega)
    exact ⟨hv, hv, hv, hv, hv, hv⟩
  | k + 1, i, hk, i2, hi => by
    by_cases h : i + 1 ≤ i2
    · exact ct_all hby k (i + 1) (by omega) i2 h
    · obtain rfl : i = i2 := by omega
      have ih := ct_all (G := G) (l := l) (ly := ly) (k0 := k0) hby k (i + 1) (by omega)
      have h7 := tL_primary hby (fun i2 h2 => (ih i2 h2).2.2.2.2.2)
      have g7 : ∀ i2, i ≤ i2 → CT G l ly f n k0 7 0 mX12_primary i2 := fun i2 h2 => (Nat.eq_or_lt_of_le h2).elim (fun e => e ▸ h7) (fun h3 => (ih i2 h3).1)
      have h6 := tL_product hby g7
      have g6 : ∀ i2, i ≤ i2 → CT G l ly f n k0 6 1 mX12_product i2 := fun i2 h2 => (Nat.eq_or_lt_of_le h2).elim (fun e => e ▸ h6) (fun h3 => (ih i2 h3).2.1)
      have h5 := tL_sum hby g6
      have g5 : ∀ i2, i ≤ i2 → CT G l ly f n k0 5 2 mX12_sum i2 := fun i2 h2 => (Nat.eq_or_lt_of_le h2).elim (fun e => e ▸ h5) (fun h3 => (ih i2 h3).2.2.1)
      have h3 := tL_negation hby (fun i2 h2 => (ih i2 h2).2.2.2.1) g5
      have g3 : ∀ i2, i ≤ i2 → CT G l ly f n k0 3 3 mX12_negation i2 := fun i2 h2 => (Nat.eq_or_lt_of_le h2).elim (fun e => e ▸ h3) (fun h3 => (ih i2 h3).2.2.2.1)
      have h2 := tL_conjunction hby g3
      have g2 : ∀ i2, i ≤ i2 → CT G l ly f n k0 2 4 mX12_conjunction i2 := fun i3 h4 => (Nat.eq_or_lt_of_le h4).elim (fun e => e ▸ h2) (fun h5 => (ih i3 h5).2.2.2.2.1)
      exact ⟨h7, h6, h5, h3, h2, tL_expression hby g2⟩
/-- an expression of the reference -/
theorem tX12_expression {G : Gx} {l : Launch} {ly : Ly} {M : Mm} {f : Nat → Int32} {n k0 i c : Nat} (hE : EX M f n i 0 c k0 []) (hk : k0 ≤ c) (hc : c ≤ 64) (hR : RW ly M.2.2) : Mt G l mX12_expression (126, 0, 0, false) [.ref 149] ly M (PT ly M f n k0 1 0 i c []) := by
  have hby : byA f n := by have := hE.1.2.2.1; rw [hE.2.1] at this; exact this
  exact ((ct_all (k0 := k0) hby (n + 1 - i) i (Nat.le_refl _) i (Nat.le_refl i)).2.2.2.2.2 M 0 c [] hE hR hk hc (by decide)).deep (by omega)
